section
-- ===== PART A: goes FIRST, ahead of the names: the tables' words, and 'selects' of the private methods out of them =====
/-- a private method of a class that the tables say can be made, by its rows of tables_1 -/
def lw_okq (q : MethodName × Nat) : Prop := (q.1.cls ≠ "java/lang/invoke/MethodHandle" ∧ q.1.cls ≠ "java/lang/invoke/VarHandle") ∧ Cond.instantiable q.1.cls q.2 ∈ tables_1 ∧ Cond.privateMethod q.1 ∈ tables_1 ∧ Cond.instanceMethod q.1 ∈ tables_1
theorem lw_p0 : lw_okq (⟨"JobBoard", "firstOpenQueue", "()I"⟩, 6) := ⟨⟨by decide +kernel, by decide +kernel⟩, List.mem_of_getElem? (i := 9) (by decide +kernel), List.mem_of_getElem? (i := 269) (by decide +kernel), List.mem_of_getElem? (i := 270) (by decide +kernel)⟩
theorem lw_p1 : lw_okq (⟨"JobBoard", "isOpen", "(I)Z"⟩, 6) := ⟨⟨by decide +kernel, by decide +kernel⟩, List.mem_of_getElem? (i := 9) (by decide +kernel), List.mem_of_getElem? (i := 273) (by decide +kernel), List.mem_of_getElem? (i := 274) (by decide +kernel)⟩
theorem lw_p2 : lw_okq (⟨"JobBoard", "openQueueByCredit", "()I"⟩, 6) := ⟨⟨by decide +kernel, by decide +kernel⟩, List.mem_of_getElem? (i := 9) (by decide +kernel), List.mem_of_getElem? (i := 289) (by decide +kernel), List.mem_of_getElem? (i := 290) (by decide +kernel)⟩
theorem lw_p3 : lw_okq (⟨"JobBoard$Roster", "oldestDead", "()LJobBoard$Job;"⟩, 3) := ⟨⟨by decide +kernel, by decide +kernel⟩, List.mem_of_getElem? (i := 46) (by decide +kernel), List.mem_of_getElem? (i := 313) (by decide +kernel), List.mem_of_getElem? (i := 314) (by decide +kernel)⟩
theorem lw_p4 : lw_okq (⟨"JobBoard$Roster", "nextDue", "(I)LJobBoard$Job;"⟩, 3) := ⟨⟨by decide +kernel, by decide +kernel⟩, List.mem_of_getElem? (i := 46) (by decide +kernel), List.mem_of_getElem? (i := 342) (by decide +kernel), List.mem_of_getElem? (i := 343) (by decide +kernel)⟩
theorem lw_p5 : lw_okq (⟨"JobBoardModel", "store", "(I)V"⟩, 16) := ⟨⟨by decide +kernel, by decide +kernel⟩, List.mem_of_getElem? (i := 419) (by decide +kernel), List.mem_of_getElem? (i := 480) (by decide +kernel), List.mem_of_getElem? (i := 481) (by decide +kernel)⟩
theorem lw_p6 : lw_okq (⟨"JobBoardModel", "out", "(III)Z"⟩, 16) := ⟨⟨by decide +kernel, by decide +kernel⟩, List.mem_of_getElem? (i := 419) (by decide +kernel), List.mem_of_getElem? (i := 488) (by decide +kernel), List.mem_of_getElem? (i := 489) (by decide +kernel)⟩
theorem lw_p7 : lw_okq (⟨"JobBoardModel", "keyTaken", "(I)Z"⟩, 16) := ⟨⟨by decide +kernel, by decide +kernel⟩, List.mem_of_getElem? (i := 419) (by decide +kernel), List.mem_of_getElem? (i := 500) (by decide +kernel), List.mem_of_getElem? (i := 501) (by decide +kernel)⟩
theorem lw_p8 : lw_okq (⟨"JobBoardModel", "isLive", "(I)Z"⟩, 16) := ⟨⟨by decide +kernel, by decide +kernel⟩, List.mem_of_getElem? (i := 419) (by decide +kernel), List.mem_of_getElem? (i := 504) (by decide +kernel), List.mem_of_getElem? (i := 505) (by decide +kernel)⟩
theorem lw_p9 : lw_okq (⟨"JobBoardModel", "of", "(II)I"⟩, 16) := ⟨⟨by decide +kernel, by decide +kernel⟩, List.mem_of_getElem? (i := 419) (by decide +kernel), List.mem_of_getElem? (i := 508) (by decide +kernel), List.mem_of_getElem? (i := 509) (by decide +kernel)⟩
theorem lw_p10 : lw_okq (⟨"JobBoardModel", "make", "(IIIII)I"⟩, 16) := ⟨⟨by decide +kernel, by decide +kernel⟩, List.mem_of_getElem? (i := 419) (by decide +kernel), List.mem_of_getElem? (i := 512) (by decide +kernel), List.mem_of_getElem? (i := 513) (by decide +kernel)⟩
theorem lw_p11 : lw_okq (⟨"JobBoardModel", "set", "(III)V"⟩, 16) := ⟨⟨by decide +kernel, by decide +kernel⟩, List.mem_of_getElem? (i := 419) (by decide +kernel), List.mem_of_getElem? (i := 516) (by decide +kernel), List.mem_of_getElem? (i := 517) (by decide +kernel)⟩
theorem lw_p12 : lw_okq (⟨"JobBoardModel", "ready", "(I)V"⟩, 16) := ⟨⟨by decide +kernel, by decide +kernel⟩, List.mem_of_getElem? (i := 419) (by decide +kernel), List.mem_of_getElem? (i := 520) (by decide +kernel), List.mem_of_getElem? (i := 521) (by decide +kernel)⟩
theorem lw_p13 : lw_okq (⟨"JobBoardModel", "note", "()V"⟩, 16) := ⟨⟨by decide +kernel, by decide +kernel⟩, List.mem_of_getElem? (i := 419) (by decide +kernel), List.mem_of_getElem? (i := 524) (by decide +kernel), List.mem_of_getElem? (i := 525) (by decide +kernel)⟩
theorem lw_p14 : lw_okq (⟨"JobBoardModel", "no", "(I)Z"⟩, 16) := ⟨⟨by decide +kernel, by decide +kernel⟩, List.mem_of_getElem? (i := 419) (by decide +kernel), List.mem_of_getElem? (i := 536) (by decide +kernel), List.mem_of_getElem? (i := 537) (by decide +kernel)⟩
theorem lw_p15 : lw_okq (⟨"JobBoardModel", "choose", "()I"⟩, 16) := ⟨⟨by decide +kernel, by decide +kernel⟩, List.mem_of_getElem? (i := 419) (by decide +kernel), List.mem_of_getElem? (i := 552) (by decide +kernel), List.mem_of_getElem? (i := 553) (by decide +kernel)⟩
def lw_privs_1 : List (MethodName × Nat) := [(⟨"JobBoard", "firstOpenQueue", "()I"⟩, 6), (⟨"JobBoard", "isOpen", "(I)Z"⟩, 6), (⟨"JobBoard", "openQueueByCredit", "()I"⟩, 6), (⟨"JobBoard$Roster", "oldestDead", "()LJobBoard$Job;"⟩, 3), (⟨"JobBoard$Roster", "nextDue", "(I)LJobBoard$Job;"⟩, 3), (⟨"JobBoardModel", "store", "(I)V"⟩, 16), (⟨"JobBoardModel", "out", "(III)Z"⟩, 16), (⟨"JobBoardModel", "keyTaken", "(I)Z"⟩, 16), (⟨"JobBoardModel", "isLive", "(I)Z"⟩, 16), (⟨"JobBoardModel", "of", "(II)I"⟩, 16), (⟨"JobBoardModel", "make", "(IIIII)I"⟩, 16), (⟨"JobBoardModel", "set", "(III)V"⟩, 16), (⟨"JobBoardModel", "ready", "(I)V"⟩, 16), (⟨"JobBoardModel", "note", "()V"⟩, 16), (⟨"JobBoardModel", "no", "(I)Z"⟩, 16), (⟨"JobBoardModel", "choose", "()I"⟩, 16)]
theorem lw_r1 : ∀ q ∈ lw_privs_1, lw_okq q := List.forall_mem_cons.mpr ⟨lw_p0, List.forall_mem_cons.mpr ⟨lw_p1, List.forall_mem_cons.mpr ⟨lw_p2, List.forall_mem_cons.mpr ⟨lw_p3, List.forall_mem_cons.mpr ⟨lw_p4, List.forall_mem_cons.mpr ⟨lw_p5, List.forall_mem_cons.mpr ⟨lw_p6, List.forall_mem_cons.mpr ⟨lw_p7, List.forall_mem_cons.mpr ⟨lw_p8, List.forall_mem_cons.mpr ⟨lw_p9, List.forall_mem_cons.mpr ⟨lw_p10, List.forall_mem_cons.mpr ⟨lw_p11, List.forall_mem_cons.mpr ⟨lw_p12, List.forall_mem_cons.mpr ⟨lw_p13, List.forall_mem_cons.mpr ⟨lw_p14, List.forall_mem_cons.mpr ⟨lw_p15, fun _ h => absurd h List.not_mem_nil⟩⟩⟩⟩⟩⟩⟩⟩⟩⟩⟩⟩⟩⟩⟩⟩
theorem lw_p16 : lw_okq (⟨"JobBoardModel", "isOpen", "(I)Z"⟩, 16) := ⟨⟨by decide +kernel, by decide +kernel⟩, List.mem_of_getElem? (i := 419) (by decide +kernel), List.mem_of_getElem? (i := 556) (by decide +kernel), List.mem_of_getElem? (i := 557) (by decide +kernel)⟩
theorem lw_p17 : lw_okq (⟨"JobBoardModel", "inLine", "(II)I"⟩, 16) := ⟨⟨by decide +kernel, by decide +kernel⟩, List.mem_of_getElem? (i := 419) (by decide +kernel), List.mem_of_getElem? (i := 560) (by decide +kernel), List.mem_of_getElem? (i := 561) (by decide +kernel)⟩
theorem lw_p18 : lw_okq (⟨"JobBoardModel", "goesBefore", "(II)Z"⟩, 16) := ⟨⟨by decide +kernel, by decide +kernel⟩, List.mem_of_getElem? (i := 419) (by decide +kernel), List.mem_of_getElem? (i := 564) (by decide +kernel), List.mem_of_getElem? (i := 565) (by decide +kernel)⟩
theorem lw_p19 : lw_okq (⟨"JobBoardModel", "failing", "(I)V"⟩, 16) := ⟨⟨by decide +kernel, by decide +kernel⟩, List.mem_of_getElem? (i := 419) (by decide +kernel), List.mem_of_getElem? (i := 576) (by decide +kernel), List.mem_of_getElem? (i := 577) (by decide +kernel)⟩
theorem lw_p20 : lw_okq (⟨"JobBoardModel", "die", "(I)V"⟩, 16) := ⟨⟨by decide +kernel, by decide +kernel⟩, List.mem_of_getElem? (i := 419) (by decide +kernel), List.mem_of_getElem? (i := 580) (by decide +kernel), List.mem_of_getElem? (i := 581) (by decide +kernel)⟩
theorem lw_p21 : lw_okq (⟨"JobBoardModel", "wake", "(Z)I"⟩, 16) := ⟨⟨by decide +kernel, by decide +kernel⟩, List.mem_of_getElem? (i := 419) (by decide +kernel), List.mem_of_getElem? (i := 588) (by decide +kernel), List.mem_of_getElem? (i := 589) (by decide +kernel)⟩
def lw_privs_2 : List (MethodName × Nat) := [(⟨"JobBoardModel", "isOpen", "(I)Z"⟩, 16), (⟨"JobBoardModel", "inLine", "(II)I"⟩, 16), (⟨"JobBoardModel", "goesBefore", "(II)Z"⟩, 16), (⟨"JobBoardModel", "failing", "(I)V"⟩, 16), (⟨"JobBoardModel", "die", "(I)V"⟩, 16), (⟨"JobBoardModel", "wake", "(Z)I"⟩, 16)]
theorem lw_r2 : ∀ q ∈ lw_privs_2, lw_okq q := List.forall_mem_cons.mpr ⟨lw_p16, List.forall_mem_cons.mpr ⟨lw_p17, List.forall_mem_cons.mpr ⟨lw_p18, List.forall_mem_cons.mpr ⟨lw_p19, List.forall_mem_cons.mpr ⟨lw_p20, List.forall_mem_cons.mpr ⟨lw_p21, fun _ h => absurd h List.not_mem_nil⟩⟩⟩⟩⟩⟩
def lw_privs : List (MethodName × Nat) := lw_privs_1 ++ (lw_privs_2)
def lw_tbl : List Cond := k2_sels lw_privs ++ tables_1
theorem lw_privs_ok : ∀ q ∈ lw_privs, lw_okq q := by
  show ∀ q ∈ lw_privs_1 ++ (lw_privs_2), lw_okq q
  exact List.forall_mem_append.mpr ⟨lw_r1, lw_r2⟩
end
section
def R_Bo : String := "JobBoard"
def F_Bo : u_T := fun k => match k with
  | 0 => ("JobBoard", "strict", "Z", true)
  | 1 => ("JobBoard", "queues", "[LJobBoard$Queue;", true)
  | 2 => ("JobBoard", "roster", "LJobBoard$Roster;", true)
  | 3 => ("JobBoard", "journal", "LJobBoard$Journal;", true)
  | 4 => ("JobBoard", "time", "I", false)
  | _ => ("JobBoard", "waitingKey", "I", false)
def t_Bo : Nat → FieldType := fun k => match k with
  | 0 => .boolean
  | 1 => .array (.object "JobBoard$Queue")
  | 2 => .object "JobBoard$Roster"
  | 3 => .object "JobBoard$Journal"
  | 4 => .int
  | _ => .int
def R_Qu : String := "JobBoard$Queue"
def F_Qu : u_T := fun k => match k with
  | 0 => ("JobBoard$Queue", "weight", "I", false)
  | 1 => ("JobBoard$Queue", "credit", "I", false)
  | 2 => ("JobBoard$Queue", "capacity", "I", false)
  | 3 => ("JobBoard$Queue", "tokens", "I", false)
  | 4 => ("JobBoard$Queue", "refill", "I", false)
  | _ => ("JobBoard$Queue", "start", "I", false)
def t_Qu : Nat → FieldType := fun k => match k with
  | 0 => .int
  | 1 => .int
  | 2 => .int
  | 3 => .int
  | 4 => .int
  | _ => .int
def R_Jn : String := "JobBoard$Journal"
def F_Jn : u_T := fun k => match k with
  | 0 => ("JobBoard$Journal", "pages", "[LJobBoard$Roster;", true)
  | _ => ("JobBoard$Journal", "unflushed", "I", false)
def t_Jn : Nat → FieldType := fun k => match k with
  | 0 => .array (.object "JobBoard$Roster")
  | _ => .int
def R_Ro : String := "JobBoard$Roster"
def F_Ro : u_T := fun k => match k with
  | 0 => ("JobBoard$Roster", "jobs", "[LJobBoard$Job;", true)
  | 1 => ("JobBoard$Roster", "size", "I", false)
  | _ => ("JobBoard$Roster", "stamps", "I", false)
def t_Ro : Nat → FieldType := fun k => match k with
  | 0 => .array (.object "JobBoard$Job")
  | 1 => .int
  | _ => .int
def R_Jb : String := "JobBoard$Job"
def F_Jb : u_T := fun k => match k with
  | 0 => ("JobBoard$Job", "number", "I", true)
  | 1 => ("JobBoard$Job", "queue", "I", false)
  | 2 => ("JobBoard$Job", "priority", "I", false)
  | 3 => ("JobBoard$Job", "limit", "I", false)
  | 4 => ("JobBoard$Job", "base", "I", false)
  | 5 => ("JobBoard$Job", "key", "I", false)
  | 6 => ("JobBoard$Job", "failures", "I", false)
  | 7 => ("JobBoard$Job", "callback", "I", false)
  | 8 => ("JobBoard$Job", "members", "I", false)
  | 9 => ("JobBoard$Job", "wasSealed", "Z", false)
  | 10 => ("JobBoard$Job", "state", "I", false)
  | 11 => ("JobBoard$Job", "due", "I", false)
  | 12 => ("JobBoard$Job", "worker", "I", false)
  | _ => ("JobBoard$Job", "since", "I", false)
def t_Jb : Nat → FieldType := fun k => match k with
  | 0 => .int
  | 1 => .int
  | 2 => .int
  | 3 => .int
  | 4 => .int
  | 5 => .int
  | 6 => .int
  | 7 => .int
  | 8 => .int
  | 9 => .boolean
  | 10 => .int
  | 11 => .int
  | 12 => .int
  | _ => .int
def R_Mo : String := "JobBoardModel"
def F_Mo : u_T := fun k => match k with
  | 0 => ("JobBoardModel", "strict", "Z", true)
  | 1 => ("JobBoardModel", "now", "I", false)
  | 2 => ("JobBoardModel", "weight", "[I", true)
  | 3 => ("JobBoardModel", "credit", "[I", true)
  | 4 => ("JobBoardModel", "capacity", "[I", true)
  | 5 => ("JobBoardModel", "tokens", "[I", true)
  | 6 => ("JobBoardModel", "refill", "[I", true)
  | 7 => ("JobBoardModel", "start", "[I", true)
  | 8 => ("JobBoardModel", "wanted", "I", false)
  | 9 => ("JobBoardModel", "jobs", "I", false)
  | 10 => ("JobBoardModel", "order", "I", false)
  | 11 => ("JobBoardModel", "records", "I", false)
  | 12 => ("JobBoardModel", "job", "[I", true)
  | 13 => ("JobBoardModel", "copy", "[I", true)
  | 14 => ("JobBoardModel", "copyJobs", "[I", true)
  | _ => ("JobBoardModel", "seen", "[Z", true)
def t_Mo : Nat → FieldType := fun k => match k with
  | 0 => .boolean
  | 1 => .int
  | 2 => .array (.int)
  | 3 => .array (.int)
  | 4 => .array (.int)
  | 5 => .array (.int)
  | 6 => .array (.int)
  | 7 => .array (.int)
  | 8 => .int
  | 9 => .int
  | 10 => .int
  | 11 => .int
  | 12 => .array (.int)
  | 13 => .array (.int)
  | 14 => .array (.int)
  | _ => .array (.boolean)
abbrev gx_cl : List vw_C := [(R_Bo, F_Bo, 6), (R_Qu, F_Qu, 6), (R_Jn, F_Jn, 2), (R_Ro, F_Ro, 3), (R_Jb, F_Jb, 14), (R_Mo, F_Mo, 16)]
abbrev b_Bo_init : ByteArray := prog_1_method_1_code
def y_Bo_init : MethodName := ⟨R_Bo, "<init>", "(I)V"⟩
abbrev b_Qu_init : ByteArray := prog_4_method_1_code
def y_Qu_init : MethodName := ⟨R_Qu, "<init>", "()V"⟩
abbrev b_Ro_init : ByteArray := prog_5_method_1_code
def y_Ro_init : MethodName := ⟨R_Ro, "<init>", "()V"⟩
abbrev b_Jb_init : ByteArray := prog_2_method_1_code
def y_Jb_init : MethodName := ⟨R_Jb, "<init>", "(I)V"⟩
abbrev b_Jn_init : ByteArray := prog_3_method_1_code
def y_Jn_init : MethodName := ⟨R_Jn, "<init>", "()V"⟩
abbrev b_Bo_queue : ByteArray := prog_1_method_2_code
def y_Bo_queue : MethodName := ⟨R_Bo, "queue", "(IIII)I"⟩
abbrev b_Bo_isQueue : ByteArray := prog_1_method_23_code
def y_Bo_isQueue : MethodName := ⟨R_Bo, "isQueue", "(I)Z"⟩
abbrev b_Bo_within : ByteArray := prog_1_method_22_code
def y_Bo_within : MethodName := ⟨R_Bo, "within", "(III)Z"⟩
abbrev b_Qu_set : ByteArray := prog_4_method_2_code
def y_Qu_set : MethodName := ⟨R_Qu, "set", "(IIII)V"⟩
abbrev b_Qu_restart : ByteArray := prog_4_method_3_code
def y_Qu_restart : MethodName := ⟨R_Qu, "restart", "()V"⟩
abbrev b_Bo_key : ByteArray := prog_1_method_3_code
def y_Bo_key : MethodName := ⟨R_Bo, "key", "(I)I"⟩
abbrev b_Bo_submit : ByteArray := prog_1_method_4_code
def y_Bo_submit : MethodName := ⟨R_Bo, "submit", "(IIIII)I"⟩
abbrev b_Ro_hasLiveKey : ByteArray := prog_5_method_13_code
def y_Ro_hasLiveKey : MethodName := ⟨R_Ro, "hasLiveKey", "(I)Z"⟩
abbrev b_Jb_isLive : ByteArray := prog_2_method_4_code
def y_Jb_isLive : MethodName := ⟨R_Jb, "isLive", "()Z"⟩
abbrev b_Ro_make : ByteArray := prog_5_method_4_code
def y_Ro_make : MethodName := ⟨R_Ro, "make", "(II)LJobBoard$Job;"⟩
abbrev b_Jb_begin : ByteArray := prog_2_method_2_code
def y_Jb_begin : MethodName := ⟨R_Jb, "begin", "(II)V"⟩
abbrev b_Ro_enter : ByteArray := prog_5_method_5_code
def y_Ro_enter : MethodName := ⟨R_Ro, "enter", "(LJobBoard$Job;I)V"⟩
abbrev b_Jb_waitUntil : ByteArray := prog_2_method_6_code
def y_Jb_waitUntil : MethodName := ⟨R_Jb, "waitUntil", "(II)V"⟩
abbrev b_Jn_write : ByteArray := prog_3_method_2_code
def y_Jn_write : MethodName := ⟨R_Jn, "write", "(LJobBoard$Roster;)V"⟩
abbrev b_Jn_flushAll : ByteArray := prog_3_method_3_code
def y_Jn_flushAll : MethodName := ⟨R_Jn, "flushAll", "(LJobBoard$Roster;)I"⟩
abbrev b_Ro_copyFrom : ByteArray := prog_5_method_2_code
def y_Ro_copyFrom : MethodName := ⟨R_Ro, "copyFrom", "(LJobBoard$Roster;)V"⟩
abbrev b_Jb_copyFrom : ByteArray := prog_2_method_3_code
def y_Jb_copyFrom : MethodName := ⟨R_Jb, "copyFrom", "(LJobBoard$Job;)V"⟩
abbrev b_Bo_hold : ByteArray := prog_1_method_5_code
def y_Bo_hold : MethodName := ⟨R_Bo, "hold", "(II)I"⟩
abbrev b_Bo_join : ByteArray := prog_1_method_6_code
def y_Bo_join : MethodName := ⟨R_Bo, "join", "(II)I"⟩
abbrev b_Ro_find : ByteArray := prog_5_method_3_code
def y_Ro_find : MethodName := ⟨R_Ro, "find", "(I)LJobBoard$Job;"⟩
abbrev b_Bo_seal : ByteArray := prog_1_method_7_code
def y_Bo_seal : MethodName := ⟨R_Bo, "seal", "(I)I"⟩
abbrev b_Ro_releaseIfComplete : ByteArray := prog_5_method_6_code
def y_Ro_releaseIfComplete : MethodName := ⟨R_Ro, "releaseIfComplete", "(LJobBoard$Job;)V"⟩
abbrev b_Bo_take : ByteArray := prog_1_method_8_code
def y_Bo_take : MethodName := ⟨R_Bo, "take", "(II)I"⟩
abbrev b_Bo_isWorker : ByteArray := prog_1_method_24_code
def y_Bo_isWorker : MethodName := ⟨R_Bo, "isWorker", "(I)Z"⟩
abbrev b_Ro_reservedBy : ByteArray := prog_5_method_14_code
def y_Ro_reservedBy : MethodName := ⟨R_Ro, "reservedBy", "(I)LJobBoard$Job;"⟩
abbrev b_Bo_firstOpenQueue : ByteArray := prog_1_method_27_code
def y_Bo_firstOpenQueue : MethodName := ⟨R_Bo, "firstOpenQueue", "()I"⟩
abbrev b_Bo_isOpen : ByteArray := prog_1_method_26_code
def y_Bo_isOpen : MethodName := ⟨R_Bo, "isOpen", "(I)Z"⟩
abbrev b_Qu_canGive : ByteArray := prog_4_method_4_code
def y_Qu_canGive : MethodName := ⟨R_Qu, "canGive", "()Z"⟩
abbrev b_Ro_nextInLine : ByteArray := prog_5_method_16_code
def y_Ro_nextInLine : MethodName := ⟨R_Ro, "nextInLine", "(ILJobBoard$Job;)LJobBoard$Job;"⟩
abbrev b_Jb_standsBefore : ByteArray := prog_2_method_8_code
def y_Jb_standsBefore : MethodName := ⟨R_Jb, "standsBefore", "(LJobBoard$Job;)Z"⟩
abbrev b_Bo_openQueueByCredit : ByteArray := prog_1_method_28_code
def y_Bo_openQueueByCredit : MethodName := ⟨R_Bo, "openQueueByCredit", "()I"⟩
abbrev b_Qu_spendToken : ByteArray := prog_4_method_5_code
def y_Qu_spendToken : MethodName := ⟨R_Qu, "spendToken", "()V"⟩
abbrev b_Bo_ack : ByteArray := prog_1_method_9_code
def y_Bo_ack : MethodName := ⟨R_Bo, "ack", "(I)I"⟩
abbrev b_Bo_fail : ByteArray := prog_1_method_10_code
def y_Bo_fail : MethodName := ⟨R_Bo, "fail", "(I)I"⟩
abbrev b_Ro_failReserved : ByteArray := prog_5_method_8_code
def y_Ro_failReserved : MethodName := ⟨R_Ro, "failReserved", "(LJobBoard$Job;I)V"⟩
abbrev b_Ro_bury : ByteArray := prog_5_method_9_code
def y_Ro_bury : MethodName := ⟨R_Ro, "bury", "(LJobBoard$Job;)V"⟩
abbrev b_Ro_oldestDead : ByteArray := prog_5_method_10_code
def y_Ro_oldestDead : MethodName := ⟨R_Ro, "oldestDead", "()LJobBoard$Job;"⟩
abbrev b_Ro_countIn : ByteArray := prog_5_method_17_code
def y_Ro_countIn : MethodName := ⟨R_Ro, "countIn", "(I)I"⟩
abbrev b_Jb_retryDelay : ByteArray := prog_2_method_7_code
def y_Jb_retryDelay : MethodName := ⟨R_Jb, "retryDelay", "()I"⟩
abbrev b_Bo_tick : ByteArray := prog_1_method_11_code
def y_Bo_tick : MethodName := ⟨R_Bo, "tick", "(I)I"⟩
abbrev b_Qu_refillBetween : ByteArray := prog_4_method_6_code
def y_Qu_refillBetween : MethodName := ⟨R_Qu, "refillBetween", "(II)V"⟩
abbrev b_Ro_settleDue : ByteArray := prog_5_method_11_code
def y_Ro_settleDue : MethodName := ⟨R_Ro, "settleDue", "(I)I"⟩
abbrev b_Ro_nextDue : ByteArray := prog_5_method_12_code
def y_Ro_nextDue : MethodName := ⟨R_Ro, "nextDue", "(I)LJobBoard$Job;"⟩
abbrev b_Jb_isTimed : ByteArray := prog_2_method_5_code
def y_Jb_isTimed : MethodName := ⟨R_Jb, "isTimed", "()Z"⟩
abbrev b_Bo_revive : ByteArray := prog_1_method_12_code
def y_Bo_revive : MethodName := ⟨R_Bo, "revive", "(I)I"⟩
abbrev b_Bo_kill : ByteArray := prog_1_method_13_code
def y_Bo_kill : MethodName := ⟨R_Bo, "kill", "(I)I"⟩
abbrev b_Bo_flush : ByteArray := prog_1_method_14_code
def y_Bo_flush : MethodName := ⟨R_Bo, "flush", "()I"⟩
abbrev b_Bo_crash : ByteArray := prog_1_method_15_code
def y_Bo_crash : MethodName := ⟨R_Bo, "crash", "(I)I"⟩
abbrev b_Jn_restore : ByteArray := prog_3_method_4_code
def y_Jn_restore : MethodName := ⟨R_Jn, "restore", "(LJobBoard$Roster;I)I"⟩
abbrev b_Ro_releaseReserved : ByteArray := prog_5_method_7_code
def y_Ro_releaseReserved : MethodName := ⟨R_Ro, "releaseReserved", "()V"⟩
abbrev b_Bo_state : ByteArray := prog_1_method_16_code
def y_Bo_state : MethodName := ⟨R_Bo, "state", "(I)I"⟩
abbrev b_Bo_failures : ByteArray := prog_1_method_17_code
def y_Bo_failures : MethodName := ⟨R_Bo, "failures", "(I)I"⟩
abbrev b_Bo_due : ByteArray := prog_1_method_18_code
def y_Bo_due : MethodName := ⟨R_Bo, "due", "(I)I"⟩
abbrev b_Bo_holding : ByteArray := prog_1_method_19_code
def y_Bo_holding : MethodName := ⟨R_Bo, "holding", "(I)I"⟩
abbrev b_Bo_numberOrNone : ByteArray := prog_1_method_25_code
def y_Bo_numberOrNone : MethodName := ⟨R_Bo, "numberOrNone", "(LJobBoard$Job;)I"⟩
abbrev b_Bo_line : ByteArray := prog_1_method_20_code
def y_Bo_line : MethodName := ⟨R_Bo, "line", "(II)I"⟩
abbrev b_Ro_inLine : ByteArray := prog_5_method_15_code
def y_Ro_inLine : MethodName := ⟨R_Ro, "inLine", "(II)LJobBoard$Job;"⟩
abbrev b_Bo_count : ByteArray := prog_1_method_21_code
def y_Bo_count : MethodName := ⟨R_Bo, "count", "(I)I"⟩
abbrev b_Mo_init : ByteArray := prog_7_method_1_code
def y_Mo_init : MethodName := ⟨R_Mo, "<init>", "(I)V"⟩
abbrev b_Mo_flush : ByteArray := prog_7_method_8_code
def y_Mo_flush : MethodName := ⟨R_Mo, "flush", "()I"⟩
abbrev b_Mo_store : ByteArray := prog_7_method_6_code
def y_Mo_store : MethodName := ⟨R_Mo, "store", "(I)V"⟩
abbrev b_Mo_queue : ByteArray := prog_7_method_15_code
def y_Mo_queue : MethodName := ⟨R_Mo, "queue", "(IIII)I"⟩
abbrev b_Mo_out : ByteArray := prog_7_method_2_code
def y_Mo_out : MethodName := ⟨R_Mo, "out", "(III)Z"⟩
abbrev b_Mo_key : ByteArray := prog_7_method_16_code
def y_Mo_key : MethodName := ⟨R_Mo, "key", "(I)I"⟩
abbrev b_Mo_submit : ByteArray := prog_7_method_17_code
def y_Mo_submit : MethodName := ⟨R_Mo, "submit", "(IIIII)I"⟩
abbrev b_Mo_keyTaken : ByteArray := prog_7_method_13_code
def y_Mo_keyTaken : MethodName := ⟨R_Mo, "keyTaken", "(I)Z"⟩
abbrev b_Mo_isLive : ByteArray := prog_7_method_9_code
def y_Mo_isLive : MethodName := ⟨R_Mo, "isLive", "(I)Z"⟩
abbrev b_Mo_of : ByteArray := prog_7_method_4_code
def y_Mo_of : MethodName := ⟨R_Mo, "of", "(II)I"⟩
abbrev b_Mo_make : ByteArray := prog_7_method_14_code
def y_Mo_make : MethodName := ⟨R_Mo, "make", "(IIIII)I"⟩
abbrev b_Mo_set : ByteArray := prog_7_method_5_code
def y_Mo_set : MethodName := ⟨R_Mo, "set", "(III)V"⟩
abbrev b_Mo_ready : ByteArray := prog_7_method_10_code
def y_Mo_ready : MethodName := ⟨R_Mo, "ready", "(I)V"⟩
abbrev b_Mo_note : ByteArray := prog_7_method_7_code
def y_Mo_note : MethodName := ⟨R_Mo, "note", "()V"⟩
abbrev b_Mo_hold : ByteArray := prog_7_method_18_code
def y_Mo_hold : MethodName := ⟨R_Mo, "hold", "(II)I"⟩
abbrev b_Mo_join : ByteArray := prog_7_method_19_code
def y_Mo_join : MethodName := ⟨R_Mo, "join", "(II)I"⟩
abbrev b_Mo_no : ByteArray := prog_7_method_3_code
def y_Mo_no : MethodName := ⟨R_Mo, "no", "(I)Z"⟩
abbrev b_Mo_seal : ByteArray := prog_7_method_20_code
def y_Mo_seal : MethodName := ⟨R_Mo, "seal", "(I)I"⟩
abbrev b_Mo_take : ByteArray := prog_7_method_25_code
def y_Mo_take : MethodName := ⟨R_Mo, "take", "(II)I"⟩
abbrev b_Mo_holding : ByteArray := prog_7_method_36_code
def y_Mo_holding : MethodName := ⟨R_Mo, "holding", "(I)I"⟩
abbrev b_Mo_choose : ByteArray := prog_7_method_24_code
def y_Mo_choose : MethodName := ⟨R_Mo, "choose", "()I"⟩
abbrev b_Mo_isOpen : ByteArray := prog_7_method_23_code
def y_Mo_isOpen : MethodName := ⟨R_Mo, "isOpen", "(I)Z"⟩
abbrev b_Mo_inLine : ByteArray := prog_7_method_21_code
def y_Mo_inLine : MethodName := ⟨R_Mo, "inLine", "(II)I"⟩
abbrev b_Mo_goesBefore : ByteArray := prog_7_method_22_code
def y_Mo_goesBefore : MethodName := ⟨R_Mo, "goesBefore", "(II)Z"⟩
abbrev b_Mo_ack : ByteArray := prog_7_method_26_code
def y_Mo_ack : MethodName := ⟨R_Mo, "ack", "(I)I"⟩
abbrev b_Mo_fail : ByteArray := prog_7_method_27_code
def y_Mo_fail : MethodName := ⟨R_Mo, "fail", "(I)I"⟩
abbrev b_Mo_failing : ByteArray := prog_7_method_12_code
def y_Mo_failing : MethodName := ⟨R_Mo, "failing", "(I)V"⟩
abbrev b_Mo_die : ByteArray := prog_7_method_11_code
def y_Mo_die : MethodName := ⟨R_Mo, "die", "(I)V"⟩
abbrev b_Mo_tick : ByteArray := prog_7_method_29_code
def y_Mo_tick : MethodName := ⟨R_Mo, "tick", "(I)I"⟩
abbrev b_Mo_wake : ByteArray := prog_7_method_28_code
def y_Mo_wake : MethodName := ⟨R_Mo, "wake", "(Z)I"⟩
abbrev b_Mo_revive : ByteArray := prog_7_method_30_code
def y_Mo_revive : MethodName := ⟨R_Mo, "revive", "(I)I"⟩
abbrev b_Mo_kill : ByteArray := prog_7_method_31_code
def y_Mo_kill : MethodName := ⟨R_Mo, "kill", "(I)I"⟩
abbrev b_Mo_crash : ByteArray := prog_7_method_32_code
def y_Mo_crash : MethodName := ⟨R_Mo, "crash", "(I)I"⟩
abbrev b_Mo_state : ByteArray := prog_7_method_33_code
def y_Mo_state : MethodName := ⟨R_Mo, "state", "(I)I"⟩
abbrev b_Mo_failures : ByteArray := prog_7_method_34_code
def y_Mo_failures : MethodName := ⟨R_Mo, "failures", "(I)I"⟩
abbrev b_Mo_due : ByteArray := prog_7_method_35_code
def y_Mo_due : MethodName := ⟨R_Mo, "due", "(I)I"⟩
abbrev b_Mo_line : ByteArray := prog_7_method_37_code
def y_Mo_line : MethodName := ⟨R_Mo, "line", "(II)I"⟩
abbrev b_Mo_count : ByteArray := prog_7_method_38_code
def y_Mo_count : MethodName := ⟨R_Mo, "count", "(I)I"⟩
def gx_tb : List Cond := lw_tbl.filter goodWord
theorem gx_m (i : Nat) {w : Cond} (h : tables_1[i]? = some w) (hg : goodWord w = true) : w ∈ gx_tb := List.mem_filter.mpr ⟨List.mem_append_right _ (List.mem_of_getElem? h), hg⟩
theorem gx_mp (i : Nat) {w : Cond} (h : (k2_sels lw_privs)[i]? = some w) (hg : goodWord w = true) : w ∈ gx_tb := List.mem_filter.mpr ⟨List.mem_append_left _ (List.mem_of_getElem? h), hg⟩
theorem gx_tbl {w : Cond} (h : w ∈ gx_tb) : w ∈ lw_tbl := (List.mem_filter.mp h).1
theorem gx_tbg {w : Cond} (h : w ∈ gx_tb) : goodWord w = true := (List.mem_filter.mp h).2
end
section
/-! THE WORLD: objects and arrays by numbers (0 .. 732), at addresses that never change; the ints in them are a memory -/
abbrev gx_M : Type := Nat → Nat → Int32
def gx_up (σ : gx_M) (o k : Nat) (v : Int32) : gx_M := fun a b => if a = o ∧ b = k then v else σ a b
/-- numbers: 0 board, 1 its queues' array, 2 .. 5 queues, 6 journal, 7 its pages' array, 8 .. 23 pages, 24 the roster, 25 .. 41 their jobs' arrays, 42 + 40 r + i the jobs, 722 the reference, 723 .. 732 its arrays -/
def gx_ci (o : Nat) : Option Nat := if o = 0 then some 0 else if o = 1 then none else if o < 6 then some 1 else if o = 6 then some 2 else if o = 7 then none else if o < 25 then some 3 else if o < 42 then none else if o < 722 then some 4 else if o = 722 then some 5 else none
def gx_N (ci : Nat) : Nat := match ci with
  | 0 => 6
  | 1 => 6
  | 2 => 2
  | 3 => 3
  | 4 => 14
  | _ => 16
/-- the fields that hold a reference, and to what -/
def gx_rf (o k : Nat) : Option Nat :=
  if o = 0 then (if k = 1 then some 1 else if k = 2 then some 24 else if k = 3 then some 6 else none)
  else if o = 6 then (if k = 0 then some 7 else none)
  else if o = 722 then (if 2 ≤ k ∧ k < 8 then some (721 + k) else if 12 ≤ k ∧ k < 16 then some (717 + k) else none)
  else if 8 ≤ o ∧ o < 25 then (if k = 0 then some (o + 17) else none)
  else none
def gx_fv (adr : Nat → Nat) (o k : Nat) (x : Int32) : Value := match gx_rf o k with
  | some q => .ref (adr q)
  | none => .int x
def gx_ta (o : Nat) : Nat := if o = 1 then 2 else if o = 7 then 3 else if o < 42 then 4 else if o = 732 then 1 else 0
def gx_len (o : Nat) : Nat := if o = 1 then 4 else if o = 7 then 16 else if o < 42 then 40 else if o < 729 then 4 else if o = 729 then 520 else if o = 730 then 8320 else if o = 731 then 16 else 40
def gx_el (o i : Nat) : Nat := if o = 1 then 2 + i else if o = 7 then 8 + i else 42 + 40 * (o - 25) + i
def gx_cell (dA : Nat → ClassId) (adr : Nat → Nat) (o : Nat) (r : Nat → Int32) : va_E := match gx_ci o with
  | some ci => .inr (ci, (List.range (gx_N ci)).map (fun k => gx_fv adr o k (r k)))
  | none => if o < 722 then .inl (dA (gx_ta o), gx_len o, .inr (.inr (.inr (.inr (fun i => some (adr (gx_el o i))))))) else .inl (dA (gx_ta o), gx_len o, .inl r)
def gx_ws (dA : Nat → ClassId) (adr : Nat → Nat) (σ : gx_M) : va_W := (List.range 733).map (fun o => (adr o, gx_cell dA adr o (σ o)))
def gx_A (A : Nat → Prop) (adr : Nat → Nat) : Prop := (∀ i j, i < 733 → j < 733 → adr i = adr j → i = j) ∧ ∀ o, o < 733 → A (adr o)
def gx_tys (dA : Nat → ClassId) : List (ClassId × FieldType) := [(dA 0, .int), (dA 1, .boolean), (dA 2, .object R_Qu), (dA 3, .object R_Ro), (dA 4, .object R_Jb)]
theorem gx_ws_at {dA : Nat → ClassId} {adr : Nat → Nat} {σ : gx_M} {o : Nat} (h : o < 733) : (gx_ws dA adr σ)[o]? = some (adr o, gx_cell dA adr o (σ o)) := by
  simp [gx_ws, h]
theorem gx_ws_in {dA : Nat → ClassId} {adr : Nat → Nat} {σ : gx_M} {o : Nat} {q : Nat × va_E} (h : (gx_ws dA adr σ)[o]? = some q) : o < 733 ∧ q = (adr o, gx_cell dA adr o (σ o)) := by
  have hl : o < 733 := by
    have := (List.getElem?_eq_some_iff.mp h).1
    simpa [gx_ws] using this
  rw [gx_ws_at hl] at h
  exact ⟨hl, (Option.some.inj h).symm⟩
theorem gx_ws_set {dA : Nat → ClassId} {adr : Nat → Nat} {σ σ' : gx_M} {o : Nat} {e : va_E} (h : o < 733) (he : e = gx_cell dA adr o (σ' o)) (hn : ∀ a, a ≠ o → σ' a = σ a) : (gx_ws dA adr σ).set o (adr o, e) = gx_ws dA adr σ' := by
  refine List.ext_getElem? fun i => ?_
  by_cases hi : i = o
  · subst hi
    rw [List.getElem?_set_self (by simpa [gx_ws] using h), gx_ws_at h, he]
  · rw [List.getElem?_set_ne (Ne.symm hi)]
    simp [gx_ws, List.getElem?_map]
    rcases hr : (List.range 733)[i]? with _ | j
    · rfl
    · have : j = i := by
        have := List.getElem?_eq_some_iff.mp hr
        obtain ⟨h1, h2⟩ := this
        simpa using h2.symm
      subst this
      simp [hn j hi]
theorem gx_D {dA : Nat → ClassId} {A : Nat → Prop} {adr : Nat → Nat} (h : gx_A A adr) (σ : gx_M) : va_D A (gx_ws dA adr σ) := by
  refine ⟨fun i j p q hi hj hpq => ?_, fun k q hk => ?_⟩
  · obtain ⟨h1, rfl⟩ := gx_ws_in hi
    obtain ⟨h2, rfl⟩ := gx_ws_in hj
    exact h.1 i j h1 h2 hpq
  · obtain ⟨h1, rfl⟩ := gx_ws_in hk
    exact h.2 k h1
theorem gx_ci_lt {o ci : Nat} (h : gx_ci o = some ci) : o < 733 := by
  unfold gx_ci at h
  by_cases h1 : o < 733
  · exact h1
  · rw [if_neg (by omega), if_neg (by omega), if_neg (by omega), if_neg (by omega), if_neg (by omega), if_neg (by omega), if_neg (by omega), if_neg (by omega), if_neg (by omega)] at h
    cases h
theorem gx_ci_q {o : Nat} (h : 2 ≤ o ∧ o < 6) : gx_ci o = some 1 := by
  unfold gx_ci
  rw [if_neg (by omega), if_neg (by omega), if_pos (by omega)]
theorem gx_ci_r {o : Nat} (h : 8 ≤ o ∧ o < 25) : gx_ci o = some 3 := by
  unfold gx_ci
  rw [if_neg (by omega), if_neg (by omega), if_neg (by omega), if_neg (by omega), if_neg (by omega), if_pos (by omega)]
theorem gx_ci_j {o : Nat} (h : 42 ≤ o ∧ o < 722) : gx_ci o = some 4 := by
  unfold gx_ci
  rw [if_neg (by omega), if_neg (by omega), if_neg (by omega), if_neg (by omega), if_neg (by omega), if_neg (by omega), if_neg (by omega), if_pos (by omega)]
theorem gx_ci_a {o : Nat} (h : 25 ≤ o ∧ o < 42) : gx_ci o = none := by
  unfold gx_ci
  rw [if_neg (by omega), if_neg (by omega), if_neg (by omega), if_neg (by omega), if_neg (by omega), if_neg (by omega), if_pos (by omega)]
theorem gx_rf_q {o : Nat} (h : 2 ≤ o ∧ o < 6) (k : Nat) : gx_rf o k = none := by
  unfold gx_rf
  rw [if_neg (by omega), if_neg (by omega), if_neg (by omega), if_neg (by omega)]
theorem gx_rf_j {o : Nat} (h : 42 ≤ o ∧ o < 722) (k : Nat) : gx_rf o k = none := by
  unfold gx_rf
  rw [if_neg (by omega), if_neg (by omega), if_neg (by omega), if_neg (by omega)]
theorem gx_rf_r0 {o : Nat} (h : 8 ≤ o ∧ o < 25) : gx_rf o 0 = some (o + 17) := by
  unfold gx_rf
  rw [if_neg (by omega), if_neg (by omega), if_neg (by omega), if_pos (by omega), if_pos rfl]
theorem gx_rf_r {o : Nat} (h : 8 ≤ o ∧ o < 25) {k : Nat} (hk : k ≠ 0) : gx_rf o k = none := by
  unfold gx_rf
  rw [if_neg (by omega), if_neg (by omega), if_neg (by omega), if_pos (by omega), if_neg hk]
theorem gx_cell_o {dA : Nat → ClassId} {adr : Nat → Nat} {o ci : Nat} {r : Nat → Int32} (h : gx_ci o = some ci) : gx_cell dA adr o r = .inr (ci, (List.range (gx_N ci)).map (fun k => gx_fv adr o k (r k))) := by
  unfold gx_cell
  rw [h]
theorem gx_cell_r {dA : Nat → ClassId} {adr : Nat → Nat} {o : Nat} {r : Nat → Int32} (h : gx_ci o = none) (ho : o < 722) : gx_cell dA adr o r = .inl (dA (gx_ta o), gx_len o, .inr (.inr (.inr (.inr (fun i => some (adr (gx_el o i))))))) := by
  unfold gx_cell
  rw [h]
  exact if_pos ho
theorem gx_cell_i {dA : Nat → ClassId} {adr : Nat → Nat} {o : Nat} {r : Nat → Int32} (h : gx_ci o = none) (ho : ¬ o < 722) : gx_cell dA adr o r = .inl (dA (gx_ta o), gx_len o, .inl r) := by
  unfold gx_cell
  rw [h]
  exact if_neg ho
theorem gx_fs_at {adr : Nat → Nat} {o n k : Nat} {r : Nat → Int32} (h : k < n) : ((List.range n).map (fun k => gx_fv adr o k (r k)))[k]? = some (gx_fv adr o k (r k)) := by
  simp [h]
theorem gx_fs_set {adr : Nat → Nat} {o n k : Nat} {r : Nat → Int32} {v : Int32} (hrf : gx_rf o k = none) : ((List.range n).map (fun k => gx_fv adr o k (r k))).set k (.int v) = (List.range n).map (fun j => gx_fv adr o j (upd r k v j)) := by
  refine List.ext_getElem? fun i => ?_
  by_cases hi : i = k
  · subst hi
    by_cases hn : i < n
    · rw [List.getElem?_set_self (by simpa using hn)]
      simp [hn, gx_fv, hrf, upd]
    · simp [hn]
  · rw [List.getElem?_set_ne (Ne.symm hi)]
    by_cases hn : i < n
    · simp [hn, upd, hi]
    · simp [hn]
theorem gx_up_row {σ : gx_M} {o k : Nat} {v : Int32} : gx_up σ o k v o = upd (σ o) k v := by
  funext j
  simp [gx_up, upd]
theorem gx_up_ne {σ : gx_M} {o k : Nat} {v : Int32} (a : Nat) (h : a ≠ o) : gx_up σ o k v a = σ a := by
  funext j
  simp [gx_up, h]
/-- how the pure functions are opened: a test, a name, a call -/
theorem gx_gd {α : Type} {c : Prop} [Decidable c] {x : Option α} {y : α} (h : (if c then x else none) = some y) : c ∧ x = some y := by
  by_cases hc : c
  · exact ⟨hc, by rwa [if_pos hc] at h⟩
  · rw [if_neg hc] at h; cases h
def gx_lt {α β : Type} (x : α) (k : α → β) : β := k x
theorem gx_lte {α β : Type} {x : α} {k : α → β} {y : β} (h : gx_lt x k = y) : ∃ z, z = x ∧ k z = y := ⟨x, rfl, h⟩
def gx_bd {α β γ : Type} (x : Option (α × β)) (k : α → β → Option γ) : Option γ := match x with
  | some q => k q.1 q.2
  | none => none
theorem gx_bde {α β γ : Type} {x : Option (α × β)} {k : α → β → Option γ} {y : γ} (h : gx_bd x k = some y) : ∃ a b, x = some (a, b) ∧ k a b = some y := by
  cases x with
  | none => cases h
  | some q => exact ⟨q.1, q.2, rfl, h⟩
def gx_bv {β γ : Type} (x : Option β) (k : β → Option γ) : Option γ := match x with
  | some q => k q
  | none => none
theorem gx_bve {β γ : Type} {x : Option β} {k : β → Option γ} {y : γ} (h : gx_bv x k = some y) : ∃ b, x = some b ∧ k b = some y := by
  cases x with
  | none => cases h
  | some q => exact ⟨q, rfl, h⟩
theorem gx_in {i M : Int32} {n : Nat} (h : 0 ≤ i ∧ i < M) (hM : M.toInt = n) : vp_in i n := by
  have h1 := Int32.le_iff_toInt_le.mp h.1
  have h2 := Int32.lt_iff_toInt_lt.mp h.2
  rw [hM] at h2
  exact vp_in_iff.mpr ⟨by simpa using h1, h2⟩
theorem gx_cl_lt {i M : Int32} {n : Nat} (h : 0 ≤ i ∧ i < M) (hM : M.toInt = n) : i.toNatClampNeg < n := Nat.not_le.mp fun q => gx_in h hM (Or.inr q)
def gx_mt {β : Type} (x : Option Nat) (a : β) (f : Nat → β) : β := match x with
  | none => a
  | some o => f o
theorem gx_mtn {β : Type} {a y : β} {f : Nat → β} (h : gx_mt none a f = y) : a = y := h
theorem gx_mts {β : Type} {a y : β} {f : Nat → β} {o : Nat} (h : gx_mt (some o) a f = y) : f o = y := h
theorem gx_el_q {i : Int32} (h : 0 ≤ i ∧ i < 4) : 2 ≤ gx_el 1 i.toNatClampNeg ∧ gx_el 1 i.toNatClampNeg < 6 := by
  have := gx_cl_lt (n := 4) h (by decide)
  unfold gx_el
  rw [if_pos rfl]
  omega
theorem gx_el_p {i : Int32} (h : 0 ≤ i ∧ i < 16) : 8 ≤ gx_el 7 i.toNatClampNeg ∧ gx_el 7 i.toNatClampNeg < 25 := by
  have := gx_cl_lt (n := 16) h (by decide)
  unfold gx_el
  rw [if_neg (by decide), if_pos rfl]
  omega
theorem gx_el_j {o : Nat} (ho : 8 ≤ o ∧ o < 25) {i : Int32} (h : 0 ≤ i ∧ i < 40) : 42 ≤ gx_el (o + 17) i.toNatClampNeg ∧ gx_el (o + 17) i.toNatClampNeg < 722 := by
  have := gx_cl_lt (n := 40) h (by decide)
  unfold gx_el
  rw [if_neg (by omega), if_neg (by omega)]
  omega
theorem gx_nb {v : Int32} (h : v = 0 ∨ v = 1) : narrow .boolean (.int v) = .int v := by
  rcases h with rfl | rfl <;> decide
theorem gx_fb {v : Int32} (h : v = 0 ∨ v = 1) : fits .boolean (.int v) = true := by
  rcases h with rfl | rfl <;> decide
theorem gx_sw8 {x : Int32} (a : ¬ x = 8) (b : ¬ x = 9) (c : ¬ x = 10) : x.toInt < 8 ∨ 10 < x.toInt := by
  have ha : ¬ x.toInt = 8 := fun h => a (Int32.toInt_inj.mp h)
  have hb : ¬ x.toInt = 9 := fun h => b (Int32.toInt_inj.mp h)
  have hc : ¬ x.toInt = 10 := fun h => c (Int32.toInt_inj.mp h)
  omega
theorem gx_cat (x : Option Nat) : (va_rf x).category = 1 := by
  cases x <;> rfl
theorem gx_rfs (a : Nat) : va_rf (some a) = .ref a := rfl
theorem gx_rfn : va_rf none = .null := rfl
end
section
/-- what the words say of a class of the world -/
def gx_Cl (Ts : List Cond) (ci : Nat) (C : String) (T : u_T) (t : Nat → FieldType) : Prop := (∀ w ∈ u_ws C T (gx_N ci), w ∈ Ts) ∧ gx_cl[ci]? = some (C, T, gx_N ci) ∧ (∀ k, k < gx_N ci → (T k).1 = C) ∧ (∀ k, k < gx_N ci → parseFieldDescriptor (T k).2.2.1 = some (t k)) ∧ ∀ a, a < gx_N ci → ∀ b, b < gx_N ci → a ≠ b → (T a).2.1 ≠ (T b).2.1
section GXR
variable {p : Program} {l : Launch} {e : Env} {R : Room} {s : State} {m : MethodId} {args : Array Value} {below : List Frame} {meth : Method} {c : Code} {H : Heap} {locs : List Loc} {cells slots : Nat} {Q : State → Prop}
variable {cc : ByteArray} {pc nL : Nat} {ls : Array Slot} {rest : List Value} {D : va_G} {dA : Nat → ClassId} {adr : Nat → Nat} {A : Nat → Prop} {σ σ' : gx_M} {H0 : Heap} {Ts : List Cond} {own C : String} {T : u_T} {t : Nat → FieldType} {ci index o : Nat}
/-- where a method stands: the machine, its code, the words, the classes -/
def gx_G (p : Program) (m : MethodId) (c : Code) (cc : ByteArray) (nL : Nat) (s : State) (args : Array Value) (Ts : List Cond) (own : String) (D : va_G) (dA : Nat → ClassId) : Prop := CallFix p m c cc nL s args Ts own ∧ va_K D gx_cl (gx_tys dA) s
def gx_I (D : va_G) (dA : Nat → ClassId) (adr : Nat → Nat) (A : Nat → Prop) (H0 : Heap) (σ : gx_M) (H : Heap) (locs : List Loc) : Prop := va_P D gx_cl (gx_ws dA adr σ) H ∧ va_S A H0 H locs
theorem gx_atO (hci : gx_ci o = some ci) : (gx_ws dA adr σ)[o]? = some (adr o, .inr (ci, (List.range (gx_N ci)).map (fun k => gx_fv adr o k (σ o k)))) := by
  rw [gx_ws_at (gx_ci_lt hci), gx_cell_o hci]
theorem gx_get (G : gx_G p m c cc nL s args Ts own D dA) (hI : gx_I D dA adr A H0 σ H locs) (X : gx_Cl Ts ci C T t) (hci : gx_ci o = some ci) (k : Nat) (hk : k < gx_N ci) (hl : Cond.fieldLink own index C (T k).2.1 (T k).2.2.1 ∈ Ts) {v : Value} (hv : gx_fv adr o k (σ o k) = v) (hdg : decode cc pc = .ok (.getfield index, 3))
    (kk : W p l e R s m args below meth c H locs cells slots Q (F0 m (pc + 3) ls (v :: rest))) : W p l e R s m args below meth c H locs cells slots Q (F0 m pc ls (.ref (adr o) :: rest)) := by
  obtain ⟨⟨hx, hb, hml, hown, hts⟩, hK⟩ := G
  obtain ⟨h1, h2, h3, h4, h5⟩ := X
  subst hv
  exact va_get (D := D) (ci := ci) (C := C) (T := T) (N := gx_N ci) hx hb hts h1 hown hK hI.1 o (gx_atO hci) h2 k hk (hts _ hl) (fun x h => by rwa [h3 k hk] at h) (gx_fs_at hk) hdg kk
theorem gx_getI (G : gx_G p m c cc nL s args Ts own D dA) (hI : gx_I D dA adr A H0 σ H locs) (X : gx_Cl Ts ci C T t) (hci : gx_ci o = some ci) (k : Nat) (hk : k < gx_N ci) (hrf : gx_rf o k = none) (hl : Cond.fieldLink own index C (T k).2.1 (T k).2.2.1 ∈ Ts) (hdg : decode cc pc = .ok (.getfield index, 3))
    (kk : W p l e R s m args below meth c H locs cells slots Q (F0 m (pc + 3) ls (.int (σ o k) :: rest))) : W p l e R s m args below meth c H locs cells slots Q (F0 m pc ls (.ref (adr o) :: rest)) :=
  gx_get G hI X hci k hk hl (by unfold gx_fv; rw [hrf]) hdg kk
theorem gx_getR (G : gx_G p m c cc nL s args Ts own D dA) (hI : gx_I D dA adr A H0 σ H locs) (X : gx_Cl Ts ci C T t) (hci : gx_ci o = some ci) (k : Nat) (hk : k < gx_N ci) {o' : Nat} (hrf : gx_rf o k = some o') (hl : Cond.fieldLink own index C (T k).2.1 (T k).2.2.1 ∈ Ts) (hdg : decode cc pc = .ok (.getfield index, 3))
    (kk : W p l e R s m args below meth c H locs cells slots Q (F0 m (pc + 3) ls (.ref (adr o') :: rest))) : W p l e R s m args below meth c H locs cells slots Q (F0 m pc ls (.ref (adr o) :: rest)) :=
  gx_get G hI X hci k hk hl (by unfold gx_fv; rw [hrf]) hdg kk
theorem gx_put (G : gx_G p m c cc nL s args Ts own D dA) (hI : gx_I D dA adr A H0 σ H locs) (hA : gx_A A adr) (X : gx_Cl Ts ci C T t) (hci : gx_ci o = some ci) (k : Nat) (hk : k < gx_N ci) (hrf : gx_rf o k = none) (hl : Cond.fieldLink own index C (T k).2.1 (T k).2.2.1 ∈ Ts) (hfin : (T k).2.2.2 = false) {v : Int32} (hn : narrow (t k) (.int v) = .int v) (hfit : fits (t k) (.int v) = true) (hσ : σ' = gx_up σ o k v) (hdg : decode cc pc = .ok (.putfield index, 3))
    (kk : ∀ (H1 : Heap) (locs1 : List Loc), gx_I D dA adr A H0 σ' H1 locs1 → W p l e R s m args below meth c H1 locs1 cells slots Q (F0 m (pc + 3) ls rest)) : W p l e R s m args below meth c H locs cells slots Q (F0 m pc ls (.int v :: .ref (adr o) :: rest)) := by
  obtain ⟨⟨hx, hb, hml, hown, hts⟩, hK⟩ := G
  obtain ⟨h1, h2, h3, h4, h5⟩ := X
  refine va_put (D := D) (ci := ci) (C := C) (T := T) (N := gx_N ci) (v := .int v) (ty := t k) hx hb hts h1 t h4 h5 hown hK hI.1 (gx_D hA σ) hI.2 o (gx_atO hci) h2 k hk (hts _ hl) (fun x h => by rwa [h3 k hk] at h) hfin (h4 k hk) hn hfit (by simpa using hk) hdg (fun H1 locs1 hP hD hS => kk H1 locs1 ⟨?_, hS⟩)
  rw [gx_fs_set hrf, gx_ws_set (σ' := σ') (gx_ci_lt hci) (by rw [gx_cell_o hci, hσ, gx_up_row]) (fun a ha => by rw [hσ, gx_up_ne a ha])] at hP
  exact hP
theorem gx_ald (G : gx_G p m c cc nL s args Ts own D dA) (hI : gx_I D dA adr A H0 σ H locs) (hci : gx_ci o = none) (ho : o < 722) {E : String} (ht : (gx_tys dA)[gx_ta o]? = some (dA (gx_ta o), .object E)) {i : Int32} (hin : vp_in i (gx_len o)) (hdg : decode cc pc = .ok (.aaload, 1))
    (kk : W p l e R s m args below meth c H locs cells slots Q (F0 m (pc + 1) ls (.ref (adr (gx_el o i.toNatClampNeg)) :: rest))) : W p l e R s m args below meth c H locs cells slots Q (F0 m pc ls (.int i :: .ref (adr o) :: rest)) := by
  obtain ⟨⟨hx, hb, hml, hown, hts⟩, hK⟩ := G
  exact va_aldq (f := fun i => some (adr (gx_el o i))) hx hb hK hI.1 o (gx_ta o) (by rw [gx_ws_at (by omega), gx_cell_r hci ho]) ht hin hdg kk
theorem gx_ild (G : gx_G p m c cc nL s args Ts own D dA) (hI : gx_I D dA adr A H0 σ H locs) (ho : 722 < o ∧ o < 732) {i : Int32} (hin : vp_in i (gx_len o)) (hdg : decode cc pc = .ok (.iaload, 1))
    (kk : W p l e R s m args below meth c H locs cells slots Q (F0 m (pc + 1) ls (.int (σ o i.toNatClampNeg) :: rest))) : W p l e R s m args below meth c H locs cells slots Q (F0 m pc ls (.int i :: .ref (adr o) :: rest)) := by
  obtain ⟨⟨hx, hb, hml, hown, hts⟩, hK⟩ := G
  have hci : gx_ci o = none := by
    unfold gx_ci
    rw [if_neg (by omega), if_neg (by omega), if_neg (by omega), if_neg (by omega), if_neg (by omega), if_neg (by omega), if_neg (by omega), if_neg (by omega), if_neg (by omega)]
  have hta : gx_ta o = 0 := by
    unfold gx_ta
    rw [if_neg (by omega), if_neg (by omega), if_neg (by omega), if_neg (by omega)]
  exact va_iald hx hb hK hI.1 o 0 (by rw [gx_ws_at (by omega), gx_cell_i hci (by omega), hta]) rfl hin hdg kk
theorem gx_ist (G : gx_G p m c cc nL s args Ts own D dA) (hI : gx_I D dA adr A H0 σ H locs) (hA : gx_A A adr) (ho : 722 < o ∧ o < 732) {i x : Int32} (hin : vp_in i (gx_len o)) (hσ : σ' = gx_up σ o i.toNatClampNeg x) (hdg : decode cc pc = .ok (.iastore, 1))
    (kk : ∀ (H1 : Heap) (locs1 : List Loc), gx_I D dA adr A H0 σ' H1 locs1 → W p l e R s m args below meth c H1 locs1 cells slots Q (F0 m (pc + 1) ls rest)) : W p l e R s m args below meth c H locs cells slots Q (F0 m pc ls (.int x :: .int i :: .ref (adr o) :: rest)) := by
  obtain ⟨⟨hx, hb, hml, hown, hts⟩, hK⟩ := G
  have hci : gx_ci o = none := by
    unfold gx_ci
    rw [if_neg (by omega), if_neg (by omega), if_neg (by omega), if_neg (by omega), if_neg (by omega), if_neg (by omega), if_neg (by omega), if_neg (by omega), if_neg (by omega)]
  have hta : gx_ta o = 0 := by
    unfold gx_ta
    rw [if_neg (by omega), if_neg (by omega), if_neg (by omega), if_neg (by omega)]
  refine va_iast hx hb hK hI.1 (gx_D hA σ) hI.2 o 0 (by rw [gx_ws_at (by omega), gx_cell_i hci (by omega), hta]) rfl hin hdg (fun H1 locs1 hP hD hS => kk H1 locs1 ⟨?_, hS⟩)
  rw [gx_ws_set (σ' := σ') (by omega) (by rw [gx_cell_i hci (by omega), hσ, gx_up_row, hta]) (fun a ha => by rw [hσ, gx_up_ne a ha])] at hP
  exact hP
theorem gx_zld (G : gx_G p m c cc nL s args Ts own D dA) (hI : gx_I D dA adr A H0 σ H locs) {i : Int32} (hin : vp_in i 40) (hdg : decode cc pc = .ok (.baload, 1))
    (kk : W p l e R s m args below meth c H locs cells slots Q (F0 m (pc + 1) ls (.int (σ 732 i.toNatClampNeg) :: rest))) : W p l e R s m args below meth c H locs cells slots Q (F0 m pc ls (.int i :: .ref (adr 732) :: rest)) := by
  obtain ⟨⟨hx, hb, hml, hown, hts⟩, hK⟩ := G
  exact va_zald hx hb hK hI.1 732 1 (by rw [gx_ws_at (by omega), gx_cell_i (by decide) (by omega)]; rfl) rfl hin hdg kk
theorem gx_zst (G : gx_G p m c cc nL s args Ts own D dA) (hI : gx_I D dA adr A H0 σ H locs) (hA : gx_A A adr) {i x : Int32} (hx1 : vp_nar .boolean x = x) (hin : vp_in i 40) (hσ : σ' = gx_up σ 732 i.toNatClampNeg x) (hdg : decode cc pc = .ok (.bastore, 1))
    (kk : ∀ (H1 : Heap) (locs1 : List Loc), gx_I D dA adr A H0 σ' H1 locs1 → W p l e R s m args below meth c H1 locs1 cells slots Q (F0 m (pc + 1) ls rest)) : W p l e R s m args below meth c H locs cells slots Q (F0 m pc ls (.int x :: .int i :: .ref (adr 732) :: rest)) := by
  obtain ⟨⟨hx, hb, hml, hown, hts⟩, hK⟩ := G
  refine va_zast hx hb hK hI.1 (gx_D hA σ) hI.2 732 1 (by rw [gx_ws_at (by omega), gx_cell_i (by decide) (by omega)]; rfl) rfl hin hdg (fun H1 locs1 hP hD hS => kk H1 locs1 ⟨?_, hS⟩)
  rw [hx1, gx_ws_set (σ' := σ') (by omega) (by rw [gx_cell_i (by decide) (by omega), hσ, gx_up_row]; rfl) (fun a ha => by rw [hσ, gx_up_ne a ha])] at hP
  exact hP
/-- a method's start and end -/
def gx_Pc (D : va_G) (dA : Nat → ClassId) (adr : Nat → Nat) (σ : gx_M) (av : List Value) : Array Value → State → Prop := va_Pc av (fun U => va_P D gx_cl (gx_ws dA adr σ) U.heap ∧ va_K D gx_cl (gx_tys dA) U)
def gx_Q (D : va_G) (dA : Nat → ClassId) (adr : Nat → Nat) (A : Nat → Prop) (v : Option Value) (σ : gx_M) : Array Value → State → Outcome → State → Prop := fun _ st oc t => oc = .returned v ∧ va_P D gx_cl (gx_ws dA adr σ) t.heap ∧ va_F A st t
theorem gx_blind {av : List Value} : FrameBlind (gx_Pc D dA adr σ av) := fun a U g mk q => by
  obtain ⟨q0, qP, qK⟩ := q
  exact ⟨q0, qP, va_K.moved (u := U) (U := U.calling g mk a) (Vm.Alike.refl U.vm) qK⟩
theorem gx_pre {av : List Value} (G : gx_G p m c cc nL s args Ts own D dA) (hI : gx_I D dA adr A H0 σ H locs) : PreS s H (gx_Pc D dA adr σ av) av :=
  ⟨gx_blind, fun U hU hW => ⟨rfl, by rw [hU]; exact hI.1, va_K.moved hW.alike G.2⟩⟩
theorem gx_preV {av : List Value} (G : gx_G p m c cc nL s args Ts own D dA) (hI : gx_I D dA adr A H0 σ H locs) (X : gx_Cl Ts ci C T t) (hci : gx_ci o = some ci) : PreV s H C (adr o) (gx_Pc D dA adr σ (.ref (adr o) :: av)) av :=
  ⟨gx_blind, va_recv G.2 hI.1 (ci := ci) (q0 := o) X.2.1 (gx_atO hci), fun U hU hW => ⟨rfl, by rw [hU]; exact hI.1, va_K.moved hW.alike G.2⟩⟩
theorem gx_go {v : Option Value} {st0 st1 : List Value} {a : Array Value} (hr : va_Run p l e R s m args below meth c H locs cells slots 0 0 (F0 m pc ls st0) rest (gx_Q D dA adr A v σ' a) A) (hI : gx_I D dA adr A H0 σ H locs) (hst : v.toList ++ rest = st1)
    (kk : ∀ (H1 : Heap) (locs1 : List Loc), gx_I D dA adr A H0 σ' H1 locs1 → W p l e R s m args below meth c H1 locs1 cells slots Q (F0 m (pc + 3) ls st1)) : W p l e R s m args below meth c H locs cells slots Q (F0 m pc ls st0) := by
  subst hst
  intro T hT X
  obtain ⟨v', st₀, t, T', L, h0, X', hL, e1, e2, ⟨hv, hP, hz, hk⟩, st⟩ := hr T hT X
  cases hv
  rw [h0] at hz hk
  have hS := hI.2
  obtain ⟨t2, a1, b1⟩ := kk T'.heap (locs ++ L) ⟨by rw [e1]; exact hP, Nat.le_trans hS.1 (by rw [e1]; exact hz), fun q h1 h2 => by rw [e1, hk q (Nat.lt_of_lt_of_le h1 hS.1) h2]; exact hS.2.1 q h1 h2, fun q hq => by
      rcases List.mem_append.mp hq with h | h
      · exact hS.2.2 q h
      · exact hL q h⟩ T' rfl X'
  exact ⟨t2, st t2 a1, b1⟩
/-- a method's end -/
theorem gx_F {v : Option Value} {a : Array Value} (hI : gx_I D dA adr A s.heap σ H locs) : ∀ t : State, t.heap = H → s.WarmedH t.vm → gx_Q D dA adr A v σ a s (.returned v) t := fun t ht _ => ⟨rfl, by rw [ht]; exact hI.1, hI.2.F ht⟩
theorem gx_aldQ (G : gx_G p m c cc nL s args Ts own D dA) (hI : gx_I D dA adr A H0 σ H locs) {i : Int32} (hi : 0 ≤ i ∧ i < 4) (hdg : decode cc pc = .ok (.aaload, 1))
    (kk : W p l e R s m args below meth c H locs cells slots Q (F0 m (pc + 1) ls (.ref (adr (gx_el 1 i.toNatClampNeg)) :: rest))) : W p l e R s m args below meth c H locs cells slots Q (F0 m pc ls (.int i :: .ref (adr 1) :: rest)) :=
  gx_ald G hI (by decide) (by decide) (E := R_Qu) rfl (gx_in hi (by decide)) hdg kk
theorem gx_aldP (G : gx_G p m c cc nL s args Ts own D dA) (hI : gx_I D dA adr A H0 σ H locs) {i : Int32} (hi : 0 ≤ i ∧ i < 16) (hdg : decode cc pc = .ok (.aaload, 1))
    (kk : W p l e R s m args below meth c H locs cells slots Q (F0 m (pc + 1) ls (.ref (adr (gx_el 7 i.toNatClampNeg)) :: rest))) : W p l e R s m args below meth c H locs cells slots Q (F0 m pc ls (.int i :: .ref (adr 7) :: rest)) :=
  gx_ald G hI (by decide) (by decide) (E := R_Ro) rfl (gx_in hi (by decide)) hdg kk
theorem gx_aldJ (G : gx_G p m c cc nL s args Ts own D dA) (hI : gx_I D dA adr A H0 σ H locs) (ho : 8 ≤ o ∧ o < 25) {i : Int32} (hi : 0 ≤ i ∧ i < 40) (hdg : decode cc pc = .ok (.aaload, 1))
    (kk : W p l e R s m args below meth c H locs cells slots Q (F0 m (pc + 1) ls (.ref (adr (gx_el (o + 17) i.toNatClampNeg)) :: rest))) : W p l e R s m args below meth c H locs cells slots Q (F0 m pc ls (.int i :: .ref (adr (o + 17)) :: rest)) := by
  have hta : gx_ta (o + 17) = 4 := by
    unfold gx_ta
    rw [if_neg (by omega), if_neg (by omega), if_pos (by omega)]
  have hln : gx_len (o + 17) = 40 := by
    unfold gx_len
    rw [if_neg (by omega), if_neg (by omega), if_pos (by omega)]
  exact gx_ald G hI (gx_ci_a (by omega)) (by omega) (E := R_Jb) (by rw [hta]; rfl) (by rw [hln]; exact gx_in hi (by decide)) hdg kk
theorem gx_top {x y : Int32} (h : y = x) (k : W p l e R s m args below meth c H locs cells slots Q (F0 m pc ls (.int y :: rest))) : W p l e R s m args below meth c H locs cells slots Q (F0 m pc ls (.int x :: rest)) := by
  subst h
  exact k
end GXR
end
section
theorem gx_gv {own C : String} {idx : Nat} {y : MethodName} {cd : Cond} (h1 : Cond.methodLink own idx y ∈ gx_tb) (h2 : Cond.instanceMethod y ∈ gx_tb) (h3 : Cond.selects C y y ∈ gx_tb) (h4 : Cond.initialized C ∈ gx_tb) (h5 : cd ∈ gx_tb) : GoodIn gx_tb (wsV own idx C y (cd :: gx_tb)) := by
  intro w hw
  have hm : w ∈ gx_tb := by
    simp only [wsV, List.mem_append, List.mem_cons, List.not_mem_nil, or_false] at hw
    rcases hw with (rfl | rfl | rfl | rfl) | rfl | hw
    · exact h1
    · exact h2
    · exact h3
    · exact h4
    · exact h5
    · exact hw
  exact ⟨hm, good_of_word (gx_tbg hm)⟩
theorem gx_gs {own : String} {idx : Nat} {y : MethodName} {cd : Cond} (h1 : Cond.methodLink own idx y ∈ gx_tb) (h2 : Cond.static y ∈ gx_tb) (h3 : Cond.initialized own ∈ gx_tb) (h4 : cd ∈ gx_tb) : GoodIn gx_tb (wsS own idx y (cd :: gx_tb)) := by
  intro w hw
  have hm : w ∈ gx_tb := by
    simp only [wsS, List.mem_append, List.mem_cons, List.not_mem_nil, or_false] at hw
    rcases hw with (rfl | rfl | rfl) | rfl | hw
    · exact h1
    · exact h2
    · exact h3
    · exact h4
    · exact hw
  exact ⟨hm, good_of_word (gx_tbg hm)⟩
theorem la_Bo_0 : u_lay R_Bo F_Bo 0 ∈ gx_tb := gx_m 156 (by decide +kernel) (by decide +kernel)
theorem la_Bo_1 : u_lay R_Bo F_Bo 1 ∈ gx_tb := gx_m 158 (by decide +kernel) (by decide +kernel)
theorem la_Bo_2 : u_lay R_Bo F_Bo 2 ∈ gx_tb := gx_m 160 (by decide +kernel) (by decide +kernel)
theorem la_Bo_3 : u_lay R_Bo F_Bo 3 ∈ gx_tb := gx_m 162 (by decide +kernel) (by decide +kernel)
theorem la_Bo_4 : u_lay R_Bo F_Bo 4 ∈ gx_tb := gx_m 164 (by decide +kernel) (by decide +kernel)
theorem la_Bo_5 : u_lay R_Bo F_Bo 5 ∈ gx_tb := gx_m 166 (by decide +kernel) (by decide +kernel)
theorem la_Bo : ∀ w ∈ u_ws R_Bo F_Bo (gx_N 0), w ∈ gx_tb := by
  intro w hw
  obtain ⟨k, hk, rfl⟩ := List.mem_map.mp hw
  have hk : k < 6 := List.mem_range.mp hk
  match k, hk with
  | 0, _ => exact la_Bo_0
  | 1, _ => exact la_Bo_1
  | 2, _ => exact la_Bo_2
  | 3, _ => exact la_Bo_3
  | 4, _ => exact la_Bo_4
  | 5, _ => exact la_Bo_5
  | k + 6, h => exact absurd h (by omega)
theorem cl_Bo : gx_Cl gx_tb 0 R_Bo F_Bo t_Bo := ⟨la_Bo, rfl, by decide +kernel, by decide +kernel, by decide +kernel⟩
theorem la_Qu_0 : u_lay R_Qu F_Qu 0 ∈ gx_tb := gx_m 32 (by decide +kernel) (by decide +kernel)
theorem la_Qu_1 : u_lay R_Qu F_Qu 1 ∈ gx_tb := gx_m 34 (by decide +kernel) (by decide +kernel)
theorem la_Qu_2 : u_lay R_Qu F_Qu 2 ∈ gx_tb := gx_m 36 (by decide +kernel) (by decide +kernel)
theorem la_Qu_3 : u_lay R_Qu F_Qu 3 ∈ gx_tb := gx_m 38 (by decide +kernel) (by decide +kernel)
theorem la_Qu_4 : u_lay R_Qu F_Qu 4 ∈ gx_tb := gx_m 40 (by decide +kernel) (by decide +kernel)
theorem la_Qu_5 : u_lay R_Qu F_Qu 5 ∈ gx_tb := gx_m 42 (by decide +kernel) (by decide +kernel)
theorem la_Qu : ∀ w ∈ u_ws R_Qu F_Qu (gx_N 1), w ∈ gx_tb := by
  intro w hw
  obtain ⟨k, hk, rfl⟩ := List.mem_map.mp hw
  have hk : k < 6 := List.mem_range.mp hk
  match k, hk with
  | 0, _ => exact la_Qu_0
  | 1, _ => exact la_Qu_1
  | 2, _ => exact la_Qu_2
  | 3, _ => exact la_Qu_3
  | 4, _ => exact la_Qu_4
  | 5, _ => exact la_Qu_5
  | k + 6, h => exact absurd h (by omega)
theorem cl_Qu : gx_Cl gx_tb 1 R_Qu F_Qu t_Qu := ⟨la_Qu, rfl, by decide +kernel, by decide +kernel, by decide +kernel⟩
theorem la_Jn_0 : u_lay R_Jn F_Jn 0 ∈ gx_tb := gx_m 145 (by decide +kernel) (by decide +kernel)
theorem la_Jn_1 : u_lay R_Jn F_Jn 1 ∈ gx_tb := gx_m 147 (by decide +kernel) (by decide +kernel)
theorem la_Jn : ∀ w ∈ u_ws R_Jn F_Jn (gx_N 2), w ∈ gx_tb := by
  intro w hw
  obtain ⟨k, hk, rfl⟩ := List.mem_map.mp hw
  have hk : k < 2 := List.mem_range.mp hk
  match k, hk with
  | 0, _ => exact la_Jn_0
  | 1, _ => exact la_Jn_1
  | k + 2, h => exact absurd h (by omega)
theorem cl_Jn : gx_Cl gx_tb 2 R_Jn F_Jn t_Jn := ⟨la_Jn, rfl, by decide +kernel, by decide +kernel, by decide +kernel⟩
theorem la_Ro_0 : u_lay R_Ro F_Ro 0 ∈ gx_tb := gx_m 126 (by decide +kernel) (by decide +kernel)
theorem la_Ro_1 : u_lay R_Ro F_Ro 1 ∈ gx_tb := gx_m 128 (by decide +kernel) (by decide +kernel)
theorem la_Ro_2 : u_lay R_Ro F_Ro 2 ∈ gx_tb := gx_m 130 (by decide +kernel) (by decide +kernel)
theorem la_Ro : ∀ w ∈ u_ws R_Ro F_Ro (gx_N 3), w ∈ gx_tb := by
  intro w hw
  obtain ⟨k, hk, rfl⟩ := List.mem_map.mp hw
  have hk : k < 3 := List.mem_range.mp hk
  match k, hk with
  | 0, _ => exact la_Ro_0
  | 1, _ => exact la_Ro_1
  | 2, _ => exact la_Ro_2
  | k + 3, h => exact absurd h (by omega)
theorem cl_Ro : gx_Cl gx_tb 3 R_Ro F_Ro t_Ro := ⟨la_Ro, rfl, by decide +kernel, by decide +kernel, by decide +kernel⟩
theorem la_Jb_0 : u_lay R_Jb F_Jb 0 ∈ gx_tb := gx_m 93 (by decide +kernel) (by decide +kernel)
theorem la_Jb_1 : u_lay R_Jb F_Jb 1 ∈ gx_tb := gx_m 95 (by decide +kernel) (by decide +kernel)
theorem la_Jb_2 : u_lay R_Jb F_Jb 2 ∈ gx_tb := gx_m 97 (by decide +kernel) (by decide +kernel)
theorem la_Jb_3 : u_lay R_Jb F_Jb 3 ∈ gx_tb := gx_m 99 (by decide +kernel) (by decide +kernel)
theorem la_Jb_4 : u_lay R_Jb F_Jb 4 ∈ gx_tb := gx_m 101 (by decide +kernel) (by decide +kernel)
theorem la_Jb_5 : u_lay R_Jb F_Jb 5 ∈ gx_tb := gx_m 103 (by decide +kernel) (by decide +kernel)
theorem la_Jb_6 : u_lay R_Jb F_Jb 6 ∈ gx_tb := gx_m 105 (by decide +kernel) (by decide +kernel)
theorem la_Jb_7 : u_lay R_Jb F_Jb 7 ∈ gx_tb := gx_m 107 (by decide +kernel) (by decide +kernel)
theorem la_Jb_8 : u_lay R_Jb F_Jb 8 ∈ gx_tb := gx_m 109 (by decide +kernel) (by decide +kernel)
theorem la_Jb_9 : u_lay R_Jb F_Jb 9 ∈ gx_tb := gx_m 111 (by decide +kernel) (by decide +kernel)
theorem la_Jb_10 : u_lay R_Jb F_Jb 10 ∈ gx_tb := gx_m 113 (by decide +kernel) (by decide +kernel)
theorem la_Jb_11 : u_lay R_Jb F_Jb 11 ∈ gx_tb := gx_m 115 (by decide +kernel) (by decide +kernel)
theorem la_Jb_12 : u_lay R_Jb F_Jb 12 ∈ gx_tb := gx_m 117 (by decide +kernel) (by decide +kernel)
theorem la_Jb_13 : u_lay R_Jb F_Jb 13 ∈ gx_tb := gx_m 119 (by decide +kernel) (by decide +kernel)
theorem la_Jb : ∀ w ∈ u_ws R_Jb F_Jb (gx_N 4), w ∈ gx_tb := by
  intro w hw
  obtain ⟨k, hk, rfl⟩ := List.mem_map.mp hw
  have hk : k < 14 := List.mem_range.mp hk
  match k, hk with
  | 0, _ => exact la_Jb_0
  | 1, _ => exact la_Jb_1
  | 2, _ => exact la_Jb_2
  | 3, _ => exact la_Jb_3
  | 4, _ => exact la_Jb_4
  | 5, _ => exact la_Jb_5
  | 6, _ => exact la_Jb_6
  | 7, _ => exact la_Jb_7
  | 8, _ => exact la_Jb_8
  | 9, _ => exact la_Jb_9
  | 10, _ => exact la_Jb_10
  | 11, _ => exact la_Jb_11
  | 12, _ => exact la_Jb_12
  | 13, _ => exact la_Jb_13
  | k + 14, h => exact absurd h (by omega)
theorem cl_Jb : gx_Cl gx_tb 4 R_Jb F_Jb t_Jb := ⟨la_Jb, rfl, by decide +kernel, by decide +kernel, by decide +kernel⟩
theorem la_Mo_0 : u_lay R_Mo F_Mo 0 ∈ gx_tb := gx_m 440 (by decide +kernel) (by decide +kernel)
theorem la_Mo_1 : u_lay R_Mo F_Mo 1 ∈ gx_tb := gx_m 442 (by decide +kernel) (by decide +kernel)
theorem la_Mo_2 : u_lay R_Mo F_Mo 2 ∈ gx_tb := gx_m 444 (by decide +kernel) (by decide +kernel)
theorem la_Mo_3 : u_lay R_Mo F_Mo 3 ∈ gx_tb := gx_m 446 (by decide +kernel) (by decide +kernel)
theorem la_Mo_4 : u_lay R_Mo F_Mo 4 ∈ gx_tb := gx_m 448 (by decide +kernel) (by decide +kernel)
theorem la_Mo_5 : u_lay R_Mo F_Mo 5 ∈ gx_tb := gx_m 450 (by decide +kernel) (by decide +kernel)
theorem la_Mo_6 : u_lay R_Mo F_Mo 6 ∈ gx_tb := gx_m 452 (by decide +kernel) (by decide +kernel)
theorem la_Mo_7 : u_lay R_Mo F_Mo 7 ∈ gx_tb := gx_m 454 (by decide +kernel) (by decide +kernel)
theorem la_Mo_8 : u_lay R_Mo F_Mo 8 ∈ gx_tb := gx_m 456 (by decide +kernel) (by decide +kernel)
theorem la_Mo_9 : u_lay R_Mo F_Mo 9 ∈ gx_tb := gx_m 458 (by decide +kernel) (by decide +kernel)
theorem la_Mo_10 : u_lay R_Mo F_Mo 10 ∈ gx_tb := gx_m 460 (by decide +kernel) (by decide +kernel)
theorem la_Mo_11 : u_lay R_Mo F_Mo 11 ∈ gx_tb := gx_m 462 (by decide +kernel) (by decide +kernel)
theorem la_Mo_12 : u_lay R_Mo F_Mo 12 ∈ gx_tb := gx_m 464 (by decide +kernel) (by decide +kernel)
theorem la_Mo_13 : u_lay R_Mo F_Mo 13 ∈ gx_tb := gx_m 466 (by decide +kernel) (by decide +kernel)
theorem la_Mo_14 : u_lay R_Mo F_Mo 14 ∈ gx_tb := gx_m 468 (by decide +kernel) (by decide +kernel)
theorem la_Mo_15 : u_lay R_Mo F_Mo 15 ∈ gx_tb := gx_m 470 (by decide +kernel) (by decide +kernel)
theorem la_Mo : ∀ w ∈ u_ws R_Mo F_Mo (gx_N 5), w ∈ gx_tb := by
  intro w hw
  obtain ⟨k, hk, rfl⟩ := List.mem_map.mp hw
  have hk : k < 16 := List.mem_range.mp hk
  match k, hk with
  | 0, _ => exact la_Mo_0
  | 1, _ => exact la_Mo_1
  | 2, _ => exact la_Mo_2
  | 3, _ => exact la_Mo_3
  | 4, _ => exact la_Mo_4
  | 5, _ => exact la_Mo_5
  | 6, _ => exact la_Mo_6
  | 7, _ => exact la_Mo_7
  | 8, _ => exact la_Mo_8
  | 9, _ => exact la_Mo_9
  | 10, _ => exact la_Mo_10
  | 11, _ => exact la_Mo_11
  | 12, _ => exact la_Mo_12
  | 13, _ => exact la_Mo_13
  | 14, _ => exact la_Mo_14
  | 15, _ => exact la_Mo_15
  | k + 16, h => exact absurd h (by omega)
theorem cl_Mo : gx_Cl gx_tb 5 R_Mo F_Mo t_Mo := ⟨la_Mo, rfl, by decide +kernel, by decide +kernel, by decide +kernel⟩
theorem fl_Bo_9 : Cond.fieldLink R_Bo 9 R_Bo (F_Bo 0).2.1 (F_Bo 0).2.2.1 ∈ gx_tb := gx_m 150 (by decide +kernel) (by decide +kernel)
theorem fl_Bo_15 : Cond.fieldLink R_Bo 15 R_Bo (F_Bo 1).2.1 (F_Bo 1).2.2.1 ∈ gx_tb := gx_m 151 (by decide +kernel) (by decide +kernel)
theorem fl_Bo_23 : Cond.fieldLink R_Bo 23 R_Bo (F_Bo 2).2.1 (F_Bo 2).2.2.1 ∈ gx_tb := gx_m 152 (by decide +kernel) (by decide +kernel)
theorem fl_Bo_30 : Cond.fieldLink R_Bo 30 R_Bo (F_Bo 3).2.1 (F_Bo 3).2.2.1 ∈ gx_tb := gx_m 153 (by decide +kernel) (by decide +kernel)
theorem fl_Bo_34 : Cond.fieldLink R_Bo 34 R_Bo (F_Bo 4).2.1 (F_Bo 4).2.2.1 ∈ gx_tb := gx_m 154 (by decide +kernel) (by decide +kernel)
theorem fl_Bo_38 : Cond.fieldLink R_Bo 38 R_Bo (F_Bo 5).2.1 (F_Bo 5).2.2.1 ∈ gx_tb := gx_m 155 (by decide +kernel) (by decide +kernel)
theorem fl_Bo_60 : Cond.fieldLink R_Bo 60 R_Jb (F_Jb 3).2.1 (F_Jb 3).2.2.1 ∈ gx_tb := gx_m 64 (by decide +kernel) (by decide +kernel)
theorem fl_Bo_65 : Cond.fieldLink R_Bo 65 R_Jb (F_Jb 4).2.1 (F_Jb 4).2.2.1 ∈ gx_tb := gx_m 67 (by decide +kernel) (by decide +kernel)
theorem fl_Bo_68 : Cond.fieldLink R_Bo 68 R_Jb (F_Jb 5).2.1 (F_Jb 5).2.2.1 ∈ gx_tb := gx_m 69 (by decide +kernel) (by decide +kernel)
theorem fl_Bo_83 : Cond.fieldLink R_Bo 83 R_Jb (F_Jb 0).2.1 (F_Jb 0).2.2.1 ∈ gx_tb := gx_m 59 (by decide +kernel) (by decide +kernel)
theorem fl_Bo_94 : Cond.fieldLink R_Bo 94 R_Jb (F_Jb 7).2.1 (F_Jb 7).2.2.1 ∈ gx_tb := gx_m 75 (by decide +kernel) (by decide +kernel)
theorem fl_Bo_97 : Cond.fieldLink R_Bo 97 R_Jb (F_Jb 10).2.1 (F_Jb 10).2.2.1 ∈ gx_tb := gx_m 84 (by decide +kernel) (by decide +kernel)
theorem fl_Bo_100 : Cond.fieldLink R_Bo 100 R_Jb (F_Jb 8).2.1 (F_Jb 8).2.2.1 ∈ gx_tb := gx_m 78 (by decide +kernel) (by decide +kernel)
theorem fl_Bo_103 : Cond.fieldLink R_Bo 103 R_Jb (F_Jb 9).2.1 (F_Jb 9).2.2.1 ∈ gx_tb := gx_m 81 (by decide +kernel) (by decide +kernel)
theorem fl_Bo_130 : Cond.fieldLink R_Bo 130 R_Jb (F_Jb 12).2.1 (F_Jb 12).2.2.1 ∈ gx_tb := gx_m 89 (by decide +kernel) (by decide +kernel)
theorem fl_Bo_143 : Cond.fieldLink R_Bo 143 R_Jb (F_Jb 6).2.1 (F_Jb 6).2.2.1 ∈ gx_tb := gx_m 73 (by decide +kernel) (by decide +kernel)
theorem fl_Bo_166 : Cond.fieldLink R_Bo 166 R_Jb (F_Jb 11).2.1 (F_Jb 11).2.2.1 ∈ gx_tb := gx_m 87 (by decide +kernel) (by decide +kernel)
theorem fl_Bo_179 : Cond.fieldLink R_Bo 179 R_Qu (F_Qu 3).2.1 (F_Qu 3).2.2.1 ∈ gx_tb := gx_m 29 (by decide +kernel) (by decide +kernel)
theorem fl_Bo_182 : Cond.fieldLink R_Bo 182 R_Ro (F_Ro 1).2.1 (F_Ro 1).2.2.1 ∈ gx_tb := gx_m 124 (by decide +kernel) (by decide +kernel)
theorem fl_Bo_185 : Cond.fieldLink R_Bo 185 R_Jn (F_Jn 1).2.1 (F_Jn 1).2.2.1 ∈ gx_tb := gx_m 144 (by decide +kernel) (by decide +kernel)
theorem fl_Bo_194 : Cond.fieldLink R_Bo 194 R_Qu (F_Qu 1).2.1 (F_Qu 1).2.2.1 ∈ gx_tb := gx_m 26 (by decide +kernel) (by decide +kernel)
theorem fl_Bo_197 : Cond.fieldLink R_Bo 197 R_Qu (F_Qu 0).2.1 (F_Qu 0).2.2.1 ∈ gx_tb := gx_m 24 (by decide +kernel) (by decide +kernel)
theorem fl_Jb_15 : Cond.fieldLink R_Jb 15 R_Jb (F_Jb 1).2.1 (F_Jb 1).2.2.1 ∈ gx_tb := gx_m 60 (by decide +kernel) (by decide +kernel)
theorem fl_Jb_18 : Cond.fieldLink R_Jb 18 R_Jb (F_Jb 2).2.1 (F_Jb 2).2.2.1 ∈ gx_tb := gx_m 62 (by decide +kernel) (by decide +kernel)
theorem fl_Jb_21 : Cond.fieldLink R_Jb 21 R_Jb (F_Jb 3).2.1 (F_Jb 3).2.2.1 ∈ gx_tb := gx_m 63 (by decide +kernel) (by decide +kernel)
theorem fl_Jb_24 : Cond.fieldLink R_Jb 24 R_Jb (F_Jb 4).2.1 (F_Jb 4).2.2.1 ∈ gx_tb := gx_m 66 (by decide +kernel) (by decide +kernel)
theorem fl_Jb_27 : Cond.fieldLink R_Jb 27 R_Jb (F_Jb 5).2.1 (F_Jb 5).2.2.1 ∈ gx_tb := gx_m 68 (by decide +kernel) (by decide +kernel)
theorem fl_Jb_30 : Cond.fieldLink R_Jb 30 R_Jb (F_Jb 6).2.1 (F_Jb 6).2.2.1 ∈ gx_tb := gx_m 71 (by decide +kernel) (by decide +kernel)
theorem fl_Jb_33 : Cond.fieldLink R_Jb 33 R_Jb (F_Jb 7).2.1 (F_Jb 7).2.2.1 ∈ gx_tb := gx_m 74 (by decide +kernel) (by decide +kernel)
theorem fl_Jb_36 : Cond.fieldLink R_Jb 36 R_Jb (F_Jb 8).2.1 (F_Jb 8).2.2.1 ∈ gx_tb := gx_m 76 (by decide +kernel) (by decide +kernel)
theorem fl_Jb_39 : Cond.fieldLink R_Jb 39 R_Jb (F_Jb 9).2.1 (F_Jb 9).2.2.1 ∈ gx_tb := gx_m 79 (by decide +kernel) (by decide +kernel)
theorem fl_Jb_43 : Cond.fieldLink R_Jb 43 R_Jb (F_Jb 10).2.1 (F_Jb 10).2.2.1 ∈ gx_tb := gx_m 82 (by decide +kernel) (by decide +kernel)
theorem fl_Jb_46 : Cond.fieldLink R_Jb 46 R_Jb (F_Jb 11).2.1 (F_Jb 11).2.2.1 ∈ gx_tb := gx_m 85 (by decide +kernel) (by decide +kernel)
theorem fl_Jb_49 : Cond.fieldLink R_Jb 49 R_Jb (F_Jb 12).2.1 (F_Jb 12).2.2.1 ∈ gx_tb := gx_m 88 (by decide +kernel) (by decide +kernel)
theorem fl_Jb_52 : Cond.fieldLink R_Jb 52 R_Jb (F_Jb 13).2.1 (F_Jb 13).2.2.1 ∈ gx_tb := gx_m 91 (by decide +kernel) (by decide +kernel)
theorem fl_Jn_11 : Cond.fieldLink R_Jn 11 R_Jn (F_Jn 0).2.1 (F_Jn 0).2.2.1 ∈ gx_tb := gx_m 142 (by decide +kernel) (by decide +kernel)
theorem fl_Jn_18 : Cond.fieldLink R_Jn 18 R_Jn (F_Jn 1).2.1 (F_Jn 1).2.2.1 ∈ gx_tb := gx_m 143 (by decide +kernel) (by decide +kernel)
theorem fl_Qu_7 : Cond.fieldLink R_Qu 7 R_Qu (F_Qu 0).2.1 (F_Qu 0).2.2.1 ∈ gx_tb := gx_m 23 (by decide +kernel) (by decide +kernel)
theorem fl_Qu_13 : Cond.fieldLink R_Qu 13 R_Qu (F_Qu 4).2.1 (F_Qu 4).2.2.1 ∈ gx_tb := gx_m 30 (by decide +kernel) (by decide +kernel)
theorem fl_Qu_16 : Cond.fieldLink R_Qu 16 R_Qu (F_Qu 2).2.1 (F_Qu 2).2.2.1 ∈ gx_tb := gx_m 27 (by decide +kernel) (by decide +kernel)
theorem fl_Qu_19 : Cond.fieldLink R_Qu 19 R_Qu (F_Qu 5).2.1 (F_Qu 5).2.2.1 ∈ gx_tb := gx_m 31 (by decide +kernel) (by decide +kernel)
theorem fl_Qu_25 : Cond.fieldLink R_Qu 25 R_Qu (F_Qu 1).2.1 (F_Qu 1).2.2.1 ∈ gx_tb := gx_m 25 (by decide +kernel) (by decide +kernel)
theorem fl_Qu_28 : Cond.fieldLink R_Qu 28 R_Qu (F_Qu 3).2.1 (F_Qu 3).2.2.1 ∈ gx_tb := gx_m 28 (by decide +kernel) (by decide +kernel)
theorem fl_Ro_11 : Cond.fieldLink R_Ro 11 R_Ro (F_Ro 0).2.1 (F_Ro 0).2.2.1 ∈ gx_tb := gx_m 122 (by decide +kernel) (by decide +kernel)
theorem fl_Ro_20 : Cond.fieldLink R_Ro 20 R_Ro (F_Ro 1).2.1 (F_Ro 1).2.2.1 ∈ gx_tb := gx_m 123 (by decide +kernel) (by decide +kernel)
theorem fl_Ro_24 : Cond.fieldLink R_Ro 24 R_Ro (F_Ro 2).2.1 (F_Ro 2).2.2.1 ∈ gx_tb := gx_m 125 (by decide +kernel) (by decide +kernel)
theorem fl_Ro_35 : Cond.fieldLink R_Ro 35 R_Jb (F_Jb 10).2.1 (F_Jb 10).2.2.1 ∈ gx_tb := gx_m 83 (by decide +kernel) (by decide +kernel)
theorem fl_Ro_38 : Cond.fieldLink R_Ro 38 R_Jb (F_Jb 13).2.1 (F_Jb 13).2.2.1 ∈ gx_tb := gx_m 92 (by decide +kernel) (by decide +kernel)
theorem fl_Ro_41 : Cond.fieldLink R_Ro 41 R_Jb (F_Jb 9).2.1 (F_Jb 9).2.2.1 ∈ gx_tb := gx_m 80 (by decide +kernel) (by decide +kernel)
theorem fl_Ro_45 : Cond.fieldLink R_Ro 45 R_Jb (F_Jb 8).2.1 (F_Jb 8).2.2.1 ∈ gx_tb := gx_m 77 (by decide +kernel) (by decide +kernel)
theorem fl_Ro_52 : Cond.fieldLink R_Ro 52 R_Jb (F_Jb 6).2.1 (F_Jb 6).2.2.1 ∈ gx_tb := gx_m 72 (by decide +kernel) (by decide +kernel)
theorem fl_Ro_55 : Cond.fieldLink R_Ro 55 R_Jb (F_Jb 3).2.1 (F_Jb 3).2.2.1 ∈ gx_tb := gx_m 65 (by decide +kernel) (by decide +kernel)
theorem fl_Ro_87 : Cond.fieldLink R_Ro 87 R_Jb (F_Jb 11).2.1 (F_Jb 11).2.2.1 ∈ gx_tb := gx_m 86 (by decide +kernel) (by decide +kernel)
theorem fl_Ro_90 : Cond.fieldLink R_Ro 90 R_Jb (F_Jb 5).2.1 (F_Jb 5).2.2.1 ∈ gx_tb := gx_m 70 (by decide +kernel) (by decide +kernel)
theorem fl_Ro_96 : Cond.fieldLink R_Ro 96 R_Jb (F_Jb 12).2.1 (F_Jb 12).2.2.1 ∈ gx_tb := gx_m 90 (by decide +kernel) (by decide +kernel)
theorem fl_Ro_103 : Cond.fieldLink R_Ro 103 R_Jb (F_Jb 1).2.1 (F_Jb 1).2.2.1 ∈ gx_tb := gx_m 61 (by decide +kernel) (by decide +kernel)
theorem fl_Mo_7 : Cond.fieldLink R_Mo 7 R_Mo (F_Mo 1).2.1 (F_Mo 1).2.2.1 ∈ gx_tb := gx_m 425 (by decide +kernel) (by decide +kernel)
theorem fl_Mo_13 : Cond.fieldLink R_Mo 13 R_Mo (F_Mo 2).2.1 (F_Mo 2).2.2.1 ∈ gx_tb := gx_m 426 (by decide +kernel) (by decide +kernel)
theorem fl_Mo_17 : Cond.fieldLink R_Mo 17 R_Mo (F_Mo 3).2.1 (F_Mo 3).2.2.1 ∈ gx_tb := gx_m 427 (by decide +kernel) (by decide +kernel)
theorem fl_Mo_20 : Cond.fieldLink R_Mo 20 R_Mo (F_Mo 4).2.1 (F_Mo 4).2.2.1 ∈ gx_tb := gx_m 428 (by decide +kernel) (by decide +kernel)
theorem fl_Mo_23 : Cond.fieldLink R_Mo 23 R_Mo (F_Mo 5).2.1 (F_Mo 5).2.2.1 ∈ gx_tb := gx_m 429 (by decide +kernel) (by decide +kernel)
theorem fl_Mo_26 : Cond.fieldLink R_Mo 26 R_Mo (F_Mo 6).2.1 (F_Mo 6).2.2.1 ∈ gx_tb := gx_m 430 (by decide +kernel) (by decide +kernel)
theorem fl_Mo_29 : Cond.fieldLink R_Mo 29 R_Mo (F_Mo 7).2.1 (F_Mo 7).2.2.1 ∈ gx_tb := gx_m 431 (by decide +kernel) (by decide +kernel)
theorem fl_Mo_32 : Cond.fieldLink R_Mo 32 R_Mo (F_Mo 8).2.1 (F_Mo 8).2.2.1 ∈ gx_tb := gx_m 432 (by decide +kernel) (by decide +kernel)
theorem fl_Mo_35 : Cond.fieldLink R_Mo 35 R_Mo (F_Mo 9).2.1 (F_Mo 9).2.2.1 ∈ gx_tb := gx_m 433 (by decide +kernel) (by decide +kernel)
theorem fl_Mo_38 : Cond.fieldLink R_Mo 38 R_Mo (F_Mo 10).2.1 (F_Mo 10).2.2.1 ∈ gx_tb := gx_m 434 (by decide +kernel) (by decide +kernel)
theorem fl_Mo_41 : Cond.fieldLink R_Mo 41 R_Mo (F_Mo 11).2.1 (F_Mo 11).2.2.1 ∈ gx_tb := gx_m 435 (by decide +kernel) (by decide +kernel)
theorem fl_Mo_44 : Cond.fieldLink R_Mo 44 R_Mo (F_Mo 12).2.1 (F_Mo 12).2.2.1 ∈ gx_tb := gx_m 436 (by decide +kernel) (by decide +kernel)
theorem fl_Mo_47 : Cond.fieldLink R_Mo 47 R_Mo (F_Mo 13).2.1 (F_Mo 13).2.2.1 ∈ gx_tb := gx_m 437 (by decide +kernel) (by decide +kernel)
theorem fl_Mo_50 : Cond.fieldLink R_Mo 50 R_Mo (F_Mo 14).2.1 (F_Mo 14).2.2.1 ∈ gx_tb := gx_m 438 (by decide +kernel) (by decide +kernel)
theorem fl_Mo_53 : Cond.fieldLink R_Mo 53 R_Mo (F_Mo 15).2.1 (F_Mo 15).2.2.1 ∈ gx_tb := gx_m 439 (by decide +kernel) (by decide +kernel)
theorem fl_Mo_57 : Cond.fieldLink R_Mo 57 R_Mo (F_Mo 0).2.1 (F_Mo 0).2.2.1 ∈ gx_tb := gx_m 424 (by decide +kernel) (by decide +kernel)
abbrev rm_Jb_isLive : Room := { frames := 0, cells := 0, slots := 0, locals := 0 }
def w_Jb_isLive : List Cond := .code y_Jb_isLive b_Jb_isLive 1 (some .boolean) :: gx_tb
abbrev rm_Jb_isTimed : Room := { frames := 0, cells := 0, slots := 0, locals := 0 }
def w_Jb_isTimed : List Cond := .code y_Jb_isTimed b_Jb_isTimed 1 (some .boolean) :: gx_tb
abbrev rm_Jb_waitUntil : Room := { frames := 0, cells := 0, slots := 0, locals := 0 }
def w_Jb_waitUntil : List Cond := .code y_Jb_waitUntil b_Jb_waitUntil 3 none :: gx_tb
abbrev rm_Jb_retryDelay : Room := { frames := 1, cells := 0, slots := 0, locals := 21 }
def w_Jb_retryDelay : List Cond := .code y_Jb_retryDelay b_Jb_retryDelay 1 (some .int) :: gx_tb
abbrev rm_Jb_standsBefore : Room := { frames := 0, cells := 0, slots := 0, locals := 0 }
def w_Jb_standsBefore : List Cond := .code y_Jb_standsBefore b_Jb_standsBefore 2 (some .boolean) :: gx_tb
abbrev rm_Jb_begin : Room := { frames := 0, cells := 0, slots := 0, locals := 0 }
def w_Jb_begin : List Cond := .code y_Jb_begin b_Jb_begin 3 none :: gx_tb
abbrev rm_Jb_copyFrom : Room := { frames := 0, cells := 0, slots := 0, locals := 0 }
def w_Jb_copyFrom : List Cond := .code y_Jb_copyFrom b_Jb_copyFrom 2 none :: gx_tb
abbrev rm_Qu_restart : Room := { frames := 0, cells := 0, slots := 0, locals := 0 }
def w_Qu_restart : List Cond := .code y_Qu_restart b_Qu_restart 1 none :: gx_tb
abbrev rm_Qu_set : Room := { frames := 1, cells := 0, slots := 0, locals := 20 }
def w_Qu_set : List Cond := .code y_Qu_set b_Qu_set 5 none :: gx_tb
abbrev rm_Qu_canGive : Room := { frames := 0, cells := 0, slots := 0, locals := 0 }
def w_Qu_canGive : List Cond := .code y_Qu_canGive b_Qu_canGive 1 (some .boolean) :: gx_tb
abbrev rm_Qu_spendToken : Room := { frames := 0, cells := 0, slots := 0, locals := 0 }
def w_Qu_spendToken : List Cond := .code y_Qu_spendToken b_Qu_spendToken 1 none :: gx_tb
abbrev rm_Qu_refillBetween : Room := { frames := 1, cells := 0, slots := 0, locals := 21 }
def w_Qu_refillBetween : List Cond := .code y_Qu_refillBetween b_Qu_refillBetween 4 none :: gx_tb
abbrev rm_Ro_copyFrom : Room := { frames := 1, cells := 0, slots := 0, locals := 21 }
def w_Ro_copyFrom : List Cond := .code y_Ro_copyFrom b_Ro_copyFrom 3 none :: gx_tb
abbrev rm_Ro_find : Room := { frames := 0, cells := 0, slots := 0, locals := 0 }
def w_Ro_find : List Cond := .code y_Ro_find b_Ro_find 2 (some (.object R_Jb)) :: gx_tb
abbrev rm_Ro_make : Room := { frames := 1, cells := 0, slots := 0, locals := 22 }
def w_Ro_make : List Cond := .code y_Ro_make b_Ro_make 4 (some (.object R_Jb)) :: gx_tb
abbrev rm_Ro_enter : Room := { frames := 0, cells := 0, slots := 0, locals := 0 }
def w_Ro_enter : List Cond := .code y_Ro_enter b_Ro_enter 3 none :: gx_tb
abbrev rm_Ro_releaseIfComplete : Room := { frames := 1, cells := 0, slots := 0, locals := 22 }
def w_Ro_releaseIfComplete : List Cond := .code y_Ro_releaseIfComplete b_Ro_releaseIfComplete 2 none :: gx_tb
abbrev rm_Ro_releaseReserved : Room := { frames := 1, cells := 0, slots := 0, locals := 22 }
def w_Ro_releaseReserved : List Cond := .code y_Ro_releaseReserved b_Ro_releaseReserved 2 none :: gx_tb
abbrev rm_Ro_countIn : Room := { frames := 0, cells := 0, slots := 0, locals := 0 }
def w_Ro_countIn : List Cond := .code y_Ro_countIn b_Ro_countIn 4 (some .int) :: gx_tb
abbrev rm_Ro_oldestDead : Room := { frames := 0, cells := 0, slots := 0, locals := 0 }
def w_Ro_oldestDead : List Cond := .code y_Ro_oldestDead b_Ro_oldestDead 3 (some (.object R_Jb)) :: gx_tb
abbrev rm_Ro_bury : Room := { frames := 1, cells := 0, slots := 0, locals := 23 }
def w_Ro_bury : List Cond := .code y_Ro_bury b_Ro_bury 3 none :: gx_tb
abbrev rm_Ro_failReserved : Room := { frames := 2, cells := 0, slots := 0, locals := 45 }
def w_Ro_failReserved : List Cond := .code y_Ro_failReserved b_Ro_failReserved 3 none :: gx_tb
abbrev rm_Ro_nextDue : Room := { frames := 1, cells := 0, slots := 0, locals := 20 }
def w_Ro_nextDue : List Cond := .code y_Ro_nextDue b_Ro_nextDue 5 (some (.object R_Jb)) :: gx_tb
abbrev rm_Ro_settleDue : Room := { frames := 3, cells := 0, slots := 0, locals := 67 }
def w_Ro_settleDue : List Cond := .code y_Ro_settleDue b_Ro_settleDue 4 (some .int) :: gx_tb
abbrev rm_Ro_hasLiveKey : Room := { frames := 1, cells := 0, slots := 0, locals := 20 }
def w_Ro_hasLiveKey : List Cond := .code y_Ro_hasLiveKey b_Ro_hasLiveKey 3 (some .boolean) :: gx_tb
abbrev rm_Ro_reservedBy : Room := { frames := 0, cells := 0, slots := 0, locals := 0 }
def w_Ro_reservedBy : List Cond := .code y_Ro_reservedBy b_Ro_reservedBy 3 (some (.object R_Jb)) :: gx_tb
abbrev rm_Ro_nextInLine : Room := { frames := 1, cells := 0, slots := 0, locals := 21 }
def w_Ro_nextInLine : List Cond := .code y_Ro_nextInLine b_Ro_nextInLine 6 (some (.object R_Jb)) :: gx_tb
abbrev rm_Ro_inLine : Room := { frames := 2, cells := 0, slots := 0, locals := 46 }
def w_Ro_inLine : List Cond := .code y_Ro_inLine b_Ro_inLine 5 (some (.object R_Jb)) :: gx_tb
abbrev rm_Jn_flushAll : Room := { frames := 2, cells := 0, slots := 0, locals := 43 }
def w_Jn_flushAll : List Cond := .code y_Jn_flushAll b_Jn_flushAll 3 (some .int) :: gx_tb
abbrev rm_Jn_write : Room := { frames := 3, cells := 0, slots := 0, locals := 65 }
def w_Jn_write : List Cond := .code y_Jn_write b_Jn_write 2 none :: gx_tb
abbrev rm_Jn_restore : Room := { frames := 2, cells := 0, slots := 0, locals := 43 }
def w_Jn_restore : List Cond := .code y_Jn_restore b_Jn_restore 4 (some .int) :: gx_tb
abbrev rm_Bo_within : Room := { frames := 0, cells := 0, slots := 0, locals := 0 }
def w_Bo_within : List Cond := .code y_Bo_within b_Bo_within 3 (some .boolean) :: gx_tb
abbrev rm_Bo_isQueue : Room := { frames := 1, cells := 0, slots := 0, locals := 22 }
def w_Bo_isQueue : List Cond := .code y_Bo_isQueue b_Bo_isQueue 1 (some .boolean) :: gx_tb
abbrev rm_Bo_isWorker : Room := { frames := 1, cells := 0, slots := 0, locals := 22 }
def w_Bo_isWorker : List Cond := .code y_Bo_isWorker b_Bo_isWorker 1 (some .boolean) :: gx_tb
abbrev rm_Bo_numberOrNone : Room := { frames := 0, cells := 0, slots := 0, locals := 0 }
def w_Bo_numberOrNone : List Cond := .code y_Bo_numberOrNone b_Bo_numberOrNone 1 (some .int) :: gx_tb
abbrev rm_Bo_isOpen : Room := { frames := 2, cells := 0, slots := 0, locals := 46 }
def w_Bo_isOpen : List Cond := .code y_Bo_isOpen b_Bo_isOpen 2 (some .boolean) :: gx_tb
abbrev rm_Bo_firstOpenQueue : Room := { frames := 3, cells := 0, slots := 0, locals := 67 }
def w_Bo_firstOpenQueue : List Cond := .code y_Bo_firstOpenQueue b_Bo_firstOpenQueue 2 (some .int) :: gx_tb
abbrev rm_Bo_openQueueByCredit : Room := { frames := 3, cells := 0, slots := 0, locals := 67 }
def w_Bo_openQueueByCredit : List Cond := .code y_Bo_openQueueByCredit b_Bo_openQueueByCredit 4 (some .int) :: gx_tb
abbrev rm_Bo_queue : Room := { frames := 2, cells := 0, slots := 0, locals := 44 }
def w_Bo_queue : List Cond := .code y_Bo_queue b_Bo_queue 5 (some .int) :: gx_tb
abbrev rm_Bo_key : Room := { frames := 1, cells := 0, slots := 0, locals := 22 }
def w_Bo_key : List Cond := .code y_Bo_key b_Bo_key 2 (some .int) :: gx_tb
abbrev rm_Bo_submit : Room := { frames := 4, cells := 0, slots := 0, locals := 86 }
def w_Bo_submit : List Cond := .code y_Bo_submit b_Bo_submit 7 (some .int) :: gx_tb
abbrev rm_Bo_hold : Room := { frames := 4, cells := 0, slots := 0, locals := 86 }
def w_Bo_hold : List Cond := .code y_Bo_hold b_Bo_hold 4 (some .int) :: gx_tb
abbrev rm_Bo_join : Room := { frames := 4, cells := 0, slots := 0, locals := 86 }
def w_Bo_join : List Cond := .code y_Bo_join b_Bo_join 5 (some .int) :: gx_tb
abbrev rm_Bo_seal : Room := { frames := 4, cells := 0, slots := 0, locals := 86 }
def w_Bo_seal : List Cond := .code y_Bo_seal b_Bo_seal 3 (some .int) :: gx_tb
abbrev rm_Bo_take : Room := { frames := 4, cells := 0, slots := 0, locals := 90 }
def w_Bo_take : List Cond := .code y_Bo_take b_Bo_take 5 (some .int) :: gx_tb
abbrev rm_Bo_ack : Room := { frames := 4, cells := 0, slots := 0, locals := 86 }
def w_Bo_ack : List Cond := .code y_Bo_ack b_Bo_ack 4 (some .int) :: gx_tb
abbrev rm_Bo_fail : Room := { frames := 4, cells := 0, slots := 0, locals := 86 }
def w_Bo_fail : List Cond := .code y_Bo_fail b_Bo_fail 3 (some .int) :: gx_tb
abbrev rm_Bo_tick : Room := { frames := 4, cells := 0, slots := 0, locals := 90 }
def w_Bo_tick : List Cond := .code y_Bo_tick b_Bo_tick 3 (some .int) :: gx_tb
abbrev rm_Bo_revive : Room := { frames := 4, cells := 0, slots := 0, locals := 86 }
def w_Bo_revive : List Cond := .code y_Bo_revive b_Bo_revive 3 (some .int) :: gx_tb
abbrev rm_Bo_kill : Room := { frames := 4, cells := 0, slots := 0, locals := 86 }
def w_Bo_kill : List Cond := .code y_Bo_kill b_Bo_kill 3 (some .int) :: gx_tb
abbrev rm_Bo_flush : Room := { frames := 3, cells := 0, slots := 0, locals := 65 }
def w_Bo_flush : List Cond := .code y_Bo_flush b_Bo_flush 1 (some .int) :: gx_tb
abbrev rm_Bo_crash : Room := { frames := 4, cells := 0, slots := 0, locals := 90 }
def w_Bo_crash : List Cond := .code y_Bo_crash b_Bo_crash 4 (some .int) :: gx_tb
abbrev rm_Bo_state : Room := { frames := 1, cells := 0, slots := 0, locals := 21 }
def w_Bo_state : List Cond := .code y_Bo_state b_Bo_state 3 (some .int) :: gx_tb
abbrev rm_Bo_failures : Room := { frames := 1, cells := 0, slots := 0, locals := 21 }
def w_Bo_failures : List Cond := .code y_Bo_failures b_Bo_failures 3 (some .int) :: gx_tb
abbrev rm_Bo_due : Room := { frames := 1, cells := 0, slots := 0, locals := 21 }
def w_Bo_due : List Cond := .code y_Bo_due b_Bo_due 3 (some .int) :: gx_tb
abbrev rm_Bo_holding : Room := { frames := 2, cells := 0, slots := 0, locals := 42 }
def w_Bo_holding : List Cond := .code y_Bo_holding b_Bo_holding 2 (some .int) :: gx_tb
abbrev rm_Bo_line : Room := { frames := 3, cells := 0, slots := 0, locals := 70 }
def w_Bo_line : List Cond := .code y_Bo_line b_Bo_line 3 (some .int) :: gx_tb
abbrev rm_Bo_count : Room := { frames := 1, cells := 0, slots := 0, locals := 23 }
def w_Bo_count : List Cond := .code y_Bo_count b_Bo_count 2 (some .int) :: gx_tb
abbrev rm_Mo_out : Room := { frames := 0, cells := 0, slots := 0, locals := 0 }
def w_Mo_out : List Cond := .code y_Mo_out b_Mo_out 4 (some .boolean) :: gx_tb
abbrev rm_Mo_no : Room := { frames := 0, cells := 0, slots := 0, locals := 0 }
def w_Mo_no : List Cond := .code y_Mo_no b_Mo_no 2 (some .boolean) :: gx_tb
abbrev rm_Mo_of : Room := { frames := 0, cells := 0, slots := 0, locals := 0 }
def w_Mo_of : List Cond := .code y_Mo_of b_Mo_of 3 (some .int) :: gx_tb
abbrev rm_Mo_set : Room := { frames := 0, cells := 0, slots := 0, locals := 0 }
def w_Mo_set : List Cond := .code y_Mo_set b_Mo_set 4 none :: gx_tb
abbrev rm_Mo_store : Room := { frames := 0, cells := 0, slots := 0, locals := 0 }
def w_Mo_store : List Cond := .code y_Mo_store b_Mo_store 3 none :: gx_tb
abbrev rm_Mo_note : Room := { frames := 1, cells := 0, slots := 0, locals := 22 }
def w_Mo_note : List Cond := .code y_Mo_note b_Mo_note 1 none :: gx_tb
abbrev rm_Mo_flush : Room := { frames := 1, cells := 0, slots := 0, locals := 22 }
def w_Mo_flush : List Cond := .code y_Mo_flush b_Mo_flush 2 (some .int) :: gx_tb
abbrev rm_Mo_isLive : Room := { frames := 1, cells := 0, slots := 0, locals := 22 }
def w_Mo_isLive : List Cond := .code y_Mo_isLive b_Mo_isLive 3 (some .boolean) :: gx_tb
abbrev rm_Mo_ready : Room := { frames := 1, cells := 0, slots := 0, locals := 23 }
def w_Mo_ready : List Cond := .code y_Mo_ready b_Mo_ready 2 none :: gx_tb
abbrev rm_Mo_die : Room := { frames := 1, cells := 0, slots := 0, locals := 23 }
def w_Mo_die : List Cond := .code y_Mo_die b_Mo_die 5 none :: gx_tb
abbrev rm_Mo_failing : Room := { frames := 2, cells := 0, slots := 0, locals := 47 }
def w_Mo_failing : List Cond := .code y_Mo_failing b_Mo_failing 4 none :: gx_tb
abbrev rm_Mo_keyTaken : Room := { frames := 2, cells := 0, slots := 0, locals := 44 }
def w_Mo_keyTaken : List Cond := .code y_Mo_keyTaken b_Mo_keyTaken 3 (some .boolean) :: gx_tb
abbrev rm_Mo_make : Room := { frames := 1, cells := 0, slots := 0, locals := 23 }
def w_Mo_make : List Cond := .code y_Mo_make b_Mo_make 8 (some .int) :: gx_tb
abbrev rm_Mo_queue : Room := { frames := 1, cells := 0, slots := 0, locals := 23 }
def w_Mo_queue : List Cond := .code y_Mo_queue b_Mo_queue 5 (some .int) :: gx_tb
abbrev rm_Mo_key : Room := { frames := 1, cells := 0, slots := 0, locals := 23 }
def w_Mo_key : List Cond := .code y_Mo_key b_Mo_key 2 (some .int) :: gx_tb
abbrev rm_Mo_submit : Room := { frames := 3, cells := 0, slots := 0, locals := 66 }
def w_Mo_submit : List Cond := .code y_Mo_submit b_Mo_submit 7 (some .int) :: gx_tb
abbrev rm_Mo_hold : Room := { frames := 2, cells := 0, slots := 0, locals := 50 }
def w_Mo_hold : List Cond := .code y_Mo_hold b_Mo_hold 4 (some .int) :: gx_tb
abbrev rm_Mo_join : Room := { frames := 2, cells := 0, slots := 0, locals := 44 }
def w_Mo_join : List Cond := .code y_Mo_join b_Mo_join 3 (some .int) :: gx_tb
abbrev rm_Mo_seal : Room := { frames := 2, cells := 0, slots := 0, locals := 44 }
def w_Mo_seal : List Cond := .code y_Mo_seal b_Mo_seal 2 (some .int) :: gx_tb
abbrev rm_Mo_goesBefore : Room := { frames := 1, cells := 0, slots := 0, locals := 22 }
def w_Mo_goesBefore : List Cond := .code y_Mo_goesBefore b_Mo_goesBefore 3 (some .boolean) :: gx_tb
abbrev rm_Mo_inLine : Room := { frames := 2, cells := 0, slots := 0, locals := 44 }
def w_Mo_inLine : List Cond := .code y_Mo_inLine b_Mo_inLine 6 (some .int) :: gx_tb
abbrev rm_Mo_isOpen : Room := { frames := 3, cells := 0, slots := 0, locals := 69 }
def w_Mo_isOpen : List Cond := .code y_Mo_isOpen b_Mo_isOpen 2 (some .boolean) :: gx_tb
abbrev rm_Mo_choose : Room := { frames := 4, cells := 0, slots := 0, locals := 90 }
def w_Mo_choose : List Cond := .code y_Mo_choose b_Mo_choose 4 (some .int) :: gx_tb
abbrev rm_Mo_holding : Room := { frames := 1, cells := 0, slots := 0, locals := 23 }
def w_Mo_holding : List Cond := .code y_Mo_holding b_Mo_holding 3 (some .int) :: gx_tb
abbrev rm_Mo_take : Room := { frames := 5, cells := 0, slots := 0, locals := 113 }
def w_Mo_take : List Cond := .code y_Mo_take b_Mo_take 5 (some .int) :: gx_tb
abbrev rm_Mo_ack : Room := { frames := 2, cells := 0, slots := 0, locals := 45 }
def w_Mo_ack : List Cond := .code y_Mo_ack b_Mo_ack 4 (some .int) :: gx_tb
abbrev rm_Mo_fail : Room := { frames := 3, cells := 0, slots := 0, locals := 70 }
def w_Mo_fail : List Cond := .code y_Mo_fail b_Mo_fail 3 (some .int) :: gx_tb
abbrev rm_Mo_wake : Room := { frames := 3, cells := 0, slots := 0, locals := 70 }
def w_Mo_wake : List Cond := .code y_Mo_wake b_Mo_wake 8 (some .int) :: gx_tb
abbrev rm_Mo_tick : Room := { frames := 4, cells := 0, slots := 0, locals := 97 }
def w_Mo_tick : List Cond := .code y_Mo_tick b_Mo_tick 4 (some .int) :: gx_tb
abbrev rm_Mo_revive : Room := { frames := 3, cells := 0, slots := 0, locals := 66 }
def w_Mo_revive : List Cond := .code y_Mo_revive b_Mo_revive 2 (some .int) :: gx_tb
abbrev rm_Mo_kill : Room := { frames := 2, cells := 0, slots := 0, locals := 47 }
def w_Mo_kill : List Cond := .code y_Mo_kill b_Mo_kill 3 (some .int) :: gx_tb
abbrev rm_Mo_crash : Room := { frames := 4, cells := 0, slots := 0, locals := 97 }
def w_Mo_crash : List Cond := .code y_Mo_crash b_Mo_crash 5 (some .int) :: gx_tb
abbrev rm_Mo_state : Room := { frames := 1, cells := 0, slots := 0, locals := 22 }
def w_Mo_state : List Cond := .code y_Mo_state b_Mo_state 2 (some .int) :: gx_tb
abbrev rm_Mo_failures : Room := { frames := 1, cells := 0, slots := 0, locals := 22 }
def w_Mo_failures : List Cond := .code y_Mo_failures b_Mo_failures 2 (some .int) :: gx_tb
abbrev rm_Mo_due : Room := { frames := 1, cells := 0, slots := 0, locals := 22 }
def w_Mo_due : List Cond := .code y_Mo_due b_Mo_due 3 (some .int) :: gx_tb
abbrev rm_Mo_line : Room := { frames := 3, cells := 0, slots := 0, locals := 69 }
def w_Mo_line : List Cond := .code y_Mo_line b_Mo_line 4 (some .int) :: gx_tb
abbrev rm_Mo_count : Room := { frames := 1, cells := 0, slots := 0, locals := 23 }
def w_Mo_count : List Cond := .code y_Mo_count b_Mo_count 4 (some .int) :: gx_tb
theorem co_Jb_isLive : Cond.code y_Jb_isLive b_Jb_isLive 1 (some .boolean) ∈ gx_tb := gx_m 202 (by decide +kernel) (by decide +kernel)
theorem co_Jb_isTimed : Cond.code y_Jb_isTimed b_Jb_isTimed 1 (some .boolean) ∈ gx_tb := gx_m 348 (by decide +kernel) (by decide +kernel)
theorem co_Jb_waitUntil : Cond.code y_Jb_waitUntil b_Jb_waitUntil 3 none ∈ gx_tb := gx_m 218 (by decide +kernel) (by decide +kernel)
theorem co_Jb_retryDelay : Cond.code y_Jb_retryDelay b_Jb_retryDelay 1 (some .int) ∈ gx_tb := gx_m 323 (by decide +kernel) (by decide +kernel)
theorem co_Jb_standsBefore : Cond.code y_Jb_standsBefore b_Jb_standsBefore 2 (some .boolean) ∈ gx_tb := gx_m 287 (by decide +kernel) (by decide +kernel)
theorem co_Jb_begin : Cond.code y_Jb_begin b_Jb_begin 3 none ∈ gx_tb := gx_m 210 (by decide +kernel) (by decide +kernel)
theorem co_Jb_copyFrom : Cond.code y_Jb_copyFrom b_Jb_copyFrom 2 none ∈ gx_tb := gx_m 234 (by decide +kernel) (by decide +kernel)
theorem co_Qu_restart : Cond.code y_Qu_restart b_Qu_restart 1 none ∈ gx_tb := gx_m 186 (by decide +kernel) (by decide +kernel)
theorem co_Qu_set : Cond.code y_Qu_set b_Qu_set 5 none ∈ gx_tb := gx_m 182 (by decide +kernel) (by decide +kernel)
theorem co_Qu_canGive : Cond.code y_Qu_canGive b_Qu_canGive 1 (some .boolean) ∈ gx_tb := gx_m 279 (by decide +kernel) (by decide +kernel)
theorem co_Qu_spendToken : Cond.code y_Qu_spendToken b_Qu_spendToken 1 none ∈ gx_tb := gx_m 295 (by decide +kernel) (by decide +kernel)
theorem co_Qu_refillBetween : Cond.code y_Qu_refillBetween b_Qu_refillBetween 4 none ∈ gx_tb := gx_m 335 (by decide +kernel) (by decide +kernel)
theorem co_Ro_copyFrom : Cond.code y_Ro_copyFrom b_Ro_copyFrom 3 none ∈ gx_tb := gx_m 230 (by decide +kernel) (by decide +kernel)
theorem co_Ro_find : Cond.code y_Ro_find b_Ro_find 2 (some (.object R_Jb)) ∈ gx_tb := gx_m 246 (by decide +kernel) (by decide +kernel)
theorem co_Ro_make : Cond.code y_Ro_make b_Ro_make 4 (some (.object R_Jb)) ∈ gx_tb := gx_m 206 (by decide +kernel) (by decide +kernel)
theorem co_Ro_enter : Cond.code y_Ro_enter b_Ro_enter 3 none ∈ gx_tb := gx_m 214 (by decide +kernel) (by decide +kernel)
theorem co_Ro_releaseIfComplete : Cond.code y_Ro_releaseIfComplete b_Ro_releaseIfComplete 2 none ∈ gx_tb := gx_m 255 (by decide +kernel) (by decide +kernel)
theorem co_Ro_releaseReserved : Cond.code y_Ro_releaseReserved b_Ro_releaseReserved 2 none ∈ gx_tb := gx_m 379 (by decide +kernel) (by decide +kernel)
theorem co_Ro_countIn : Cond.code y_Ro_countIn b_Ro_countIn 4 (some .int) ∈ gx_tb := gx_m 319 (by decide +kernel) (by decide +kernel)
theorem co_Ro_oldestDead : Cond.code y_Ro_oldestDead b_Ro_oldestDead 3 (some (.object R_Jb)) ∈ gx_tb := gx_m 315 (by decide +kernel) (by decide +kernel)
theorem co_Ro_bury : Cond.code y_Ro_bury b_Ro_bury 3 none ∈ gx_tb := gx_m 311 (by decide +kernel) (by decide +kernel)
theorem co_Ro_failReserved : Cond.code y_Ro_failReserved b_Ro_failReserved 3 none ∈ gx_tb := gx_m 307 (by decide +kernel) (by decide +kernel)
theorem co_Ro_nextDue : Cond.code y_Ro_nextDue b_Ro_nextDue 5 (some (.object R_Jb)) ∈ gx_tb := gx_m 344 (by decide +kernel) (by decide +kernel)
theorem co_Ro_settleDue : Cond.code y_Ro_settleDue b_Ro_settleDue 4 (some .int) ∈ gx_tb := gx_m 340 (by decide +kernel) (by decide +kernel)
theorem co_Ro_hasLiveKey : Cond.code y_Ro_hasLiveKey b_Ro_hasLiveKey 3 (some .boolean) ∈ gx_tb := gx_m 198 (by decide +kernel) (by decide +kernel)
theorem co_Ro_reservedBy : Cond.code y_Ro_reservedBy b_Ro_reservedBy 3 (some (.object R_Jb)) ∈ gx_tb := gx_m 267 (by decide +kernel) (by decide +kernel)
theorem co_Ro_nextInLine : Cond.code y_Ro_nextInLine b_Ro_nextInLine 6 (some (.object R_Jb)) ∈ gx_tb := gx_m 283 (by decide +kernel) (by decide +kernel)
theorem co_Ro_inLine : Cond.code y_Ro_inLine b_Ro_inLine 5 (some (.object R_Jb)) ∈ gx_tb := gx_m 408 (by decide +kernel) (by decide +kernel)
theorem co_Jn_flushAll : Cond.code y_Jn_flushAll b_Jn_flushAll 3 (some .int) ∈ gx_tb := gx_m 226 (by decide +kernel) (by decide +kernel)
theorem co_Jn_write : Cond.code y_Jn_write b_Jn_write 2 none ∈ gx_tb := gx_m 222 (by decide +kernel) (by decide +kernel)
theorem co_Jn_restore : Cond.code y_Jn_restore b_Jn_restore 4 (some .int) ∈ gx_tb := gx_m 371 (by decide +kernel) (by decide +kernel)
theorem co_Bo_within : Cond.code y_Bo_within b_Bo_within 3 (some .boolean) ∈ gx_tb := gx_m 178 (by decide +kernel) (by decide +kernel)
theorem co_Bo_isQueue : Cond.code y_Bo_isQueue b_Bo_isQueue 1 (some .boolean) ∈ gx_tb := gx_m 175 (by decide +kernel) (by decide +kernel)
theorem co_Bo_isWorker : Cond.code y_Bo_isWorker b_Bo_isWorker 1 (some .boolean) ∈ gx_tb := gx_m 263 (by decide +kernel) (by decide +kernel)
theorem co_Bo_numberOrNone : Cond.code y_Bo_numberOrNone b_Bo_numberOrNone 1 (some .int) ∈ gx_tb := gx_m 400 (by decide +kernel) (by decide +kernel)
theorem co_Bo_isOpen : Cond.code y_Bo_isOpen b_Bo_isOpen 2 (some .boolean) ∈ gx_tb := gx_m 275 (by decide +kernel) (by decide +kernel)
theorem co_Bo_firstOpenQueue : Cond.code y_Bo_firstOpenQueue b_Bo_firstOpenQueue 2 (some .int) ∈ gx_tb := gx_m 271 (by decide +kernel) (by decide +kernel)
theorem co_Bo_openQueueByCredit : Cond.code y_Bo_openQueueByCredit b_Bo_openQueueByCredit 4 (some .int) ∈ gx_tb := gx_m 291 (by decide +kernel) (by decide +kernel)
theorem co_Bo_queue : Cond.code y_Bo_queue b_Bo_queue 5 (some .int) ∈ gx_tb := gx_m 172 (by decide +kernel) (by decide +kernel)
theorem co_Bo_key : Cond.code y_Bo_key b_Bo_key 2 (some .int) ∈ gx_tb := gx_m 190 (by decide +kernel) (by decide +kernel)
theorem co_Bo_submit : Cond.code y_Bo_submit b_Bo_submit 7 (some .int) ∈ gx_tb := gx_m 194 (by decide +kernel) (by decide +kernel)
theorem co_Bo_hold : Cond.code y_Bo_hold b_Bo_hold 4 (some .int) ∈ gx_tb := gx_m 238 (by decide +kernel) (by decide +kernel)
theorem co_Bo_join : Cond.code y_Bo_join b_Bo_join 5 (some .int) ∈ gx_tb := gx_m 242 (by decide +kernel) (by decide +kernel)
theorem co_Bo_seal : Cond.code y_Bo_seal b_Bo_seal 3 (some .int) ∈ gx_tb := gx_m 251 (by decide +kernel) (by decide +kernel)
theorem co_Bo_take : Cond.code y_Bo_take b_Bo_take 5 (some .int) ∈ gx_tb := gx_m 260 (by decide +kernel) (by decide +kernel)
theorem co_Bo_ack : Cond.code y_Bo_ack b_Bo_ack 4 (some .int) ∈ gx_tb := gx_m 299 (by decide +kernel) (by decide +kernel)
theorem co_Bo_fail : Cond.code y_Bo_fail b_Bo_fail 3 (some .int) ∈ gx_tb := gx_m 303 (by decide +kernel) (by decide +kernel)
theorem co_Bo_tick : Cond.code y_Bo_tick b_Bo_tick 3 (some .int) ∈ gx_tb := gx_m 331 (by decide +kernel) (by decide +kernel)
theorem co_Bo_revive : Cond.code y_Bo_revive b_Bo_revive 3 (some .int) ∈ gx_tb := gx_m 353 (by decide +kernel) (by decide +kernel)
theorem co_Bo_kill : Cond.code y_Bo_kill b_Bo_kill 3 (some .int) ∈ gx_tb := gx_m 357 (by decide +kernel) (by decide +kernel)
theorem co_Bo_flush : Cond.code y_Bo_flush b_Bo_flush 1 (some .int) ∈ gx_tb := gx_m 362 (by decide +kernel) (by decide +kernel)
theorem co_Bo_crash : Cond.code y_Bo_crash b_Bo_crash 4 (some .int) ∈ gx_tb := gx_m 367 (by decide +kernel) (by decide +kernel)
theorem co_Bo_state : Cond.code y_Bo_state b_Bo_state 3 (some .int) ∈ gx_tb := gx_m 384 (by decide +kernel) (by decide +kernel)
theorem co_Bo_failures : Cond.code y_Bo_failures b_Bo_failures 3 (some .int) ∈ gx_tb := gx_m 388 (by decide +kernel) (by decide +kernel)
theorem co_Bo_due : Cond.code y_Bo_due b_Bo_due 3 (some .int) ∈ gx_tb := gx_m 392 (by decide +kernel) (by decide +kernel)
theorem co_Bo_holding : Cond.code y_Bo_holding b_Bo_holding 2 (some .int) ∈ gx_tb := gx_m 397 (by decide +kernel) (by decide +kernel)
theorem co_Bo_line : Cond.code y_Bo_line b_Bo_line 3 (some .int) ∈ gx_tb := gx_m 404 (by decide +kernel) (by decide +kernel)
theorem co_Bo_count : Cond.code y_Bo_count b_Bo_count 2 (some .int) ∈ gx_tb := gx_m 413 (by decide +kernel) (by decide +kernel)
theorem co_Mo_out : Cond.code y_Mo_out b_Mo_out 4 (some .boolean) ∈ gx_tb := gx_m 490 (by decide +kernel) (by decide +kernel)
theorem co_Mo_no : Cond.code y_Mo_no b_Mo_no 2 (some .boolean) ∈ gx_tb := gx_m 538 (by decide +kernel) (by decide +kernel)
theorem co_Mo_of : Cond.code y_Mo_of b_Mo_of 3 (some .int) ∈ gx_tb := gx_m 510 (by decide +kernel) (by decide +kernel)
theorem co_Mo_set : Cond.code y_Mo_set b_Mo_set 4 none ∈ gx_tb := gx_m 518 (by decide +kernel) (by decide +kernel)
theorem co_Mo_store : Cond.code y_Mo_store b_Mo_store 3 none ∈ gx_tb := gx_m 482 (by decide +kernel) (by decide +kernel)
theorem co_Mo_note : Cond.code y_Mo_note b_Mo_note 1 none ∈ gx_tb := gx_m 526 (by decide +kernel) (by decide +kernel)
theorem co_Mo_flush : Cond.code y_Mo_flush b_Mo_flush 2 (some .int) ∈ gx_tb := gx_m 478 (by decide +kernel) (by decide +kernel)
theorem co_Mo_isLive : Cond.code y_Mo_isLive b_Mo_isLive 3 (some .boolean) ∈ gx_tb := gx_m 506 (by decide +kernel) (by decide +kernel)
theorem co_Mo_ready : Cond.code y_Mo_ready b_Mo_ready 2 none ∈ gx_tb := gx_m 522 (by decide +kernel) (by decide +kernel)
theorem co_Mo_die : Cond.code y_Mo_die b_Mo_die 5 none ∈ gx_tb := gx_m 582 (by decide +kernel) (by decide +kernel)
theorem co_Mo_failing : Cond.code y_Mo_failing b_Mo_failing 4 none ∈ gx_tb := gx_m 578 (by decide +kernel) (by decide +kernel)
theorem co_Mo_keyTaken : Cond.code y_Mo_keyTaken b_Mo_keyTaken 3 (some .boolean) ∈ gx_tb := gx_m 502 (by decide +kernel) (by decide +kernel)
theorem co_Mo_make : Cond.code y_Mo_make b_Mo_make 8 (some .int) ∈ gx_tb := gx_m 514 (by decide +kernel) (by decide +kernel)
theorem co_Mo_queue : Cond.code y_Mo_queue b_Mo_queue 5 (some .int) ∈ gx_tb := gx_m 486 (by decide +kernel) (by decide +kernel)
theorem co_Mo_key : Cond.code y_Mo_key b_Mo_key 2 (some .int) ∈ gx_tb := gx_m 494 (by decide +kernel) (by decide +kernel)
theorem co_Mo_submit : Cond.code y_Mo_submit b_Mo_submit 7 (some .int) ∈ gx_tb := gx_m 498 (by decide +kernel) (by decide +kernel)
theorem co_Mo_hold : Cond.code y_Mo_hold b_Mo_hold 4 (some .int) ∈ gx_tb := gx_m 530 (by decide +kernel) (by decide +kernel)
theorem co_Mo_join : Cond.code y_Mo_join b_Mo_join 3 (some .int) ∈ gx_tb := gx_m 534 (by decide +kernel) (by decide +kernel)
theorem co_Mo_seal : Cond.code y_Mo_seal b_Mo_seal 2 (some .int) ∈ gx_tb := gx_m 542 (by decide +kernel) (by decide +kernel)
theorem co_Mo_goesBefore : Cond.code y_Mo_goesBefore b_Mo_goesBefore 3 (some .boolean) ∈ gx_tb := gx_m 566 (by decide +kernel) (by decide +kernel)
theorem co_Mo_inLine : Cond.code y_Mo_inLine b_Mo_inLine 6 (some .int) ∈ gx_tb := gx_m 562 (by decide +kernel) (by decide +kernel)
theorem co_Mo_isOpen : Cond.code y_Mo_isOpen b_Mo_isOpen 2 (some .boolean) ∈ gx_tb := gx_m 558 (by decide +kernel) (by decide +kernel)
theorem co_Mo_choose : Cond.code y_Mo_choose b_Mo_choose 4 (some .int) ∈ gx_tb := gx_m 554 (by decide +kernel) (by decide +kernel)
theorem co_Mo_holding : Cond.code y_Mo_holding b_Mo_holding 3 (some .int) ∈ gx_tb := gx_m 550 (by decide +kernel) (by decide +kernel)
theorem co_Mo_take : Cond.code y_Mo_take b_Mo_take 5 (some .int) ∈ gx_tb := gx_m 546 (by decide +kernel) (by decide +kernel)
theorem co_Mo_ack : Cond.code y_Mo_ack b_Mo_ack 4 (some .int) ∈ gx_tb := gx_m 570 (by decide +kernel) (by decide +kernel)
theorem co_Mo_fail : Cond.code y_Mo_fail b_Mo_fail 3 (some .int) ∈ gx_tb := gx_m 574 (by decide +kernel) (by decide +kernel)
theorem co_Mo_wake : Cond.code y_Mo_wake b_Mo_wake 8 (some .int) ∈ gx_tb := gx_m 590 (by decide +kernel) (by decide +kernel)
theorem co_Mo_tick : Cond.code y_Mo_tick b_Mo_tick 4 (some .int) ∈ gx_tb := gx_m 586 (by decide +kernel) (by decide +kernel)
theorem co_Mo_revive : Cond.code y_Mo_revive b_Mo_revive 2 (some .int) ∈ gx_tb := gx_m 594 (by decide +kernel) (by decide +kernel)
theorem co_Mo_kill : Cond.code y_Mo_kill b_Mo_kill 3 (some .int) ∈ gx_tb := gx_m 598 (by decide +kernel) (by decide +kernel)
theorem co_Mo_crash : Cond.code y_Mo_crash b_Mo_crash 5 (some .int) ∈ gx_tb := gx_m 602 (by decide +kernel) (by decide +kernel)
theorem co_Mo_state : Cond.code y_Mo_state b_Mo_state 2 (some .int) ∈ gx_tb := gx_m 606 (by decide +kernel) (by decide +kernel)
theorem co_Mo_failures : Cond.code y_Mo_failures b_Mo_failures 2 (some .int) ∈ gx_tb := gx_m 610 (by decide +kernel) (by decide +kernel)
theorem co_Mo_due : Cond.code y_Mo_due b_Mo_due 3 (some .int) ∈ gx_tb := gx_m 614 (by decide +kernel) (by decide +kernel)
theorem co_Mo_line : Cond.code y_Mo_line b_Mo_line 4 (some .int) ∈ gx_tb := gx_m 619 (by decide +kernel) (by decide +kernel)
theorem co_Mo_count : Cond.code y_Mo_count b_Mo_count 4 (some .int) ∈ gx_tb := gx_m 623 (by decide +kernel) (by decide +kernel)
theorem in_Bo : Cond.initialized R_Bo ∈ gx_tb := gx_m 1 (by decide +kernel) (by decide +kernel)
theorem in_Qu : Cond.initialized R_Qu ∈ gx_tb := gx_m 2 (by decide +kernel) (by decide +kernel)
theorem in_Jn : Cond.initialized R_Jn ∈ gx_tb := gx_m 5 (by decide +kernel) (by decide +kernel)
theorem in_Ro : Cond.initialized R_Ro ∈ gx_tb := gx_m 3 (by decide +kernel) (by decide +kernel)
theorem in_Jb : Cond.initialized R_Jb ∈ gx_tb := gx_m 4 (by decide +kernel) (by decide +kernel)
theorem in_Mo : Cond.initialized R_Mo ∈ gx_tb := gx_m 6 (by decide +kernel) (by decide +kernel)
theorem in_Math : Cond.initialized "java/lang/Math" ∈ gx_tb := gx_m 7 (by decide +kernel) (by decide +kernel)
theorem co_Math_min : Cond.code Lib.Math.min.name Lib.Math.min.code 2 (some .int) ∈ gx_tb := gx_m 326 (by decide +kernel) (by decide +kernel)
theorem st_Math_min : Cond.static Lib.Math.min.name ∈ gx_tb := gx_m 325 (by decide +kernel) (by decide +kernel)
theorem co_Math_max : Cond.code Lib.Math.max.name Lib.Math.max.code 2 (some .int) ∈ gx_tb := gx_m 374 (by decide +kernel) (by decide +kernel)
theorem st_Math_max : Cond.static Lib.Math.max.name ∈ gx_tb := gx_m 373 (by decide +kernel) (by decide +kernel)
theorem ml_Jb_55 : Cond.methodLink R_Jb 55 Lib.Math.min.name ∈ gx_tb := gx_m 324 (by decide +kernel) (by decide +kernel)
theorem ml_Jn_30 : Cond.methodLink R_Jn 30 Lib.Math.max.name ∈ gx_tb := gx_m 372 (by decide +kernel) (by decide +kernel)
theorem ml_Jn_36 : Cond.methodLink R_Jn 36 Lib.Math.min.name ∈ gx_tb := gx_m 375 (by decide +kernel) (by decide +kernel)
theorem ml_Qu_31 : Cond.methodLink R_Qu 31 Lib.Math.min.name ∈ gx_tb := gx_m 336 (by decide +kernel) (by decide +kernel)
theorem st_Bo_isQueue : Cond.static y_Bo_isQueue ∈ gx_tb := gx_m 174 (by decide +kernel) (by decide +kernel)
theorem gi_Bo_41 : GoodIn gx_tb (wsS R_Bo 41 y_Bo_isQueue w_Bo_isQueue) := gx_gs (gx_m 173 (by decide +kernel) (by decide +kernel)) st_Bo_isQueue in_Bo co_Bo_isQueue
theorem st_Bo_within : Cond.static y_Bo_within ∈ gx_tb := gx_m 177 (by decide +kernel) (by decide +kernel)
theorem gi_Bo_45 : GoodIn gx_tb (wsS R_Bo 45 y_Bo_within w_Bo_within) := gx_gs (gx_m 176 (by decide +kernel) (by decide +kernel)) st_Bo_within in_Bo co_Bo_within
theorem im_Qu_set : Cond.instanceMethod y_Qu_set ∈ gx_tb := gx_m 180 (by decide +kernel) (by decide +kernel)
theorem se_Qu_set : Cond.selects R_Qu y_Qu_set y_Qu_set ∈ gx_tb := gx_m 181 (by decide +kernel) (by decide +kernel)
theorem gi_Bo_49 : GoodIn gx_tb (wsV R_Bo 49 R_Qu y_Qu_set w_Qu_set) := gx_gv (gx_m 179 (by decide +kernel) (by decide +kernel)) im_Qu_set se_Qu_set in_Qu co_Qu_set
theorem im_Ro_hasLiveKey : Cond.instanceMethod y_Ro_hasLiveKey ∈ gx_tb := gx_m 196 (by decide +kernel) (by decide +kernel)
theorem se_Ro_hasLiveKey : Cond.selects R_Ro y_Ro_hasLiveKey y_Ro_hasLiveKey ∈ gx_tb := gx_m 197 (by decide +kernel) (by decide +kernel)
theorem gi_Bo_53 : GoodIn gx_tb (wsV R_Bo 53 R_Ro y_Ro_hasLiveKey w_Ro_hasLiveKey) := gx_gv (gx_m 195 (by decide +kernel) (by decide +kernel)) im_Ro_hasLiveKey se_Ro_hasLiveKey in_Ro co_Ro_hasLiveKey
theorem im_Ro_make : Cond.instanceMethod y_Ro_make ∈ gx_tb := gx_m 204 (by decide +kernel) (by decide +kernel)
theorem se_Ro_make : Cond.selects R_Ro y_Ro_make y_Ro_make ∈ gx_tb := gx_m 205 (by decide +kernel) (by decide +kernel)
theorem gi_Bo_56 : GoodIn gx_tb (wsV R_Bo 56 R_Ro y_Ro_make w_Ro_make) := gx_gv (gx_m 203 (by decide +kernel) (by decide +kernel)) im_Ro_make se_Ro_make in_Ro co_Ro_make
theorem im_Ro_enter : Cond.instanceMethod y_Ro_enter ∈ gx_tb := gx_m 212 (by decide +kernel) (by decide +kernel)
theorem se_Ro_enter : Cond.selects R_Ro y_Ro_enter y_Ro_enter ∈ gx_tb := gx_m 213 (by decide +kernel) (by decide +kernel)
theorem gi_Bo_71 : GoodIn gx_tb (wsV R_Bo 71 R_Ro y_Ro_enter w_Ro_enter) := gx_gv (gx_m 211 (by decide +kernel) (by decide +kernel)) im_Ro_enter se_Ro_enter in_Ro co_Ro_enter
theorem im_Jb_waitUntil : Cond.instanceMethod y_Jb_waitUntil ∈ gx_tb := gx_m 216 (by decide +kernel) (by decide +kernel)
theorem se_Jb_waitUntil : Cond.selects R_Jb y_Jb_waitUntil y_Jb_waitUntil ∈ gx_tb := gx_m 217 (by decide +kernel) (by decide +kernel)
theorem gi_Bo_75 : GoodIn gx_tb (wsV R_Bo 75 R_Jb y_Jb_waitUntil w_Jb_waitUntil) := gx_gv (gx_m 215 (by decide +kernel) (by decide +kernel)) im_Jb_waitUntil se_Jb_waitUntil in_Jb co_Jb_waitUntil
theorem im_Jn_write : Cond.instanceMethod y_Jn_write ∈ gx_tb := gx_m 220 (by decide +kernel) (by decide +kernel)
theorem se_Jn_write : Cond.selects R_Jn y_Jn_write y_Jn_write ∈ gx_tb := gx_m 221 (by decide +kernel) (by decide +kernel)
theorem gi_Bo_79 : GoodIn gx_tb (wsV R_Bo 79 R_Jn y_Jn_write w_Jn_write) := gx_gv (gx_m 219 (by decide +kernel) (by decide +kernel)) im_Jn_write se_Jn_write in_Jn co_Jn_write
theorem im_Ro_find : Cond.instanceMethod y_Ro_find ∈ gx_tb := gx_m 244 (by decide +kernel) (by decide +kernel)
theorem se_Ro_find : Cond.selects R_Ro y_Ro_find y_Ro_find ∈ gx_tb := gx_m 245 (by decide +kernel) (by decide +kernel)
theorem gi_Bo_86 : GoodIn gx_tb (wsV R_Bo 86 R_Ro y_Ro_find w_Ro_find) := gx_gv (gx_m 243 (by decide +kernel) (by decide +kernel)) im_Ro_find se_Ro_find in_Ro co_Ro_find
theorem im_Jb_isLive : Cond.instanceMethod y_Jb_isLive ∈ gx_tb := gx_m 200 (by decide +kernel) (by decide +kernel)
theorem se_Jb_isLive : Cond.selects R_Jb y_Jb_isLive y_Jb_isLive ∈ gx_tb := gx_m 201 (by decide +kernel) (by decide +kernel)
theorem gi_Bo_90 : GoodIn gx_tb (wsV R_Bo 90 R_Jb y_Jb_isLive w_Jb_isLive) := gx_gv (gx_m 247 (by decide +kernel) (by decide +kernel)) im_Jb_isLive se_Jb_isLive in_Jb co_Jb_isLive
theorem im_Ro_releaseIfComplete : Cond.instanceMethod y_Ro_releaseIfComplete ∈ gx_tb := gx_m 253 (by decide +kernel) (by decide +kernel)
theorem se_Ro_releaseIfComplete : Cond.selects R_Ro y_Ro_releaseIfComplete y_Ro_releaseIfComplete ∈ gx_tb := gx_m 254 (by decide +kernel) (by decide +kernel)
theorem gi_Bo_106 : GoodIn gx_tb (wsV R_Bo 106 R_Ro y_Ro_releaseIfComplete w_Ro_releaseIfComplete) := gx_gv (gx_m 252 (by decide +kernel) (by decide +kernel)) im_Ro_releaseIfComplete se_Ro_releaseIfComplete in_Ro co_Ro_releaseIfComplete
theorem st_Bo_isWorker : Cond.static y_Bo_isWorker ∈ gx_tb := gx_m 262 (by decide +kernel) (by decide +kernel)
theorem gi_Bo_110 : GoodIn gx_tb (wsS R_Bo 110 y_Bo_isWorker w_Bo_isWorker) := gx_gs (gx_m 261 (by decide +kernel) (by decide +kernel)) st_Bo_isWorker in_Bo co_Bo_isWorker
theorem im_Ro_reservedBy : Cond.instanceMethod y_Ro_reservedBy ∈ gx_tb := gx_m 265 (by decide +kernel) (by decide +kernel)
theorem se_Ro_reservedBy : Cond.selects R_Ro y_Ro_reservedBy y_Ro_reservedBy ∈ gx_tb := gx_m 266 (by decide +kernel) (by decide +kernel)
theorem gi_Bo_113 : GoodIn gx_tb (wsV R_Bo 113 R_Ro y_Ro_reservedBy w_Ro_reservedBy) := gx_gv (gx_m 264 (by decide +kernel) (by decide +kernel)) im_Ro_reservedBy se_Ro_reservedBy in_Ro co_Ro_reservedBy
theorem im_Bo_firstOpenQueue : Cond.instanceMethod y_Bo_firstOpenQueue ∈ gx_tb := gx_m 270 (by decide +kernel) (by decide +kernel)
theorem se_Bo_firstOpenQueue : Cond.selects R_Bo y_Bo_firstOpenQueue y_Bo_firstOpenQueue ∈ gx_tb := gx_mp 0 (by decide +kernel) (by decide +kernel)
theorem gi_Bo_116 : GoodIn gx_tb (wsV R_Bo 116 R_Bo y_Bo_firstOpenQueue w_Bo_firstOpenQueue) := gx_gv (gx_m 268 (by decide +kernel) (by decide +kernel)) im_Bo_firstOpenQueue se_Bo_firstOpenQueue in_Bo co_Bo_firstOpenQueue
theorem im_Bo_openQueueByCredit : Cond.instanceMethod y_Bo_openQueueByCredit ∈ gx_tb := gx_m 290 (by decide +kernel) (by decide +kernel)
theorem se_Bo_openQueueByCredit : Cond.selects R_Bo y_Bo_openQueueByCredit y_Bo_openQueueByCredit ∈ gx_tb := gx_mp 2 (by decide +kernel) (by decide +kernel)
theorem gi_Bo_120 : GoodIn gx_tb (wsV R_Bo 120 R_Bo y_Bo_openQueueByCredit w_Bo_openQueueByCredit) := gx_gv (gx_m 288 (by decide +kernel) (by decide +kernel)) im_Bo_openQueueByCredit se_Bo_openQueueByCredit in_Bo co_Bo_openQueueByCredit
theorem im_Ro_nextInLine : Cond.instanceMethod y_Ro_nextInLine ∈ gx_tb := gx_m 281 (by decide +kernel) (by decide +kernel)
theorem se_Ro_nextInLine : Cond.selects R_Ro y_Ro_nextInLine y_Ro_nextInLine ∈ gx_tb := gx_m 282 (by decide +kernel) (by decide +kernel)
theorem gi_Bo_123 : GoodIn gx_tb (wsV R_Bo 123 R_Ro y_Ro_nextInLine w_Ro_nextInLine) := gx_gv (gx_m 280 (by decide +kernel) (by decide +kernel)) im_Ro_nextInLine se_Ro_nextInLine in_Ro co_Ro_nextInLine
theorem im_Qu_spendToken : Cond.instanceMethod y_Qu_spendToken ∈ gx_tb := gx_m 293 (by decide +kernel) (by decide +kernel)
theorem se_Qu_spendToken : Cond.selects R_Qu y_Qu_spendToken y_Qu_spendToken ∈ gx_tb := gx_m 294 (by decide +kernel) (by decide +kernel)
theorem gi_Bo_127 : GoodIn gx_tb (wsV R_Bo 127 R_Qu y_Qu_spendToken w_Qu_spendToken) := gx_gv (gx_m 292 (by decide +kernel) (by decide +kernel)) im_Qu_spendToken se_Qu_spendToken in_Qu co_Qu_spendToken
theorem im_Ro_failReserved : Cond.instanceMethod y_Ro_failReserved ∈ gx_tb := gx_m 305 (by decide +kernel) (by decide +kernel)
theorem se_Ro_failReserved : Cond.selects R_Ro y_Ro_failReserved y_Ro_failReserved ∈ gx_tb := gx_m 306 (by decide +kernel) (by decide +kernel)
theorem gi_Bo_133 : GoodIn gx_tb (wsV R_Bo 133 R_Ro y_Ro_failReserved w_Ro_failReserved) := gx_gv (gx_m 304 (by decide +kernel) (by decide +kernel)) im_Ro_failReserved se_Ro_failReserved in_Ro co_Ro_failReserved
theorem im_Qu_refillBetween : Cond.instanceMethod y_Qu_refillBetween ∈ gx_tb := gx_m 333 (by decide +kernel) (by decide +kernel)
theorem se_Qu_refillBetween : Cond.selects R_Qu y_Qu_refillBetween y_Qu_refillBetween ∈ gx_tb := gx_m 334 (by decide +kernel) (by decide +kernel)
theorem gi_Bo_136 : GoodIn gx_tb (wsV R_Bo 136 R_Qu y_Qu_refillBetween w_Qu_refillBetween) := gx_gv (gx_m 332 (by decide +kernel) (by decide +kernel)) im_Qu_refillBetween se_Qu_refillBetween in_Qu co_Qu_refillBetween
theorem im_Ro_settleDue : Cond.instanceMethod y_Ro_settleDue ∈ gx_tb := gx_m 338 (by decide +kernel) (by decide +kernel)
theorem se_Ro_settleDue : Cond.selects R_Ro y_Ro_settleDue y_Ro_settleDue ∈ gx_tb := gx_m 339 (by decide +kernel) (by decide +kernel)
theorem gi_Bo_139 : GoodIn gx_tb (wsV R_Bo 139 R_Ro y_Ro_settleDue w_Ro_settleDue) := gx_gv (gx_m 337 (by decide +kernel) (by decide +kernel)) im_Ro_settleDue se_Ro_settleDue in_Ro co_Ro_settleDue
theorem im_Ro_bury : Cond.instanceMethod y_Ro_bury ∈ gx_tb := gx_m 309 (by decide +kernel) (by decide +kernel)
theorem se_Ro_bury : Cond.selects R_Ro y_Ro_bury y_Ro_bury ∈ gx_tb := gx_m 310 (by decide +kernel) (by decide +kernel)
theorem gi_Bo_146 : GoodIn gx_tb (wsV R_Bo 146 R_Ro y_Ro_bury w_Ro_bury) := gx_gv (gx_m 358 (by decide +kernel) (by decide +kernel)) im_Ro_bury se_Ro_bury in_Ro co_Ro_bury
theorem im_Jn_flushAll : Cond.instanceMethod y_Jn_flushAll ∈ gx_tb := gx_m 224 (by decide +kernel) (by decide +kernel)
theorem se_Jn_flushAll : Cond.selects R_Jn y_Jn_flushAll y_Jn_flushAll ∈ gx_tb := gx_m 225 (by decide +kernel) (by decide +kernel)
theorem gi_Bo_149 : GoodIn gx_tb (wsV R_Bo 149 R_Jn y_Jn_flushAll w_Jn_flushAll) := gx_gv (gx_m 363 (by decide +kernel) (by decide +kernel)) im_Jn_flushAll se_Jn_flushAll in_Jn co_Jn_flushAll
theorem im_Jn_restore : Cond.instanceMethod y_Jn_restore ∈ gx_tb := gx_m 369 (by decide +kernel) (by decide +kernel)
theorem se_Jn_restore : Cond.selects R_Jn y_Jn_restore y_Jn_restore ∈ gx_tb := gx_m 370 (by decide +kernel) (by decide +kernel)
theorem gi_Bo_153 : GoodIn gx_tb (wsV R_Bo 153 R_Jn y_Jn_restore w_Jn_restore) := gx_gv (gx_m 368 (by decide +kernel) (by decide +kernel)) im_Jn_restore se_Jn_restore in_Jn co_Jn_restore
theorem im_Ro_releaseReserved : Cond.instanceMethod y_Ro_releaseReserved ∈ gx_tb := gx_m 377 (by decide +kernel) (by decide +kernel)
theorem se_Ro_releaseReserved : Cond.selects R_Ro y_Ro_releaseReserved y_Ro_releaseReserved ∈ gx_tb := gx_m 378 (by decide +kernel) (by decide +kernel)
theorem gi_Bo_157 : GoodIn gx_tb (wsV R_Bo 157 R_Ro y_Ro_releaseReserved w_Ro_releaseReserved) := gx_gv (gx_m 376 (by decide +kernel) (by decide +kernel)) im_Ro_releaseReserved se_Ro_releaseReserved in_Ro co_Ro_releaseReserved
theorem im_Qu_restart : Cond.instanceMethod y_Qu_restart ∈ gx_tb := gx_m 184 (by decide +kernel) (by decide +kernel)
theorem se_Qu_restart : Cond.selects R_Qu y_Qu_restart y_Qu_restart ∈ gx_tb := gx_m 185 (by decide +kernel) (by decide +kernel)
theorem gi_Bo_160 : GoodIn gx_tb (wsV R_Bo 160 R_Qu y_Qu_restart w_Qu_restart) := gx_gv (gx_m 380 (by decide +kernel) (by decide +kernel)) im_Qu_restart se_Qu_restart in_Qu co_Qu_restart
theorem im_Jb_isTimed : Cond.instanceMethod y_Jb_isTimed ∈ gx_tb := gx_m 346 (by decide +kernel) (by decide +kernel)
theorem se_Jb_isTimed : Cond.selects R_Jb y_Jb_isTimed y_Jb_isTimed ∈ gx_tb := gx_m 347 (by decide +kernel) (by decide +kernel)
theorem gi_Bo_163 : GoodIn gx_tb (wsV R_Bo 163 R_Jb y_Jb_isTimed w_Jb_isTimed) := gx_gv (gx_m 393 (by decide +kernel) (by decide +kernel)) im_Jb_isTimed se_Jb_isTimed in_Jb co_Jb_isTimed
theorem st_Bo_numberOrNone : Cond.static y_Bo_numberOrNone ∈ gx_tb := gx_m 399 (by decide +kernel) (by decide +kernel)
theorem gi_Bo_169 : GoodIn gx_tb (wsS R_Bo 169 y_Bo_numberOrNone w_Bo_numberOrNone) := gx_gs (gx_m 398 (by decide +kernel) (by decide +kernel)) st_Bo_numberOrNone in_Bo co_Bo_numberOrNone
theorem im_Ro_inLine : Cond.instanceMethod y_Ro_inLine ∈ gx_tb := gx_m 406 (by decide +kernel) (by decide +kernel)
theorem se_Ro_inLine : Cond.selects R_Ro y_Ro_inLine y_Ro_inLine ∈ gx_tb := gx_m 407 (by decide +kernel) (by decide +kernel)
theorem gi_Bo_173 : GoodIn gx_tb (wsV R_Bo 173 R_Ro y_Ro_inLine w_Ro_inLine) := gx_gv (gx_m 405 (by decide +kernel) (by decide +kernel)) im_Ro_inLine se_Ro_inLine in_Ro co_Ro_inLine
theorem im_Ro_countIn : Cond.instanceMethod y_Ro_countIn ∈ gx_tb := gx_m 317 (by decide +kernel) (by decide +kernel)
theorem se_Ro_countIn : Cond.selects R_Ro y_Ro_countIn y_Ro_countIn ∈ gx_tb := gx_m 318 (by decide +kernel) (by decide +kernel)
theorem gi_Bo_176 : GoodIn gx_tb (wsV R_Bo 176 R_Ro y_Ro_countIn w_Ro_countIn) := gx_gv (gx_m 414 (by decide +kernel) (by decide +kernel)) im_Ro_countIn se_Ro_countIn in_Ro co_Ro_countIn
theorem im_Qu_canGive : Cond.instanceMethod y_Qu_canGive ∈ gx_tb := gx_m 277 (by decide +kernel) (by decide +kernel)
theorem se_Qu_canGive : Cond.selects R_Qu y_Qu_canGive y_Qu_canGive ∈ gx_tb := gx_m 278 (by decide +kernel) (by decide +kernel)
theorem gi_Bo_188 : GoodIn gx_tb (wsV R_Bo 188 R_Qu y_Qu_canGive w_Qu_canGive) := gx_gv (gx_m 276 (by decide +kernel) (by decide +kernel)) im_Qu_canGive se_Qu_canGive in_Qu co_Qu_canGive
theorem im_Bo_isOpen : Cond.instanceMethod y_Bo_isOpen ∈ gx_tb := gx_m 274 (by decide +kernel) (by decide +kernel)
theorem se_Bo_isOpen : Cond.selects R_Bo y_Bo_isOpen y_Bo_isOpen ∈ gx_tb := gx_mp 1 (by decide +kernel) (by decide +kernel)
theorem gi_Bo_191 : GoodIn gx_tb (wsV R_Bo 191 R_Bo y_Bo_isOpen w_Bo_isOpen) := gx_gv (gx_m 272 (by decide +kernel) (by decide +kernel)) im_Bo_isOpen se_Bo_isOpen in_Bo co_Bo_isOpen
theorem gi_Jn_22 : GoodIn gx_tb (wsV R_Jn 22 R_Jn y_Jn_flushAll w_Jn_flushAll) := gx_gv (gx_m 223 (by decide +kernel) (by decide +kernel)) im_Jn_flushAll se_Jn_flushAll in_Jn co_Jn_flushAll
theorem im_Ro_copyFrom : Cond.instanceMethod y_Ro_copyFrom ∈ gx_tb := gx_m 228 (by decide +kernel) (by decide +kernel)
theorem se_Ro_copyFrom : Cond.selects R_Ro y_Ro_copyFrom y_Ro_copyFrom ∈ gx_tb := gx_m 229 (by decide +kernel) (by decide +kernel)
theorem gi_Jn_26 : GoodIn gx_tb (wsV R_Jn 26 R_Ro y_Ro_copyFrom w_Ro_copyFrom) := gx_gv (gx_m 227 (by decide +kernel) (by decide +kernel)) im_Ro_copyFrom se_Ro_copyFrom in_Ro co_Ro_copyFrom
theorem gi_Qu_22 : GoodIn gx_tb (wsV R_Qu 22 R_Qu y_Qu_restart w_Qu_restart) := gx_gv (gx_m 183 (by decide +kernel) (by decide +kernel)) im_Qu_restart se_Qu_restart in_Qu co_Qu_restart
theorem im_Jb_copyFrom : Cond.instanceMethod y_Jb_copyFrom ∈ gx_tb := gx_m 232 (by decide +kernel) (by decide +kernel)
theorem se_Jb_copyFrom : Cond.selects R_Jb y_Jb_copyFrom y_Jb_copyFrom ∈ gx_tb := gx_m 233 (by decide +kernel) (by decide +kernel)
theorem gi_Ro_27 : GoodIn gx_tb (wsV R_Ro 27 R_Jb y_Jb_copyFrom w_Jb_copyFrom) := gx_gv (gx_m 231 (by decide +kernel) (by decide +kernel)) im_Jb_copyFrom se_Jb_copyFrom in_Jb co_Jb_copyFrom
theorem im_Jb_begin : Cond.instanceMethod y_Jb_begin ∈ gx_tb := gx_m 208 (by decide +kernel) (by decide +kernel)
theorem se_Jb_begin : Cond.selects R_Jb y_Jb_begin y_Jb_begin ∈ gx_tb := gx_m 209 (by decide +kernel) (by decide +kernel)
theorem gi_Ro_31 : GoodIn gx_tb (wsV R_Ro 31 R_Jb y_Jb_begin w_Jb_begin) := gx_gv (gx_m 207 (by decide +kernel) (by decide +kernel)) im_Jb_begin se_Jb_begin in_Jb co_Jb_begin
theorem gi_Ro_48 : GoodIn gx_tb (wsV R_Ro 48 R_Ro y_Ro_enter w_Ro_enter) := gx_gv (gx_m 256 (by decide +kernel) (by decide +kernel)) im_Ro_enter se_Ro_enter in_Ro co_Ro_enter
theorem gi_Ro_58 : GoodIn gx_tb (wsV R_Ro 58 R_Ro y_Ro_bury w_Ro_bury) := gx_gv (gx_m 308 (by decide +kernel) (by decide +kernel)) im_Ro_bury se_Ro_bury in_Ro co_Ro_bury
theorem im_Jb_retryDelay : Cond.instanceMethod y_Jb_retryDelay ∈ gx_tb := gx_m 321 (by decide +kernel) (by decide +kernel)
theorem se_Jb_retryDelay : Cond.selects R_Jb y_Jb_retryDelay y_Jb_retryDelay ∈ gx_tb := gx_m 322 (by decide +kernel) (by decide +kernel)
theorem gi_Ro_61 : GoodIn gx_tb (wsV R_Ro 61 R_Jb y_Jb_retryDelay w_Jb_retryDelay) := gx_gv (gx_m 320 (by decide +kernel) (by decide +kernel)) im_Jb_retryDelay se_Jb_retryDelay in_Jb co_Jb_retryDelay
theorem gi_Ro_65 : GoodIn gx_tb (wsV R_Ro 65 R_Jb y_Jb_waitUntil w_Jb_waitUntil) := gx_gv (gx_m 327 (by decide +kernel) (by decide +kernel)) im_Jb_waitUntil se_Jb_waitUntil in_Jb co_Jb_waitUntil
theorem im_Ro_oldestDead : Cond.instanceMethod y_Ro_oldestDead ∈ gx_tb := gx_m 314 (by decide +kernel) (by decide +kernel)
theorem se_Ro_oldestDead : Cond.selects R_Ro y_Ro_oldestDead y_Ro_oldestDead ∈ gx_tb := gx_mp 3 (by decide +kernel) (by decide +kernel)
theorem gi_Ro_68 : GoodIn gx_tb (wsV R_Ro 68 R_Ro y_Ro_oldestDead w_Ro_oldestDead) := gx_gv (gx_m 312 (by decide +kernel) (by decide +kernel)) im_Ro_oldestDead se_Ro_oldestDead in_Ro co_Ro_oldestDead
theorem gi_Ro_72 : GoodIn gx_tb (wsV R_Ro 72 R_Ro y_Ro_countIn w_Ro_countIn) := gx_gv (gx_m 316 (by decide +kernel) (by decide +kernel)) im_Ro_countIn se_Ro_countIn in_Ro co_Ro_countIn
theorem im_Ro_nextDue : Cond.instanceMethod y_Ro_nextDue ∈ gx_tb := gx_m 343 (by decide +kernel) (by decide +kernel)
theorem se_Ro_nextDue : Cond.selects R_Ro y_Ro_nextDue y_Ro_nextDue ∈ gx_tb := gx_mp 4 (by decide +kernel) (by decide +kernel)
theorem gi_Ro_76 : GoodIn gx_tb (wsV R_Ro 76 R_Ro y_Ro_nextDue w_Ro_nextDue) := gx_gv (gx_m 341 (by decide +kernel) (by decide +kernel)) im_Ro_nextDue se_Ro_nextDue in_Ro co_Ro_nextDue
theorem gi_Ro_80 : GoodIn gx_tb (wsV R_Ro 80 R_Ro y_Ro_failReserved w_Ro_failReserved) := gx_gv (gx_m 349 (by decide +kernel) (by decide +kernel)) im_Ro_failReserved se_Ro_failReserved in_Ro co_Ro_failReserved
theorem gi_Ro_83 : GoodIn gx_tb (wsV R_Ro 83 R_Jb y_Jb_isTimed w_Jb_isTimed) := gx_gv (gx_m 345 (by decide +kernel) (by decide +kernel)) im_Jb_isTimed se_Jb_isTimed in_Jb co_Jb_isTimed
theorem gi_Ro_93 : GoodIn gx_tb (wsV R_Ro 93 R_Jb y_Jb_isLive w_Jb_isLive) := gx_gv (gx_m 199 (by decide +kernel) (by decide +kernel)) im_Jb_isLive se_Jb_isLive in_Jb co_Jb_isLive
theorem gi_Ro_99 : GoodIn gx_tb (wsV R_Ro 99 R_Ro y_Ro_nextInLine w_Ro_nextInLine) := gx_gv (gx_m 409 (by decide +kernel) (by decide +kernel)) im_Ro_nextInLine se_Ro_nextInLine in_Ro co_Ro_nextInLine
theorem im_Jb_standsBefore : Cond.instanceMethod y_Jb_standsBefore ∈ gx_tb := gx_m 285 (by decide +kernel) (by decide +kernel)
theorem se_Jb_standsBefore : Cond.selects R_Jb y_Jb_standsBefore y_Jb_standsBefore ∈ gx_tb := gx_m 286 (by decide +kernel) (by decide +kernel)
theorem gi_Ro_106 : GoodIn gx_tb (wsV R_Ro 106 R_Jb y_Jb_standsBefore w_Jb_standsBefore) := gx_gv (gx_m 284 (by decide +kernel) (by decide +kernel)) im_Jb_standsBefore se_Jb_standsBefore in_Jb co_Jb_standsBefore
theorem im_Mo_store : Cond.instanceMethod y_Mo_store ∈ gx_tb := gx_m 481 (by decide +kernel) (by decide +kernel)
theorem se_Mo_store : Cond.selects R_Mo y_Mo_store y_Mo_store ∈ gx_tb := gx_mp 5 (by decide +kernel) (by decide +kernel)
theorem gi_Mo_61 : GoodIn gx_tb (wsV R_Mo 61 R_Mo y_Mo_store w_Mo_store) := gx_gv (gx_m 479 (by decide +kernel) (by decide +kernel)) im_Mo_store se_Mo_store in_Mo co_Mo_store
theorem im_Mo_of : Cond.instanceMethod y_Mo_of ∈ gx_tb := gx_m 509 (by decide +kernel) (by decide +kernel)
theorem se_Mo_of : Cond.selects R_Mo y_Mo_of y_Mo_of ∈ gx_tb := gx_mp 9 (by decide +kernel) (by decide +kernel)
theorem gi_Mo_65 : GoodIn gx_tb (wsV R_Mo 65 R_Mo y_Mo_of w_Mo_of) := gx_gv (gx_m 507 (by decide +kernel) (by decide +kernel)) im_Mo_of se_Mo_of in_Mo co_Mo_of
theorem im_Mo_set : Cond.instanceMethod y_Mo_set ∈ gx_tb := gx_m 517 (by decide +kernel) (by decide +kernel)
theorem se_Mo_set : Cond.selects R_Mo y_Mo_set y_Mo_set ∈ gx_tb := gx_mp 11 (by decide +kernel) (by decide +kernel)
theorem gi_Mo_69 : GoodIn gx_tb (wsV R_Mo 69 R_Mo y_Mo_set w_Mo_set) := gx_gv (gx_m 515 (by decide +kernel) (by decide +kernel)) im_Mo_set se_Mo_set in_Mo co_Mo_set
theorem im_Mo_die : Cond.instanceMethod y_Mo_die ∈ gx_tb := gx_m 581 (by decide +kernel) (by decide +kernel)
theorem se_Mo_die : Cond.selects R_Mo y_Mo_die y_Mo_die ∈ gx_tb := gx_mp 20 (by decide +kernel) (by decide +kernel)
theorem gi_Mo_73 : GoodIn gx_tb (wsV R_Mo 73 R_Mo y_Mo_die w_Mo_die) := gx_gv (gx_m 579 (by decide +kernel) (by decide +kernel)) im_Mo_die se_Mo_die in_Mo co_Mo_die
theorem im_Mo_isLive : Cond.instanceMethod y_Mo_isLive ∈ gx_tb := gx_m 505 (by decide +kernel) (by decide +kernel)
theorem se_Mo_isLive : Cond.selects R_Mo y_Mo_isLive y_Mo_isLive ∈ gx_tb := gx_mp 8 (by decide +kernel) (by decide +kernel)
theorem gi_Mo_76 : GoodIn gx_tb (wsV R_Mo 76 R_Mo y_Mo_isLive w_Mo_isLive) := gx_gv (gx_m 503 (by decide +kernel) (by decide +kernel)) im_Mo_isLive se_Mo_isLive in_Mo co_Mo_isLive
theorem im_Mo_out : Cond.instanceMethod y_Mo_out ∈ gx_tb := gx_m 489 (by decide +kernel) (by decide +kernel)
theorem se_Mo_out : Cond.selects R_Mo y_Mo_out y_Mo_out ∈ gx_tb := gx_mp 6 (by decide +kernel) (by decide +kernel)
theorem gi_Mo_80 : GoodIn gx_tb (wsV R_Mo 80 R_Mo y_Mo_out w_Mo_out) := gx_gv (gx_m 487 (by decide +kernel) (by decide +kernel)) im_Mo_out se_Mo_out in_Mo co_Mo_out
theorem im_Mo_keyTaken : Cond.instanceMethod y_Mo_keyTaken ∈ gx_tb := gx_m 501 (by decide +kernel) (by decide +kernel)
theorem se_Mo_keyTaken : Cond.selects R_Mo y_Mo_keyTaken y_Mo_keyTaken ∈ gx_tb := gx_mp 7 (by decide +kernel) (by decide +kernel)
theorem gi_Mo_84 : GoodIn gx_tb (wsV R_Mo 84 R_Mo y_Mo_keyTaken w_Mo_keyTaken) := gx_gv (gx_m 499 (by decide +kernel) (by decide +kernel)) im_Mo_keyTaken se_Mo_keyTaken in_Mo co_Mo_keyTaken
theorem im_Mo_make : Cond.instanceMethod y_Mo_make ∈ gx_tb := gx_m 513 (by decide +kernel) (by decide +kernel)
theorem se_Mo_make : Cond.selects R_Mo y_Mo_make y_Mo_make ∈ gx_tb := gx_mp 10 (by decide +kernel) (by decide +kernel)
theorem gi_Mo_87 : GoodIn gx_tb (wsV R_Mo 87 R_Mo y_Mo_make w_Mo_make) := gx_gv (gx_m 511 (by decide +kernel) (by decide +kernel)) im_Mo_make se_Mo_make in_Mo co_Mo_make
theorem im_Mo_ready : Cond.instanceMethod y_Mo_ready ∈ gx_tb := gx_m 521 (by decide +kernel) (by decide +kernel)
theorem se_Mo_ready : Cond.selects R_Mo y_Mo_ready y_Mo_ready ∈ gx_tb := gx_mp 12 (by decide +kernel) (by decide +kernel)
theorem gi_Mo_91 : GoodIn gx_tb (wsV R_Mo 91 R_Mo y_Mo_ready w_Mo_ready) := gx_gv (gx_m 519 (by decide +kernel) (by decide +kernel)) im_Mo_ready se_Mo_ready in_Mo co_Mo_ready
theorem im_Mo_note : Cond.instanceMethod y_Mo_note ∈ gx_tb := gx_m 525 (by decide +kernel) (by decide +kernel)
theorem se_Mo_note : Cond.selects R_Mo y_Mo_note y_Mo_note ∈ gx_tb := gx_mp 13 (by decide +kernel) (by decide +kernel)
theorem gi_Mo_94 : GoodIn gx_tb (wsV R_Mo 94 R_Mo y_Mo_note w_Mo_note) := gx_gv (gx_m 523 (by decide +kernel) (by decide +kernel)) im_Mo_note se_Mo_note in_Mo co_Mo_note
theorem im_Mo_no : Cond.instanceMethod y_Mo_no ∈ gx_tb := gx_m 537 (by decide +kernel) (by decide +kernel)
theorem se_Mo_no : Cond.selects R_Mo y_Mo_no y_Mo_no ∈ gx_tb := gx_mp 14 (by decide +kernel) (by decide +kernel)
theorem gi_Mo_97 : GoodIn gx_tb (wsV R_Mo 97 R_Mo y_Mo_no w_Mo_no) := gx_gv (gx_m 535 (by decide +kernel) (by decide +kernel)) im_Mo_no se_Mo_no in_Mo co_Mo_no
theorem im_Mo_goesBefore : Cond.instanceMethod y_Mo_goesBefore ∈ gx_tb := gx_m 565 (by decide +kernel) (by decide +kernel)
theorem se_Mo_goesBefore : Cond.selects R_Mo y_Mo_goesBefore y_Mo_goesBefore ∈ gx_tb := gx_mp 18 (by decide +kernel) (by decide +kernel)
theorem gi_Mo_100 : GoodIn gx_tb (wsV R_Mo 100 R_Mo y_Mo_goesBefore w_Mo_goesBefore) := gx_gv (gx_m 563 (by decide +kernel) (by decide +kernel)) im_Mo_goesBefore se_Mo_goesBefore in_Mo co_Mo_goesBefore
theorem im_Mo_inLine : Cond.instanceMethod y_Mo_inLine ∈ gx_tb := gx_m 561 (by decide +kernel) (by decide +kernel)
theorem se_Mo_inLine : Cond.selects R_Mo y_Mo_inLine y_Mo_inLine ∈ gx_tb := gx_mp 17 (by decide +kernel) (by decide +kernel)
theorem gi_Mo_104 : GoodIn gx_tb (wsV R_Mo 104 R_Mo y_Mo_inLine w_Mo_inLine) := gx_gv (gx_m 559 (by decide +kernel) (by decide +kernel)) im_Mo_inLine se_Mo_inLine in_Mo co_Mo_inLine
theorem im_Mo_isOpen : Cond.instanceMethod y_Mo_isOpen ∈ gx_tb := gx_m 557 (by decide +kernel) (by decide +kernel)
theorem se_Mo_isOpen : Cond.selects R_Mo y_Mo_isOpen y_Mo_isOpen ∈ gx_tb := gx_mp 16 (by decide +kernel) (by decide +kernel)
theorem gi_Mo_107 : GoodIn gx_tb (wsV R_Mo 107 R_Mo y_Mo_isOpen w_Mo_isOpen) := gx_gv (gx_m 555 (by decide +kernel) (by decide +kernel)) im_Mo_isOpen se_Mo_isOpen in_Mo co_Mo_isOpen
theorem im_Mo_holding : Cond.instanceMethod y_Mo_holding ∈ gx_tb := gx_m 548 (by decide +kernel) (by decide +kernel)
theorem se_Mo_holding : Cond.selects R_Mo y_Mo_holding y_Mo_holding ∈ gx_tb := gx_m 549 (by decide +kernel) (by decide +kernel)
theorem gi_Mo_110 : GoodIn gx_tb (wsV R_Mo 110 R_Mo y_Mo_holding w_Mo_holding) := gx_gv (gx_m 547 (by decide +kernel) (by decide +kernel)) im_Mo_holding se_Mo_holding in_Mo co_Mo_holding
theorem im_Mo_choose : Cond.instanceMethod y_Mo_choose ∈ gx_tb := gx_m 553 (by decide +kernel) (by decide +kernel)
theorem se_Mo_choose : Cond.selects R_Mo y_Mo_choose y_Mo_choose ∈ gx_tb := gx_mp 15 (by decide +kernel) (by decide +kernel)
theorem gi_Mo_114 : GoodIn gx_tb (wsV R_Mo 114 R_Mo y_Mo_choose w_Mo_choose) := gx_gv (gx_m 551 (by decide +kernel) (by decide +kernel)) im_Mo_choose se_Mo_choose in_Mo co_Mo_choose
theorem im_Mo_failing : Cond.instanceMethod y_Mo_failing ∈ gx_tb := gx_m 577 (by decide +kernel) (by decide +kernel)
theorem se_Mo_failing : Cond.selects R_Mo y_Mo_failing y_Mo_failing ∈ gx_tb := gx_mp 19 (by decide +kernel) (by decide +kernel)
theorem gi_Mo_118 : GoodIn gx_tb (wsV R_Mo 118 R_Mo y_Mo_failing w_Mo_failing) := gx_gv (gx_m 575 (by decide +kernel) (by decide +kernel)) im_Mo_failing se_Mo_failing in_Mo co_Mo_failing
theorem im_Mo_wake : Cond.instanceMethod y_Mo_wake ∈ gx_tb := gx_m 589 (by decide +kernel) (by decide +kernel)
theorem se_Mo_wake : Cond.selects R_Mo y_Mo_wake y_Mo_wake ∈ gx_tb := gx_mp 21 (by decide +kernel) (by decide +kernel)
theorem gi_Mo_121 : GoodIn gx_tb (wsV R_Mo 121 R_Mo y_Mo_wake w_Mo_wake) := gx_gv (gx_m 587 (by decide +kernel) (by decide +kernel)) im_Mo_wake se_Mo_wake in_Mo co_Mo_wake
end
section
theorem d_Jb_isLive_0 : decode b_Jb_isLive 0 = .ok (.aload_n 0, 1) := by decide +kernel
theorem d_Jb_isLive_1 : decode b_Jb_isLive 1 = .ok (.getfield 43, 3) := by decide +kernel
theorem d_Jb_isLive_4 : decode b_Jb_isLive 4 = .ok (.iconst 4, 1) := by decide +kernel
theorem d_Jb_isLive_5 : decode b_Jb_isLive 5 = .ok (.if_icmp .eq 24, 3) := by decide +kernel
theorem d_Jb_isLive_8 : decode b_Jb_isLive 8 = .ok (.aload_n 0, 1) := by decide +kernel
theorem d_Jb_isLive_9 : decode b_Jb_isLive 9 = .ok (.getfield 43, 3) := by decide +kernel
theorem d_Jb_isLive_12 : decode b_Jb_isLive 12 = .ok (.iconst 5, 1) := by decide +kernel
theorem d_Jb_isLive_13 : decode b_Jb_isLive 13 = .ok (.if_icmp .eq 16, 3) := by decide +kernel
theorem d_Jb_isLive_16 : decode b_Jb_isLive 16 = .ok (.aload_n 0, 1) := by decide +kernel
theorem d_Jb_isLive_17 : decode b_Jb_isLive 17 = .ok (.getfield 43, 3) := by decide +kernel
theorem d_Jb_isLive_20 : decode b_Jb_isLive 20 = .ok (.bipush 7, 2) := by decide +kernel
theorem d_Jb_isLive_22 : decode b_Jb_isLive 22 = .ok (.if_icmp .eq 7, 3) := by decide +kernel
theorem d_Jb_isLive_25 : decode b_Jb_isLive 25 = .ok (.iconst 1, 1) := by decide +kernel
theorem d_Jb_isLive_26 : decode b_Jb_isLive 26 = .ok (.goto 4, 3) := by decide +kernel
theorem d_Jb_isLive_29 : decode b_Jb_isLive 29 = .ok (.iconst 0, 1) := by decide +kernel
theorem d_Jb_isLive_30 : decode b_Jb_isLive 30 = .ok (.ireturn, 1) := by decide +kernel
theorem d_Jb_isTimed_0 : decode b_Jb_isTimed 0 = .ok (.aload_n 0, 1) := by decide +kernel
theorem d_Jb_isTimed_1 : decode b_Jb_isTimed 1 = .ok (.getfield 43, 3) := by decide +kernel
theorem d_Jb_isTimed_4 : decode b_Jb_isTimed 4 = .ok (.ifCond .eq 19, 3) := by decide +kernel
theorem d_Jb_isTimed_7 : decode b_Jb_isTimed 7 = .ok (.aload_n 0, 1) := by decide +kernel
theorem d_Jb_isTimed_8 : decode b_Jb_isTimed 8 = .ok (.getfield 43, 3) := by decide +kernel
theorem d_Jb_isTimed_11 : decode b_Jb_isTimed 11 = .ok (.iconst 3, 1) := by decide +kernel
theorem d_Jb_isTimed_12 : decode b_Jb_isTimed 12 = .ok (.if_icmp .eq 11, 3) := by decide +kernel
theorem d_Jb_isTimed_15 : decode b_Jb_isTimed 15 = .ok (.aload_n 0, 1) := by decide +kernel
theorem d_Jb_isTimed_16 : decode b_Jb_isTimed 16 = .ok (.getfield 43, 3) := by decide +kernel
theorem d_Jb_isTimed_19 : decode b_Jb_isTimed 19 = .ok (.iconst 2, 1) := by decide +kernel
theorem d_Jb_isTimed_20 : decode b_Jb_isTimed 20 = .ok (.if_icmp .ne 7, 3) := by decide +kernel
theorem d_Jb_isTimed_23 : decode b_Jb_isTimed 23 = .ok (.iconst 1, 1) := by decide +kernel
theorem d_Jb_isTimed_24 : decode b_Jb_isTimed 24 = .ok (.goto 4, 3) := by decide +kernel
theorem d_Jb_isTimed_27 : decode b_Jb_isTimed 27 = .ok (.iconst 0, 1) := by decide +kernel
theorem d_Jb_isTimed_28 : decode b_Jb_isTimed 28 = .ok (.ireturn, 1) := by decide +kernel
theorem d_Jb_waitUntil_0 : decode b_Jb_waitUntil 0 = .ok (.aload_n 0, 1) := by decide +kernel
theorem d_Jb_waitUntil_1 : decode b_Jb_waitUntil 1 = .ok (.iload_n 1, 1) := by decide +kernel
theorem d_Jb_waitUntil_2 : decode b_Jb_waitUntil 2 = .ok (.putfield 43, 3) := by decide +kernel
theorem d_Jb_waitUntil_5 : decode b_Jb_waitUntil 5 = .ok (.aload_n 0, 1) := by decide +kernel
theorem d_Jb_waitUntil_6 : decode b_Jb_waitUntil 6 = .ok (.iload_n 2, 1) := by decide +kernel
theorem d_Jb_waitUntil_7 : decode b_Jb_waitUntil 7 = .ok (.putfield 46, 3) := by decide +kernel
theorem d_Jb_waitUntil_10 : decode b_Jb_waitUntil 10 = .ok (.return_, 1) := by decide +kernel
theorem d_Jb_retryDelay_0 : decode b_Jb_retryDelay 0 = .ok (.sipush 500, 3) := by decide +kernel
theorem d_Jb_retryDelay_3 : decode b_Jb_retryDelay 3 = .ok (.aload_n 0, 1) := by decide +kernel
theorem d_Jb_retryDelay_4 : decode b_Jb_retryDelay 4 = .ok (.getfield 24, 3) := by decide +kernel
theorem d_Jb_retryDelay_7 : decode b_Jb_retryDelay 7 = .ok (.aload_n 0, 1) := by decide +kernel
theorem d_Jb_retryDelay_8 : decode b_Jb_retryDelay 8 = .ok (.getfield 30, 3) := by decide +kernel
theorem d_Jb_retryDelay_11 : decode b_Jb_retryDelay 11 = .ok (.iconst 1, 1) := by decide +kernel
theorem d_Jb_retryDelay_12 : decode b_Jb_retryDelay 12 = .ok (.isub, 1) := by decide +kernel
theorem d_Jb_retryDelay_13 : decode b_Jb_retryDelay 13 = .ok (.ishl, 1) := by decide +kernel
theorem d_Jb_retryDelay_14 : decode b_Jb_retryDelay 14 = .ok (.invokestatic 55, 3) := by decide +kernel
theorem d_Jb_retryDelay_17 : decode b_Jb_retryDelay 17 = .ok (.ireturn, 1) := by decide +kernel
theorem d_Jb_standsBefore_0 : decode b_Jb_standsBefore 0 = .ok (.aload_n 0, 1) := by decide +kernel
theorem d_Jb_standsBefore_1 : decode b_Jb_standsBefore 1 = .ok (.getfield 18, 3) := by decide +kernel
theorem d_Jb_standsBefore_4 : decode b_Jb_standsBefore 4 = .ok (.aload_n 1, 1) := by decide +kernel
theorem d_Jb_standsBefore_5 : decode b_Jb_standsBefore 5 = .ok (.getfield 18, 3) := by decide +kernel
theorem d_Jb_standsBefore_8 : decode b_Jb_standsBefore 8 = .ok (.if_icmp .gt 25, 3) := by decide +kernel
theorem d_Jb_standsBefore_11 : decode b_Jb_standsBefore 11 = .ok (.aload_n 0, 1) := by decide +kernel
theorem d_Jb_standsBefore_12 : decode b_Jb_standsBefore 12 = .ok (.getfield 18, 3) := by decide +kernel
theorem d_Jb_standsBefore_15 : decode b_Jb_standsBefore 15 = .ok (.aload_n 1, 1) := by decide +kernel
theorem d_Jb_standsBefore_16 : decode b_Jb_standsBefore 16 = .ok (.getfield 18, 3) := by decide +kernel
theorem d_Jb_standsBefore_19 : decode b_Jb_standsBefore 19 = .ok (.if_icmp .ne 18, 3) := by decide +kernel
theorem d_Jb_standsBefore_22 : decode b_Jb_standsBefore 22 = .ok (.aload_n 0, 1) := by decide +kernel
theorem d_Jb_standsBefore_23 : decode b_Jb_standsBefore 23 = .ok (.getfield 52, 3) := by decide +kernel
theorem d_Jb_standsBefore_26 : decode b_Jb_standsBefore 26 = .ok (.aload_n 1, 1) := by decide +kernel
theorem d_Jb_standsBefore_27 : decode b_Jb_standsBefore 27 = .ok (.getfield 52, 3) := by decide +kernel
theorem d_Jb_standsBefore_30 : decode b_Jb_standsBefore 30 = .ok (.if_icmp .ge 7, 3) := by decide +kernel
theorem d_Jb_standsBefore_33 : decode b_Jb_standsBefore 33 = .ok (.iconst 1, 1) := by decide +kernel
theorem d_Jb_standsBefore_34 : decode b_Jb_standsBefore 34 = .ok (.goto 4, 3) := by decide +kernel
theorem d_Jb_standsBefore_37 : decode b_Jb_standsBefore 37 = .ok (.iconst 0, 1) := by decide +kernel
theorem d_Jb_standsBefore_38 : decode b_Jb_standsBefore 38 = .ok (.ireturn, 1) := by decide +kernel
theorem d_Jb_begin_0 : decode b_Jb_begin 0 = .ok (.aload_n 0, 1) := by decide +kernel
theorem d_Jb_begin_1 : decode b_Jb_begin 1 = .ok (.iload_n 1, 1) := by decide +kernel
theorem d_Jb_begin_2 : decode b_Jb_begin 2 = .ok (.putfield 15, 3) := by decide +kernel
theorem d_Jb_begin_5 : decode b_Jb_begin 5 = .ok (.aload_n 0, 1) := by decide +kernel
theorem d_Jb_begin_6 : decode b_Jb_begin 6 = .ok (.iload_n 2, 1) := by decide +kernel
theorem d_Jb_begin_7 : decode b_Jb_begin 7 = .ok (.putfield 18, 3) := by decide +kernel
theorem d_Jb_begin_10 : decode b_Jb_begin 10 = .ok (.aload_n 0, 1) := by decide +kernel
theorem d_Jb_begin_11 : decode b_Jb_begin 11 = .ok (.iconst 0, 1) := by decide +kernel
theorem d_Jb_begin_12 : decode b_Jb_begin 12 = .ok (.putfield 21, 3) := by decide +kernel
theorem d_Jb_begin_15 : decode b_Jb_begin 15 = .ok (.aload_n 0, 1) := by decide +kernel
theorem d_Jb_begin_16 : decode b_Jb_begin 16 = .ok (.iconst 1, 1) := by decide +kernel
theorem d_Jb_begin_17 : decode b_Jb_begin 17 = .ok (.putfield 24, 3) := by decide +kernel
theorem d_Jb_begin_20 : decode b_Jb_begin 20 = .ok (.aload_n 0, 1) := by decide +kernel
theorem d_Jb_begin_21 : decode b_Jb_begin 21 = .ok (.iconst (-1), 1) := by decide +kernel
theorem d_Jb_begin_22 : decode b_Jb_begin 22 = .ok (.putfield 27, 3) := by decide +kernel
theorem d_Jb_begin_25 : decode b_Jb_begin 25 = .ok (.aload_n 0, 1) := by decide +kernel
theorem d_Jb_begin_26 : decode b_Jb_begin 26 = .ok (.iconst 0, 1) := by decide +kernel
theorem d_Jb_begin_27 : decode b_Jb_begin 27 = .ok (.putfield 30, 3) := by decide +kernel
theorem d_Jb_begin_30 : decode b_Jb_begin 30 = .ok (.aload_n 0, 1) := by decide +kernel
theorem d_Jb_begin_31 : decode b_Jb_begin 31 = .ok (.iconst (-1), 1) := by decide +kernel
theorem d_Jb_begin_32 : decode b_Jb_begin 32 = .ok (.putfield 33, 3) := by decide +kernel
theorem d_Jb_begin_35 : decode b_Jb_begin 35 = .ok (.aload_n 0, 1) := by decide +kernel
theorem d_Jb_begin_36 : decode b_Jb_begin 36 = .ok (.iconst 0, 1) := by decide +kernel
theorem d_Jb_begin_37 : decode b_Jb_begin 37 = .ok (.putfield 36, 3) := by decide +kernel
theorem d_Jb_begin_40 : decode b_Jb_begin 40 = .ok (.aload_n 0, 1) := by decide +kernel
theorem d_Jb_begin_41 : decode b_Jb_begin 41 = .ok (.iconst 0, 1) := by decide +kernel
theorem d_Jb_begin_42 : decode b_Jb_begin 42 = .ok (.putfield 39, 3) := by decide +kernel
theorem d_Jb_begin_45 : decode b_Jb_begin 45 = .ok (.aload_n 0, 1) := by decide +kernel
theorem d_Jb_begin_46 : decode b_Jb_begin 46 = .ok (.bipush 6, 2) := by decide +kernel
theorem d_Jb_begin_48 : decode b_Jb_begin 48 = .ok (.putfield 43, 3) := by decide +kernel
theorem d_Jb_begin_51 : decode b_Jb_begin 51 = .ok (.aload_n 0, 1) := by decide +kernel
theorem d_Jb_begin_52 : decode b_Jb_begin 52 = .ok (.iconst 0, 1) := by decide +kernel
theorem d_Jb_begin_53 : decode b_Jb_begin 53 = .ok (.putfield 46, 3) := by decide +kernel
theorem d_Jb_begin_56 : decode b_Jb_begin 56 = .ok (.aload_n 0, 1) := by decide +kernel
theorem d_Jb_begin_57 : decode b_Jb_begin 57 = .ok (.iconst 0, 1) := by decide +kernel
theorem d_Jb_begin_58 : decode b_Jb_begin 58 = .ok (.putfield 49, 3) := by decide +kernel
theorem d_Jb_begin_61 : decode b_Jb_begin 61 = .ok (.aload_n 0, 1) := by decide +kernel
theorem d_Jb_begin_62 : decode b_Jb_begin 62 = .ok (.iconst 0, 1) := by decide +kernel
theorem d_Jb_begin_63 : decode b_Jb_begin 63 = .ok (.putfield 52, 3) := by decide +kernel
theorem d_Jb_begin_66 : decode b_Jb_begin 66 = .ok (.return_, 1) := by decide +kernel
theorem d_Jb_copyFrom_0 : decode b_Jb_copyFrom 0 = .ok (.aload_n 0, 1) := by decide +kernel
theorem d_Jb_copyFrom_1 : decode b_Jb_copyFrom 1 = .ok (.aload_n 1, 1) := by decide +kernel
theorem d_Jb_copyFrom_2 : decode b_Jb_copyFrom 2 = .ok (.getfield 15, 3) := by decide +kernel
theorem d_Jb_copyFrom_5 : decode b_Jb_copyFrom 5 = .ok (.putfield 15, 3) := by decide +kernel
theorem d_Jb_copyFrom_8 : decode b_Jb_copyFrom 8 = .ok (.aload_n 0, 1) := by decide +kernel
theorem d_Jb_copyFrom_9 : decode b_Jb_copyFrom 9 = .ok (.aload_n 1, 1) := by decide +kernel
theorem d_Jb_copyFrom_10 : decode b_Jb_copyFrom 10 = .ok (.getfield 18, 3) := by decide +kernel
theorem d_Jb_copyFrom_13 : decode b_Jb_copyFrom 13 = .ok (.putfield 18, 3) := by decide +kernel
theorem d_Jb_copyFrom_16 : decode b_Jb_copyFrom 16 = .ok (.aload_n 0, 1) := by decide +kernel
theorem d_Jb_copyFrom_17 : decode b_Jb_copyFrom 17 = .ok (.aload_n 1, 1) := by decide +kernel
theorem d_Jb_copyFrom_18 : decode b_Jb_copyFrom 18 = .ok (.getfield 21, 3) := by decide +kernel
theorem d_Jb_copyFrom_21 : decode b_Jb_copyFrom 21 = .ok (.putfield 21, 3) := by decide +kernel
theorem d_Jb_copyFrom_24 : decode b_Jb_copyFrom 24 = .ok (.aload_n 0, 1) := by decide +kernel
theorem d_Jb_copyFrom_25 : decode b_Jb_copyFrom 25 = .ok (.aload_n 1, 1) := by decide +kernel
theorem d_Jb_copyFrom_26 : decode b_Jb_copyFrom 26 = .ok (.getfield 24, 3) := by decide +kernel
theorem d_Jb_copyFrom_29 : decode b_Jb_copyFrom 29 = .ok (.putfield 24, 3) := by decide +kernel
theorem d_Jb_copyFrom_32 : decode b_Jb_copyFrom 32 = .ok (.aload_n 0, 1) := by decide +kernel
theorem d_Jb_copyFrom_33 : decode b_Jb_copyFrom 33 = .ok (.aload_n 1, 1) := by decide +kernel
theorem d_Jb_copyFrom_34 : decode b_Jb_copyFrom 34 = .ok (.getfield 27, 3) := by decide +kernel
theorem d_Jb_copyFrom_37 : decode b_Jb_copyFrom 37 = .ok (.putfield 27, 3) := by decide +kernel
theorem d_Jb_copyFrom_40 : decode b_Jb_copyFrom 40 = .ok (.aload_n 0, 1) := by decide +kernel
theorem d_Jb_copyFrom_41 : decode b_Jb_copyFrom 41 = .ok (.aload_n 1, 1) := by decide +kernel
theorem d_Jb_copyFrom_42 : decode b_Jb_copyFrom 42 = .ok (.getfield 30, 3) := by decide +kernel
theorem d_Jb_copyFrom_45 : decode b_Jb_copyFrom 45 = .ok (.putfield 30, 3) := by decide +kernel
theorem d_Jb_copyFrom_48 : decode b_Jb_copyFrom 48 = .ok (.aload_n 0, 1) := by decide +kernel
theorem d_Jb_copyFrom_49 : decode b_Jb_copyFrom 49 = .ok (.aload_n 1, 1) := by decide +kernel
theorem d_Jb_copyFrom_50 : decode b_Jb_copyFrom 50 = .ok (.getfield 33, 3) := by decide +kernel
theorem d_Jb_copyFrom_53 : decode b_Jb_copyFrom 53 = .ok (.putfield 33, 3) := by decide +kernel
theorem d_Jb_copyFrom_56 : decode b_Jb_copyFrom 56 = .ok (.aload_n 0, 1) := by decide +kernel
theorem d_Jb_copyFrom_57 : decode b_Jb_copyFrom 57 = .ok (.aload_n 1, 1) := by decide +kernel
theorem d_Jb_copyFrom_58 : decode b_Jb_copyFrom 58 = .ok (.getfield 36, 3) := by decide +kernel
theorem d_Jb_copyFrom_61 : decode b_Jb_copyFrom 61 = .ok (.putfield 36, 3) := by decide +kernel
theorem d_Jb_copyFrom_64 : decode b_Jb_copyFrom 64 = .ok (.aload_n 0, 1) := by decide +kernel
theorem d_Jb_copyFrom_65 : decode b_Jb_copyFrom 65 = .ok (.aload_n 1, 1) := by decide +kernel
theorem d_Jb_copyFrom_66 : decode b_Jb_copyFrom 66 = .ok (.getfield 39, 3) := by decide +kernel
theorem d_Jb_copyFrom_69 : decode b_Jb_copyFrom 69 = .ok (.putfield 39, 3) := by decide +kernel
theorem d_Jb_copyFrom_72 : decode b_Jb_copyFrom 72 = .ok (.aload_n 0, 1) := by decide +kernel
theorem d_Jb_copyFrom_73 : decode b_Jb_copyFrom 73 = .ok (.aload_n 1, 1) := by decide +kernel
theorem d_Jb_copyFrom_74 : decode b_Jb_copyFrom 74 = .ok (.getfield 43, 3) := by decide +kernel
theorem d_Jb_copyFrom_77 : decode b_Jb_copyFrom 77 = .ok (.putfield 43, 3) := by decide +kernel
theorem d_Jb_copyFrom_80 : decode b_Jb_copyFrom 80 = .ok (.aload_n 0, 1) := by decide +kernel
theorem d_Jb_copyFrom_81 : decode b_Jb_copyFrom 81 = .ok (.aload_n 1, 1) := by decide +kernel
theorem d_Jb_copyFrom_82 : decode b_Jb_copyFrom 82 = .ok (.getfield 46, 3) := by decide +kernel
theorem d_Jb_copyFrom_85 : decode b_Jb_copyFrom 85 = .ok (.putfield 46, 3) := by decide +kernel
theorem d_Jb_copyFrom_88 : decode b_Jb_copyFrom 88 = .ok (.aload_n 0, 1) := by decide +kernel
theorem d_Jb_copyFrom_89 : decode b_Jb_copyFrom 89 = .ok (.aload_n 1, 1) := by decide +kernel
theorem d_Jb_copyFrom_90 : decode b_Jb_copyFrom 90 = .ok (.getfield 49, 3) := by decide +kernel
theorem d_Jb_copyFrom_93 : decode b_Jb_copyFrom 93 = .ok (.putfield 49, 3) := by decide +kernel
theorem d_Jb_copyFrom_96 : decode b_Jb_copyFrom 96 = .ok (.aload_n 0, 1) := by decide +kernel
theorem d_Jb_copyFrom_97 : decode b_Jb_copyFrom 97 = .ok (.aload_n 1, 1) := by decide +kernel
theorem d_Jb_copyFrom_98 : decode b_Jb_copyFrom 98 = .ok (.getfield 52, 3) := by decide +kernel
theorem d_Jb_copyFrom_101 : decode b_Jb_copyFrom 101 = .ok (.putfield 52, 3) := by decide +kernel
theorem d_Jb_copyFrom_104 : decode b_Jb_copyFrom 104 = .ok (.return_, 1) := by decide +kernel
def fn_Jb_isLive (N : Nat) (o0 : Nat) (σ : gx_M) : Option (Int32 × gx_M) := if 42 ≤ o0 ∧ o0 < 722 then (if (σ o0 10) = ((4 : Int32)) then (some ((0 : Int32), σ)) else (if (σ o0 10) = ((5 : Int32)) then (some ((0 : Int32), σ)) else (if (σ o0 10) = ((7 : Int32)) then (some ((0 : Int32), σ)) else (some ((1 : Int32), σ))))) else none
set_option maxHeartbeats 4000000 in
set_option maxRecDepth 100000 in
theorem ct_Jb_isLive (l : Launch) (D : va_G) (dA : Nat → ClassId) (adr : Nat → Nat) (A : Nat → Prop) (hA : gx_A A adr) (N : Nat) (o0 : Nat) (σ : gx_M) (r : Int32) (σ' : gx_M) (hf : fn_Jb_isLive N o0 σ = some (r, σ')) : Met l y_Jb_isLive w_Jb_isLive rm_Jb_isLive (gx_Pc D dA adr σ [.ref (adr o0)]) (gx_Q D dA adr A (some (.int r)) σ') 0 0 A := by
  refine Met.ofW (cc := b_Jb_isLive) (maxL := 1) (ret := some .boolean) (by decide) rfl ?_
  intro p e s m args below meth c s₁ B hml hv
  obtain ⟨rfl, hP, hK⟩ := hv
  have hx := B.exec
  have hb := B.bytes
  have hr := B.returns
  have hlocks := B.notSynchronized
  have ht : ∀ w ∈ gx_tb, w.before _ s = true := fun w h => atoms_spec (ws := w_Jb_isLive) B.pre w (List.mem_cons_of_mem _ h)
  have hown : s.vm.findClass R_Jb = some m.cls := findClass_of_methodNamed B.named
  have G : gx_G p m c b_Jb_isLive 1 s _ gx_tb R_Jb D dA := ⟨⟨hx, hb, hml, hown, ht⟩, hK⟩
  have hI : gx_I D dA adr A s.heap σ s.heap [] := ⟨hP, va_S.rf⟩
  have hl := lv_entry ([.ref (adr o0)]) (n := 1) (Nat.le_of_ble_eq_true rfl)
  rw [lg_entry_eq]
  generalize (lg_sl ([.ref (adr o0)]) ++ List.replicate (1 - (lg_sl ([.ref (adr o0)])).length) Slot.unset).toArray = ls at hl ⊢
  have hl : lv_has ls 1 [(0, .ref (adr o0))] := hl
  rw [fn_Jb_isLive] at hf
  obtain ⟨ho0, hf⟩ := gx_gd hf
  refine lv_aload_n hx hb d_Jb_isLive_0 rfl (lv_at hl 0 rfl) ?_
  refine gx_getI G hI cl_Jb (gx_ci_j ho0) 10 (by decide) (gx_rf_j ho0 10) fl_Jb_43 d_Jb_isLive_1 ?_
  refine lv_iconst (v := 4) hx hb d_Jb_isLive_4 (by decide) ?_
  refine lv_icmp_eq (tgt := 29) hx hb d_Jb_isLive_5 (by decide) (fun c_1 => ?_) (fun c_1 => ?_)
  · replace hf := (if_pos c_1).symm.trans hf
    refine lv_iconst (v := 0) hx hb d_Jb_isLive_29 (by decide) ?_
    cases hf
    exact W.zret (v := (0 : Int32)) hx hb hr (by decide) (gx_F hI) hI.2.2.2 d_Jb_isLive_30
  · replace hf := (if_neg c_1).symm.trans hf
    refine lv_aload_n hx hb d_Jb_isLive_8 rfl (lv_at hl 0 rfl) ?_
    refine gx_getI G hI cl_Jb (gx_ci_j ho0) 10 (by decide) (gx_rf_j ho0 10) fl_Jb_43 d_Jb_isLive_9 ?_
    refine lv_iconst (v := 5) hx hb d_Jb_isLive_12 (by decide) ?_
    refine lv_icmp_eq (tgt := 29) hx hb d_Jb_isLive_13 (by decide) (fun c_2 => ?_) (fun c_2 => ?_)
    · replace hf := (if_pos c_2).symm.trans hf
      refine lv_iconst (v := 0) hx hb d_Jb_isLive_29 (by decide) ?_
      cases hf
      exact W.zret (v := (0 : Int32)) hx hb hr (by decide) (gx_F hI) hI.2.2.2 d_Jb_isLive_30
    · replace hf := (if_neg c_2).symm.trans hf
      refine lv_aload_n hx hb d_Jb_isLive_16 rfl (lv_at hl 0 rfl) ?_
      refine gx_getI G hI cl_Jb (gx_ci_j ho0) 10 (by decide) (gx_rf_j ho0 10) fl_Jb_43 d_Jb_isLive_17 ?_
      refine lv_bipush (v := 7) hx hb d_Jb_isLive_20 (by decide) ?_
      refine lv_icmp_eq (tgt := 29) hx hb d_Jb_isLive_22 (by decide) (fun c_3 => ?_) (fun c_3 => ?_)
      · replace hf := (if_pos c_3).symm.trans hf
        refine lv_iconst (v := 0) hx hb d_Jb_isLive_29 (by decide) ?_
        cases hf
        exact W.zret (v := (0 : Int32)) hx hb hr (by decide) (gx_F hI) hI.2.2.2 d_Jb_isLive_30
      · replace hf := (if_neg c_3).symm.trans hf
        refine lv_iconst (v := 1) hx hb d_Jb_isLive_25 (by decide) ?_
        refine lv_goto (tgt := 30) hx hb d_Jb_isLive_26 (by decide) ?_
        cases hf
        exact W.zret (v := (1 : Int32)) hx hb hr (by decide) (gx_F hI) hI.2.2.2 d_Jb_isLive_30
def fn_Jb_isTimed (N : Nat) (o0 : Nat) (σ : gx_M) : Option (Int32 × gx_M) := if 42 ≤ o0 ∧ o0 < 722 then (if (σ o0 10) = 0 then (some ((1 : Int32), σ)) else (if (σ o0 10) = ((3 : Int32)) then (some ((1 : Int32), σ)) else (if (σ o0 10) = ((2 : Int32)) then (some ((1 : Int32), σ)) else (some ((0 : Int32), σ))))) else none
set_option maxHeartbeats 4000000 in
set_option maxRecDepth 100000 in
theorem ct_Jb_isTimed (l : Launch) (D : va_G) (dA : Nat → ClassId) (adr : Nat → Nat) (A : Nat → Prop) (hA : gx_A A adr) (N : Nat) (o0 : Nat) (σ : gx_M) (r : Int32) (σ' : gx_M) (hf : fn_Jb_isTimed N o0 σ = some (r, σ')) : Met l y_Jb_isTimed w_Jb_isTimed rm_Jb_isTimed (gx_Pc D dA adr σ [.ref (adr o0)]) (gx_Q D dA adr A (some (.int r)) σ') 0 0 A := by
  refine Met.ofW (cc := b_Jb_isTimed) (maxL := 1) (ret := some .boolean) (by decide) rfl ?_
  intro p e s m args below meth c s₁ B hml hv
  obtain ⟨rfl, hP, hK⟩ := hv
  have hx := B.exec
  have hb := B.bytes
  have hr := B.returns
  have hlocks := B.notSynchronized
  have ht : ∀ w ∈ gx_tb, w.before _ s = true := fun w h => atoms_spec (ws := w_Jb_isTimed) B.pre w (List.mem_cons_of_mem _ h)
  have hown : s.vm.findClass R_Jb = some m.cls := findClass_of_methodNamed B.named
  have G : gx_G p m c b_Jb_isTimed 1 s _ gx_tb R_Jb D dA := ⟨⟨hx, hb, hml, hown, ht⟩, hK⟩
  have hI : gx_I D dA adr A s.heap σ s.heap [] := ⟨hP, va_S.rf⟩
  have hl := lv_entry ([.ref (adr o0)]) (n := 1) (Nat.le_of_ble_eq_true rfl)
  rw [lg_entry_eq]
  generalize (lg_sl ([.ref (adr o0)]) ++ List.replicate (1 - (lg_sl ([.ref (adr o0)])).length) Slot.unset).toArray = ls at hl ⊢
  have hl : lv_has ls 1 [(0, .ref (adr o0))] := hl
  rw [fn_Jb_isTimed] at hf
  obtain ⟨ho0, hf⟩ := gx_gd hf
  refine lv_aload_n hx hb d_Jb_isTimed_0 rfl (lv_at hl 0 rfl) ?_
  refine gx_getI G hI cl_Jb (gx_ci_j ho0) 10 (by decide) (gx_rf_j ho0 10) fl_Jb_43 d_Jb_isTimed_1 ?_
  refine lv_if_eq (tgt := 23) hx hb d_Jb_isTimed_4 (by decide) (fun c_1 => ?_) (fun c_1 => ?_)
  · replace hf := (if_pos c_1).symm.trans hf
    refine lv_iconst (v := 1) hx hb d_Jb_isTimed_23 (by decide) ?_
    refine lv_goto (tgt := 28) hx hb d_Jb_isTimed_24 (by decide) ?_
    cases hf
    exact W.zret (v := (1 : Int32)) hx hb hr (by decide) (gx_F hI) hI.2.2.2 d_Jb_isTimed_28
  · replace hf := (if_neg c_1).symm.trans hf
    refine lv_aload_n hx hb d_Jb_isTimed_7 rfl (lv_at hl 0 rfl) ?_
    refine gx_getI G hI cl_Jb (gx_ci_j ho0) 10 (by decide) (gx_rf_j ho0 10) fl_Jb_43 d_Jb_isTimed_8 ?_
    refine lv_iconst (v := 3) hx hb d_Jb_isTimed_11 (by decide) ?_
    refine lv_icmp_eq (tgt := 23) hx hb d_Jb_isTimed_12 (by decide) (fun c_2 => ?_) (fun c_2 => ?_)
    · replace hf := (if_pos c_2).symm.trans hf
      refine lv_iconst (v := 1) hx hb d_Jb_isTimed_23 (by decide) ?_
      refine lv_goto (tgt := 28) hx hb d_Jb_isTimed_24 (by decide) ?_
      cases hf
      exact W.zret (v := (1 : Int32)) hx hb hr (by decide) (gx_F hI) hI.2.2.2 d_Jb_isTimed_28
    · replace hf := (if_neg c_2).symm.trans hf
      refine lv_aload_n hx hb d_Jb_isTimed_15 rfl (lv_at hl 0 rfl) ?_
      refine gx_getI G hI cl_Jb (gx_ci_j ho0) 10 (by decide) (gx_rf_j ho0 10) fl_Jb_43 d_Jb_isTimed_16 ?_
      refine lv_iconst (v := 2) hx hb d_Jb_isTimed_19 (by decide) ?_
      refine lv_icmp_ne (tgt := 27) hx hb d_Jb_isTimed_20 (by decide) (fun c_3 => ?_) (fun c_3 => ?_)
      · replace hf := (if_neg c_3).symm.trans hf
        refine lv_iconst (v := 0) hx hb d_Jb_isTimed_27 (by decide) ?_
        cases hf
        exact W.zret (v := (0 : Int32)) hx hb hr (by decide) (gx_F hI) hI.2.2.2 d_Jb_isTimed_28
      · replace hf := (if_pos c_3).symm.trans hf
        refine lv_iconst (v := 1) hx hb d_Jb_isTimed_23 (by decide) ?_
        refine lv_goto (tgt := 28) hx hb d_Jb_isTimed_24 (by decide) ?_
        cases hf
        exact W.zret (v := (1 : Int32)) hx hb hr (by decide) (gx_F hI) hI.2.2.2 d_Jb_isTimed_28
def fn_Jb_waitUntil (N : Nat) (o0 : Nat) (p0 : Int32) (p1 : Int32) (σ : gx_M) : Option gx_M := if 42 ≤ o0 ∧ o0 < 722 then (gx_lt (gx_up σ o0 10 p0) (fun σ_1 => gx_lt (gx_up σ_1 o0 11 p1) (fun σ_2 => some σ_2))) else none
set_option maxHeartbeats 4000000 in
set_option maxRecDepth 100000 in
theorem ct_Jb_waitUntil (l : Launch) (D : va_G) (dA : Nat → ClassId) (adr : Nat → Nat) (A : Nat → Prop) (hA : gx_A A adr) (N : Nat) (o0 : Nat) (p0 : Int32) (p1 : Int32) (σ : gx_M) (σ' : gx_M) (hf : fn_Jb_waitUntil N o0 p0 p1 σ = some σ') : Met l y_Jb_waitUntil w_Jb_waitUntil rm_Jb_waitUntil (gx_Pc D dA adr σ [.ref (adr o0), .int p0, .int p1]) (gx_Q D dA adr A none σ') 0 0 A := by
  refine Met.ofW (cc := b_Jb_waitUntil) (maxL := 3) (ret := none) (by decide) rfl ?_
  intro p e s m args below meth c s₁ B hml hv
  obtain ⟨rfl, hP, hK⟩ := hv
  have hx := B.exec
  have hb := B.bytes
  have hr := B.returns
  have hlocks := B.notSynchronized
  have ht : ∀ w ∈ gx_tb, w.before _ s = true := fun w h => atoms_spec (ws := w_Jb_waitUntil) B.pre w (List.mem_cons_of_mem _ h)
  have hown : s.vm.findClass R_Jb = some m.cls := findClass_of_methodNamed B.named
  have G : gx_G p m c b_Jb_waitUntil 3 s _ gx_tb R_Jb D dA := ⟨⟨hx, hb, hml, hown, ht⟩, hK⟩
  have hI : gx_I D dA adr A s.heap σ s.heap [] := ⟨hP, va_S.rf⟩
  have hl := lv_entry ([.ref (adr o0), .int p0, .int p1]) (n := 3) (Nat.le_of_ble_eq_true rfl)
  rw [lg_entry_eq]
  generalize (lg_sl ([.ref (adr o0), .int p0, .int p1]) ++ List.replicate (3 - (lg_sl ([.ref (adr o0), .int p0, .int p1])).length) Slot.unset).toArray = ls at hl ⊢
  have hl : lv_has ls 3 [(0, .ref (adr o0)), (1, .int p0), (2, .int p1)] := hl
  rw [fn_Jb_waitUntil] at hf
  obtain ⟨ho0, hf⟩ := gx_gd hf
  refine lv_aload_n hx hb d_Jb_waitUntil_0 rfl (lv_at hl 0 rfl) ?_
  refine lv_iload_n hx hb d_Jb_waitUntil_1 rfl (lv_at hl 1 rfl) ?_
  obtain ⟨σ_1, eσ_1, hf⟩ := gx_lte hf
  refine gx_put G hI hA cl_Jb (gx_ci_j ho0) 10 (by decide) (gx_rf_j ho0 10) fl_Jb_43 rfl rfl rfl eσ_1 d_Jb_waitUntil_2 (fun H locs hI => ?_)
  refine lv_aload_n hx hb d_Jb_waitUntil_5 rfl (lv_at hl 0 rfl) ?_
  refine lv_iload_n hx hb d_Jb_waitUntil_6 rfl (lv_at hl 2 rfl) ?_
  obtain ⟨σ_2, eσ_2, hf⟩ := gx_lte hf
  refine gx_put G hI hA cl_Jb (gx_ci_j ho0) 11 (by decide) (gx_rf_j ho0 11) fl_Jb_46 rfl rfl rfl eσ_2 d_Jb_waitUntil_7 (fun H locs hI => ?_)
  cases hf
  exact W.vret hx hb hr (gx_F hI) hI.2.2.2 d_Jb_waitUntil_10
def fn_Jb_retryDelay (N : Nat) (o0 : Nat) (σ : gx_M) : Option (Int32 × gx_M) := if 42 ≤ o0 ∧ o0 < 722 then (some (if ((σ o0 4) <<< (((σ o0 6) - ((1 : Int32))) &&& 31)) < ((500 : Int32)) then ((σ o0 4) <<< (((σ o0 6) - ((1 : Int32))) &&& 31)) else ((500 : Int32)), σ)) else none
set_option maxHeartbeats 4000000 in
set_option maxRecDepth 100000 in
theorem ct_Jb_retryDelay (l : Launch) (D : va_G) (dA : Nat → ClassId) (adr : Nat → Nat) (A : Nat → Prop) (hA : gx_A A adr) (N : Nat) (o0 : Nat) (σ : gx_M) (r : Int32) (σ' : gx_M) (hf : fn_Jb_retryDelay N o0 σ = some (r, σ')) : Met l y_Jb_retryDelay w_Jb_retryDelay rm_Jb_retryDelay (gx_Pc D dA adr σ [.ref (adr o0)]) (gx_Q D dA adr A (some (.int r)) σ') 0 0 A := by
  refine Met.ofW (cc := b_Jb_retryDelay) (maxL := 1) (ret := some .int) (by decide) rfl ?_
  intro p e s m args below meth c s₁ B hml hv
  obtain ⟨rfl, hP, hK⟩ := hv
  have hx := B.exec
  have hb := B.bytes
  have hr := B.returns
  have hlocks := B.notSynchronized
  have ht : ∀ w ∈ gx_tb, w.before _ s = true := fun w h => atoms_spec (ws := w_Jb_retryDelay) B.pre w (List.mem_cons_of_mem _ h)
  have hown : s.vm.findClass R_Jb = some m.cls := findClass_of_methodNamed B.named
  have G : gx_G p m c b_Jb_retryDelay 1 s _ gx_tb R_Jb D dA := ⟨⟨hx, hb, hml, hown, ht⟩, hK⟩
  have hI : gx_I D dA adr A s.heap σ s.heap [] := ⟨hP, va_S.rf⟩
  have hl := lv_entry ([.ref (adr o0)]) (n := 1) (Nat.le_of_ble_eq_true rfl)
  rw [lg_entry_eq]
  generalize (lg_sl ([.ref (adr o0)]) ++ List.replicate (1 - (lg_sl ([.ref (adr o0)])).length) Slot.unset).toArray = ls at hl ⊢
  have hl : lv_has ls 1 [(0, .ref (adr o0))] := hl
  rw [fn_Jb_retryDelay] at hf
  obtain ⟨ho0, hf⟩ := gx_gd hf
  refine lv_sipush (v := 500) hx hb d_Jb_retryDelay_0 (by decide) ?_
  refine lv_aload_n hx hb d_Jb_retryDelay_3 rfl (lv_at hl 0 rfl) ?_
  refine gx_getI G hI cl_Jb (gx_ci_j ho0) 4 (by decide) (gx_rf_j ho0 4) fl_Jb_24 d_Jb_retryDelay_4 ?_
  refine lv_aload_n hx hb d_Jb_retryDelay_7 rfl (lv_at hl 0 rfl) ?_
  refine gx_getI G hI cl_Jb (gx_ci_j ho0) 6 (by decide) (gx_rf_j ho0 6) fl_Jb_30 d_Jb_retryDelay_8 ?_
  refine lv_iconst (v := 1) hx hb d_Jb_retryDelay_11 (by decide) ?_
  refine lv_isub hx hb d_Jb_retryDelay_12 ?_
  refine lv_ishl hx hb d_Jb_retryDelay_13 ?_
  refine va_mmin hx hb (hml.trans hl.1.symm) hown (ht _ ml_Jb_55) (ht _ st_Math_min) (ht _ in_Math) (ht _ co_Math_min) (Nat.le_of_ble_eq_true rfl) (Nat.le_of_ble_eq_true rfl) (Nat.zero_le _) (Nat.zero_le _) d_Jb_retryDelay_14 ?_
  cases hf
  exact W.iret hx hb hr (gx_F hI) hI.2.2.2 d_Jb_retryDelay_17
def fn_Jb_standsBefore (N : Nat) (o0 : Nat) (q0 : Nat) (σ : gx_M) : Option (Int32 × gx_M) := if 42 ≤ o0 ∧ o0 < 722 then (if 42 ≤ q0 ∧ q0 < 722 then (if (σ q0 2) < (σ o0 2) then (some ((1 : Int32), σ)) else (if (σ o0 2) = (σ q0 2) then (if (σ q0 13) ≤ (σ o0 13) then (some ((0 : Int32), σ)) else (some ((1 : Int32), σ))) else (some ((0 : Int32), σ)))) else none) else none
set_option maxHeartbeats 4000000 in
set_option maxRecDepth 100000 in
theorem ct_Jb_standsBefore (l : Launch) (D : va_G) (dA : Nat → ClassId) (adr : Nat → Nat) (A : Nat → Prop) (hA : gx_A A adr) (N : Nat) (o0 : Nat) (q0 : Nat) (σ : gx_M) (r : Int32) (σ' : gx_M) (hf : fn_Jb_standsBefore N o0 q0 σ = some (r, σ')) : Met l y_Jb_standsBefore w_Jb_standsBefore rm_Jb_standsBefore (gx_Pc D dA adr σ [.ref (adr o0), .ref (adr q0)]) (gx_Q D dA adr A (some (.int r)) σ') 0 0 A := by
  refine Met.ofW (cc := b_Jb_standsBefore) (maxL := 2) (ret := some .boolean) (by decide) rfl ?_
  intro p e s m args below meth c s₁ B hml hv
  obtain ⟨rfl, hP, hK⟩ := hv
  have hx := B.exec
  have hb := B.bytes
  have hr := B.returns
  have hlocks := B.notSynchronized
  have ht : ∀ w ∈ gx_tb, w.before _ s = true := fun w h => atoms_spec (ws := w_Jb_standsBefore) B.pre w (List.mem_cons_of_mem _ h)
  have hown : s.vm.findClass R_Jb = some m.cls := findClass_of_methodNamed B.named
  have G : gx_G p m c b_Jb_standsBefore 2 s _ gx_tb R_Jb D dA := ⟨⟨hx, hb, hml, hown, ht⟩, hK⟩
  have hI : gx_I D dA adr A s.heap σ s.heap [] := ⟨hP, va_S.rf⟩
  have hl := lv_entry ([.ref (adr o0), .ref (adr q0)]) (n := 2) (Nat.le_of_ble_eq_true rfl)
  rw [lg_entry_eq]
  generalize (lg_sl ([.ref (adr o0), .ref (adr q0)]) ++ List.replicate (2 - (lg_sl ([.ref (adr o0), .ref (adr q0)])).length) Slot.unset).toArray = ls at hl ⊢
  have hl : lv_has ls 2 [(0, .ref (adr o0)), (1, .ref (adr q0))] := hl
  rw [fn_Jb_standsBefore] at hf
  obtain ⟨ho0, hf⟩ := gx_gd hf
  obtain ⟨hq0, hf⟩ := gx_gd hf
  refine lv_aload_n hx hb d_Jb_standsBefore_0 rfl (lv_at hl 0 rfl) ?_
  refine gx_getI G hI cl_Jb (gx_ci_j ho0) 2 (by decide) (gx_rf_j ho0 2) fl_Jb_18 d_Jb_standsBefore_1 ?_
  refine lv_aload_n hx hb d_Jb_standsBefore_4 rfl (lv_at hl 1 rfl) ?_
  refine gx_getI G hI cl_Jb (gx_ci_j hq0) 2 (by decide) (gx_rf_j hq0 2) fl_Jb_18 d_Jb_standsBefore_5 ?_
  refine lv_icmp_gt (tgt := 33) hx hb d_Jb_standsBefore_8 (by decide) (fun c_1 => ?_) (fun c_1 => ?_)
  · replace hf := (if_pos c_1).symm.trans hf
    refine lv_iconst (v := 1) hx hb d_Jb_standsBefore_33 (by decide) ?_
    refine lv_goto (tgt := 38) hx hb d_Jb_standsBefore_34 (by decide) ?_
    cases hf
    exact W.zret (v := (1 : Int32)) hx hb hr (by decide) (gx_F hI) hI.2.2.2 d_Jb_standsBefore_38
  · replace hf := (if_neg c_1).symm.trans hf
    refine lv_aload_n hx hb d_Jb_standsBefore_11 rfl (lv_at hl 0 rfl) ?_
    refine gx_getI G hI cl_Jb (gx_ci_j ho0) 2 (by decide) (gx_rf_j ho0 2) fl_Jb_18 d_Jb_standsBefore_12 ?_
    refine lv_aload_n hx hb d_Jb_standsBefore_15 rfl (lv_at hl 1 rfl) ?_
    refine gx_getI G hI cl_Jb (gx_ci_j hq0) 2 (by decide) (gx_rf_j hq0 2) fl_Jb_18 d_Jb_standsBefore_16 ?_
    refine lv_icmp_ne (tgt := 37) hx hb d_Jb_standsBefore_19 (by decide) (fun c_2 => ?_) (fun c_2 => ?_)
    · replace hf := (if_neg c_2).symm.trans hf
      refine lv_iconst (v := 0) hx hb d_Jb_standsBefore_37 (by decide) ?_
      cases hf
      exact W.zret (v := (0 : Int32)) hx hb hr (by decide) (gx_F hI) hI.2.2.2 d_Jb_standsBefore_38
    · replace hf := (if_pos c_2).symm.trans hf
      refine lv_aload_n hx hb d_Jb_standsBefore_22 rfl (lv_at hl 0 rfl) ?_
      refine gx_getI G hI cl_Jb (gx_ci_j ho0) 13 (by decide) (gx_rf_j ho0 13) fl_Jb_52 d_Jb_standsBefore_23 ?_
      refine lv_aload_n hx hb d_Jb_standsBefore_26 rfl (lv_at hl 1 rfl) ?_
      refine gx_getI G hI cl_Jb (gx_ci_j hq0) 13 (by decide) (gx_rf_j hq0 13) fl_Jb_52 d_Jb_standsBefore_27 ?_
      refine lv_icmp_ge (tgt := 37) hx hb d_Jb_standsBefore_30 (by decide) (fun c_3 => ?_) (fun c_3 => ?_)
      · replace hf := (if_pos c_3).symm.trans hf
        refine lv_iconst (v := 0) hx hb d_Jb_standsBefore_37 (by decide) ?_
        cases hf
        exact W.zret (v := (0 : Int32)) hx hb hr (by decide) (gx_F hI) hI.2.2.2 d_Jb_standsBefore_38
      · replace hf := (if_neg c_3).symm.trans hf
        refine lv_iconst (v := 1) hx hb d_Jb_standsBefore_33 (by decide) ?_
        refine lv_goto (tgt := 38) hx hb d_Jb_standsBefore_34 (by decide) ?_
        cases hf
        exact W.zret (v := (1 : Int32)) hx hb hr (by decide) (gx_F hI) hI.2.2.2 d_Jb_standsBefore_38
def fn_Jb_begin (N : Nat) (o0 : Nat) (p0 : Int32) (p1 : Int32) (σ : gx_M) : Option gx_M := if 42 ≤ o0 ∧ o0 < 722 then (gx_lt (gx_up σ o0 1 p0) (fun σ_1 => gx_lt (gx_up σ_1 o0 2 p1) (fun σ_2 => gx_lt (gx_up σ_2 o0 3 ((0 : Int32))) (fun σ_3 => gx_lt (gx_up σ_3 o0 4 ((1 : Int32))) (fun σ_4 => gx_lt (gx_up σ_4 o0 5 ((-1 : Int32))) (fun σ_5 => gx_lt (gx_up σ_5 o0 6 ((0 : Int32))) (fun σ_6 => gx_lt (gx_up σ_6 o0 7 ((-1 : Int32))) (fun σ_7 => gx_lt (gx_up σ_7 o0 8 ((0 : Int32))) (fun σ_8 => gx_lt (gx_up σ_8 o0 9 ((0 : Int32))) (fun σ_9 => gx_lt (gx_up σ_9 o0 10 ((6 : Int32))) (fun σ_10 => gx_lt (gx_up σ_10 o0 11 ((0 : Int32))) (fun σ_11 => gx_lt (gx_up σ_11 o0 12 ((0 : Int32))) (fun σ_12 => gx_lt (gx_up σ_12 o0 13 ((0 : Int32))) (fun σ_13 => some σ_13)))))))))))))) else none
set_option maxHeartbeats 4000000 in
set_option maxRecDepth 100000 in
theorem ct_Jb_begin (l : Launch) (D : va_G) (dA : Nat → ClassId) (adr : Nat → Nat) (A : Nat → Prop) (hA : gx_A A adr) (N : Nat) (o0 : Nat) (p0 : Int32) (p1 : Int32) (σ : gx_M) (σ' : gx_M) (hf : fn_Jb_begin N o0 p0 p1 σ = some σ') : Met l y_Jb_begin w_Jb_begin rm_Jb_begin (gx_Pc D dA adr σ [.ref (adr o0), .int p0, .int p1]) (gx_Q D dA adr A none σ') 0 0 A := by
  refine Met.ofW (cc := b_Jb_begin) (maxL := 3) (ret := none) (by decide) rfl ?_
  intro p e s m args below meth c s₁ B hml hv
  obtain ⟨rfl, hP, hK⟩ := hv
  have hx := B.exec
  have hb := B.bytes
  have hr := B.returns
  have hlocks := B.notSynchronized
  have ht : ∀ w ∈ gx_tb, w.before _ s = true := fun w h => atoms_spec (ws := w_Jb_begin) B.pre w (List.mem_cons_of_mem _ h)
  have hown : s.vm.findClass R_Jb = some m.cls := findClass_of_methodNamed B.named
  have G : gx_G p m c b_Jb_begin 3 s _ gx_tb R_Jb D dA := ⟨⟨hx, hb, hml, hown, ht⟩, hK⟩
  have hI : gx_I D dA adr A s.heap σ s.heap [] := ⟨hP, va_S.rf⟩
  have hl := lv_entry ([.ref (adr o0), .int p0, .int p1]) (n := 3) (Nat.le_of_ble_eq_true rfl)
  rw [lg_entry_eq]
  generalize (lg_sl ([.ref (adr o0), .int p0, .int p1]) ++ List.replicate (3 - (lg_sl ([.ref (adr o0), .int p0, .int p1])).length) Slot.unset).toArray = ls at hl ⊢
  have hl : lv_has ls 3 [(0, .ref (adr o0)), (1, .int p0), (2, .int p1)] := hl
  rw [fn_Jb_begin] at hf
  obtain ⟨ho0, hf⟩ := gx_gd hf
  refine lv_aload_n hx hb d_Jb_begin_0 rfl (lv_at hl 0 rfl) ?_
  refine lv_iload_n hx hb d_Jb_begin_1 rfl (lv_at hl 1 rfl) ?_
  obtain ⟨σ_1, eσ_1, hf⟩ := gx_lte hf
  refine gx_put G hI hA cl_Jb (gx_ci_j ho0) 1 (by decide) (gx_rf_j ho0 1) fl_Jb_15 rfl rfl rfl eσ_1 d_Jb_begin_2 (fun H locs hI => ?_)
  refine lv_aload_n hx hb d_Jb_begin_5 rfl (lv_at hl 0 rfl) ?_
  refine lv_iload_n hx hb d_Jb_begin_6 rfl (lv_at hl 2 rfl) ?_
  obtain ⟨σ_2, eσ_2, hf⟩ := gx_lte hf
  refine gx_put G hI hA cl_Jb (gx_ci_j ho0) 2 (by decide) (gx_rf_j ho0 2) fl_Jb_18 rfl rfl rfl eσ_2 d_Jb_begin_7 (fun H locs hI => ?_)
  refine lv_aload_n hx hb d_Jb_begin_10 rfl (lv_at hl 0 rfl) ?_
  refine lv_iconst (v := 0) hx hb d_Jb_begin_11 (by decide) ?_
  obtain ⟨σ_3, eσ_3, hf⟩ := gx_lte hf
  refine gx_put G hI hA cl_Jb (gx_ci_j ho0) 3 (by decide) (gx_rf_j ho0 3) fl_Jb_21 rfl rfl rfl eσ_3 d_Jb_begin_12 (fun H locs hI => ?_)
  refine lv_aload_n hx hb d_Jb_begin_15 rfl (lv_at hl 0 rfl) ?_
  refine lv_iconst (v := 1) hx hb d_Jb_begin_16 (by decide) ?_
  obtain ⟨σ_4, eσ_4, hf⟩ := gx_lte hf
  refine gx_put G hI hA cl_Jb (gx_ci_j ho0) 4 (by decide) (gx_rf_j ho0 4) fl_Jb_24 rfl rfl rfl eσ_4 d_Jb_begin_17 (fun H locs hI => ?_)
  refine lv_aload_n hx hb d_Jb_begin_20 rfl (lv_at hl 0 rfl) ?_
  refine lv_iconst (v := (-1)) hx hb d_Jb_begin_21 (by decide) ?_
  obtain ⟨σ_5, eσ_5, hf⟩ := gx_lte hf
  refine gx_put G hI hA cl_Jb (gx_ci_j ho0) 5 (by decide) (gx_rf_j ho0 5) fl_Jb_27 rfl rfl rfl eσ_5 d_Jb_begin_22 (fun H locs hI => ?_)
  refine lv_aload_n hx hb d_Jb_begin_25 rfl (lv_at hl 0 rfl) ?_
  refine lv_iconst (v := 0) hx hb d_Jb_begin_26 (by decide) ?_
  obtain ⟨σ_6, eσ_6, hf⟩ := gx_lte hf
  refine gx_put G hI hA cl_Jb (gx_ci_j ho0) 6 (by decide) (gx_rf_j ho0 6) fl_Jb_30 rfl rfl rfl eσ_6 d_Jb_begin_27 (fun H locs hI => ?_)
  refine lv_aload_n hx hb d_Jb_begin_30 rfl (lv_at hl 0 rfl) ?_
  refine lv_iconst (v := (-1)) hx hb d_Jb_begin_31 (by decide) ?_
  obtain ⟨σ_7, eσ_7, hf⟩ := gx_lte hf
  refine gx_put G hI hA cl_Jb (gx_ci_j ho0) 7 (by decide) (gx_rf_j ho0 7) fl_Jb_33 rfl rfl rfl eσ_7 d_Jb_begin_32 (fun H locs hI => ?_)
  refine lv_aload_n hx hb d_Jb_begin_35 rfl (lv_at hl 0 rfl) ?_
  refine lv_iconst (v := 0) hx hb d_Jb_begin_36 (by decide) ?_
  obtain ⟨σ_8, eσ_8, hf⟩ := gx_lte hf
  refine gx_put G hI hA cl_Jb (gx_ci_j ho0) 8 (by decide) (gx_rf_j ho0 8) fl_Jb_36 rfl rfl rfl eσ_8 d_Jb_begin_37 (fun H locs hI => ?_)
  refine lv_aload_n hx hb d_Jb_begin_40 rfl (lv_at hl 0 rfl) ?_
  refine lv_iconst (v := 0) hx hb d_Jb_begin_41 (by decide) ?_
  obtain ⟨σ_9, eσ_9, hf⟩ := gx_lte hf
  refine gx_put G hI hA cl_Jb (gx_ci_j ho0) 9 (by decide) (gx_rf_j ho0 9) fl_Jb_39 rfl (by decide) (by decide) eσ_9 d_Jb_begin_42 (fun H locs hI => ?_)
  refine lv_aload_n hx hb d_Jb_begin_45 rfl (lv_at hl 0 rfl) ?_
  refine lv_bipush (v := 6) hx hb d_Jb_begin_46 (by decide) ?_
  obtain ⟨σ_10, eσ_10, hf⟩ := gx_lte hf
  refine gx_put G hI hA cl_Jb (gx_ci_j ho0) 10 (by decide) (gx_rf_j ho0 10) fl_Jb_43 rfl rfl rfl eσ_10 d_Jb_begin_48 (fun H locs hI => ?_)
  refine lv_aload_n hx hb d_Jb_begin_51 rfl (lv_at hl 0 rfl) ?_
  refine lv_iconst (v := 0) hx hb d_Jb_begin_52 (by decide) ?_
  obtain ⟨σ_11, eσ_11, hf⟩ := gx_lte hf
  refine gx_put G hI hA cl_Jb (gx_ci_j ho0) 11 (by decide) (gx_rf_j ho0 11) fl_Jb_46 rfl rfl rfl eσ_11 d_Jb_begin_53 (fun H locs hI => ?_)
  refine lv_aload_n hx hb d_Jb_begin_56 rfl (lv_at hl 0 rfl) ?_
  refine lv_iconst (v := 0) hx hb d_Jb_begin_57 (by decide) ?_
  obtain ⟨σ_12, eσ_12, hf⟩ := gx_lte hf
  refine gx_put G hI hA cl_Jb (gx_ci_j ho0) 12 (by decide) (gx_rf_j ho0 12) fl_Jb_49 rfl rfl rfl eσ_12 d_Jb_begin_58 (fun H locs hI => ?_)
  refine lv_aload_n hx hb d_Jb_begin_61 rfl (lv_at hl 0 rfl) ?_
  refine lv_iconst (v := 0) hx hb d_Jb_begin_62 (by decide) ?_
  obtain ⟨σ_13, eσ_13, hf⟩ := gx_lte hf
  refine gx_put G hI hA cl_Jb (gx_ci_j ho0) 13 (by decide) (gx_rf_j ho0 13) fl_Jb_52 rfl rfl rfl eσ_13 d_Jb_begin_63 (fun H locs hI => ?_)
  cases hf
  exact W.vret hx hb hr (gx_F hI) hI.2.2.2 d_Jb_begin_66
def fn_Jb_copyFrom (N : Nat) (o0 : Nat) (q0 : Nat) (σ : gx_M) : Option gx_M := if 42 ≤ o0 ∧ o0 < 722 then (if 42 ≤ q0 ∧ q0 < 722 then (gx_lt (gx_up σ o0 1 (σ q0 1)) (fun σ_1 => gx_lt (gx_up σ_1 o0 2 (σ_1 q0 2)) (fun σ_2 => gx_lt (gx_up σ_2 o0 3 (σ_2 q0 3)) (fun σ_3 => gx_lt (gx_up σ_3 o0 4 (σ_3 q0 4)) (fun σ_4 => gx_lt (gx_up σ_4 o0 5 (σ_4 q0 5)) (fun σ_5 => gx_lt (gx_up σ_5 o0 6 (σ_5 q0 6)) (fun σ_6 => gx_lt (gx_up σ_6 o0 7 (σ_6 q0 7)) (fun σ_7 => gx_lt (gx_up σ_7 o0 8 (σ_7 q0 8)) (fun σ_8 => if (σ_8 q0 9) = 0 ∨ (σ_8 q0 9) = 1 then (gx_lt (gx_up σ_8 o0 9 (σ_8 q0 9)) (fun σ_9 => gx_lt (gx_up σ_9 o0 10 (σ_9 q0 10)) (fun σ_11 => gx_lt (gx_up σ_11 o0 11 (σ_11 q0 11)) (fun σ_12 => gx_lt (gx_up σ_12 o0 12 (σ_12 q0 12)) (fun σ_13 => gx_lt (gx_up σ_13 o0 13 (σ_13 q0 13)) (fun σ_14 => some σ_14)))))) else none))))))))) else none) else none
set_option maxHeartbeats 4000000 in
set_option maxRecDepth 100000 in
theorem ct_Jb_copyFrom (l : Launch) (D : va_G) (dA : Nat → ClassId) (adr : Nat → Nat) (A : Nat → Prop) (hA : gx_A A adr) (N : Nat) (o0 : Nat) (q0 : Nat) (σ : gx_M) (σ' : gx_M) (hf : fn_Jb_copyFrom N o0 q0 σ = some σ') : Met l y_Jb_copyFrom w_Jb_copyFrom rm_Jb_copyFrom (gx_Pc D dA adr σ [.ref (adr o0), .ref (adr q0)]) (gx_Q D dA adr A none σ') 0 0 A := by
  refine Met.ofW (cc := b_Jb_copyFrom) (maxL := 2) (ret := none) (by decide) rfl ?_
  intro p e s m args below meth c s₁ B hml hv
  obtain ⟨rfl, hP, hK⟩ := hv
  have hx := B.exec
  have hb := B.bytes
  have hr := B.returns
  have hlocks := B.notSynchronized
  have ht : ∀ w ∈ gx_tb, w.before _ s = true := fun w h => atoms_spec (ws := w_Jb_copyFrom) B.pre w (List.mem_cons_of_mem _ h)
  have hown : s.vm.findClass R_Jb = some m.cls := findClass_of_methodNamed B.named
  have G : gx_G p m c b_Jb_copyFrom 2 s _ gx_tb R_Jb D dA := ⟨⟨hx, hb, hml, hown, ht⟩, hK⟩
  have hI : gx_I D dA adr A s.heap σ s.heap [] := ⟨hP, va_S.rf⟩
  have hl := lv_entry ([.ref (adr o0), .ref (adr q0)]) (n := 2) (Nat.le_of_ble_eq_true rfl)
  rw [lg_entry_eq]
  generalize (lg_sl ([.ref (adr o0), .ref (adr q0)]) ++ List.replicate (2 - (lg_sl ([.ref (adr o0), .ref (adr q0)])).length) Slot.unset).toArray = ls at hl ⊢
  have hl : lv_has ls 2 [(0, .ref (adr o0)), (1, .ref (adr q0))] := hl
  rw [fn_Jb_copyFrom] at hf
  obtain ⟨ho0, hf⟩ := gx_gd hf
  obtain ⟨hq0, hf⟩ := gx_gd hf
  refine lv_aload_n hx hb d_Jb_copyFrom_0 rfl (lv_at hl 0 rfl) ?_
  refine lv_aload_n hx hb d_Jb_copyFrom_1 rfl (lv_at hl 1 rfl) ?_
  refine gx_getI G hI cl_Jb (gx_ci_j hq0) 1 (by decide) (gx_rf_j hq0 1) fl_Jb_15 d_Jb_copyFrom_2 ?_
  obtain ⟨σ_1, eσ_1, hf⟩ := gx_lte hf
  refine gx_put G hI hA cl_Jb (gx_ci_j ho0) 1 (by decide) (gx_rf_j ho0 1) fl_Jb_15 rfl rfl rfl eσ_1 d_Jb_copyFrom_5 (fun H locs hI => ?_)
  refine lv_aload_n hx hb d_Jb_copyFrom_8 rfl (lv_at hl 0 rfl) ?_
  refine lv_aload_n hx hb d_Jb_copyFrom_9 rfl (lv_at hl 1 rfl) ?_
  refine gx_getI G hI cl_Jb (gx_ci_j hq0) 2 (by decide) (gx_rf_j hq0 2) fl_Jb_18 d_Jb_copyFrom_10 ?_
  obtain ⟨σ_2, eσ_2, hf⟩ := gx_lte hf
  refine gx_put G hI hA cl_Jb (gx_ci_j ho0) 2 (by decide) (gx_rf_j ho0 2) fl_Jb_18 rfl rfl rfl eσ_2 d_Jb_copyFrom_13 (fun H locs hI => ?_)
  refine lv_aload_n hx hb d_Jb_copyFrom_16 rfl (lv_at hl 0 rfl) ?_
  refine lv_aload_n hx hb d_Jb_copyFrom_17 rfl (lv_at hl 1 rfl) ?_
  refine gx_getI G hI cl_Jb (gx_ci_j hq0) 3 (by decide) (gx_rf_j hq0 3) fl_Jb_21 d_Jb_copyFrom_18 ?_
  obtain ⟨σ_3, eσ_3, hf⟩ := gx_lte hf
  refine gx_put G hI hA cl_Jb (gx_ci_j ho0) 3 (by decide) (gx_rf_j ho0 3) fl_Jb_21 rfl rfl rfl eσ_3 d_Jb_copyFrom_21 (fun H locs hI => ?_)
  refine lv_aload_n hx hb d_Jb_copyFrom_24 rfl (lv_at hl 0 rfl) ?_
  refine lv_aload_n hx hb d_Jb_copyFrom_25 rfl (lv_at hl 1 rfl) ?_
  refine gx_getI G hI cl_Jb (gx_ci_j hq0) 4 (by decide) (gx_rf_j hq0 4) fl_Jb_24 d_Jb_copyFrom_26 ?_
  obtain ⟨σ_4, eσ_4, hf⟩ := gx_lte hf
  refine gx_put G hI hA cl_Jb (gx_ci_j ho0) 4 (by decide) (gx_rf_j ho0 4) fl_Jb_24 rfl rfl rfl eσ_4 d_Jb_copyFrom_29 (fun H locs hI => ?_)
  refine lv_aload_n hx hb d_Jb_copyFrom_32 rfl (lv_at hl 0 rfl) ?_
  refine lv_aload_n hx hb d_Jb_copyFrom_33 rfl (lv_at hl 1 rfl) ?_
  refine gx_getI G hI cl_Jb (gx_ci_j hq0) 5 (by decide) (gx_rf_j hq0 5) fl_Jb_27 d_Jb_copyFrom_34 ?_
  obtain ⟨σ_5, eσ_5, hf⟩ := gx_lte hf
  refine gx_put G hI hA cl_Jb (gx_ci_j ho0) 5 (by decide) (gx_rf_j ho0 5) fl_Jb_27 rfl rfl rfl eσ_5 d_Jb_copyFrom_37 (fun H locs hI => ?_)
  refine lv_aload_n hx hb d_Jb_copyFrom_40 rfl (lv_at hl 0 rfl) ?_
  refine lv_aload_n hx hb d_Jb_copyFrom_41 rfl (lv_at hl 1 rfl) ?_
  refine gx_getI G hI cl_Jb (gx_ci_j hq0) 6 (by decide) (gx_rf_j hq0 6) fl_Jb_30 d_Jb_copyFrom_42 ?_
  obtain ⟨σ_6, eσ_6, hf⟩ := gx_lte hf
  refine gx_put G hI hA cl_Jb (gx_ci_j ho0) 6 (by decide) (gx_rf_j ho0 6) fl_Jb_30 rfl rfl rfl eσ_6 d_Jb_copyFrom_45 (fun H locs hI => ?_)
  refine lv_aload_n hx hb d_Jb_copyFrom_48 rfl (lv_at hl 0 rfl) ?_
  refine lv_aload_n hx hb d_Jb_copyFrom_49 rfl (lv_at hl 1 rfl) ?_
  refine gx_getI G hI cl_Jb (gx_ci_j hq0) 7 (by decide) (gx_rf_j hq0 7) fl_Jb_33 d_Jb_copyFrom_50 ?_
  obtain ⟨σ_7, eσ_7, hf⟩ := gx_lte hf
  refine gx_put G hI hA cl_Jb (gx_ci_j ho0) 7 (by decide) (gx_rf_j ho0 7) fl_Jb_33 rfl rfl rfl eσ_7 d_Jb_copyFrom_53 (fun H locs hI => ?_)
  refine lv_aload_n hx hb d_Jb_copyFrom_56 rfl (lv_at hl 0 rfl) ?_
  refine lv_aload_n hx hb d_Jb_copyFrom_57 rfl (lv_at hl 1 rfl) ?_
  refine gx_getI G hI cl_Jb (gx_ci_j hq0) 8 (by decide) (gx_rf_j hq0 8) fl_Jb_36 d_Jb_copyFrom_58 ?_
  obtain ⟨σ_8, eσ_8, hf⟩ := gx_lte hf
  refine gx_put G hI hA cl_Jb (gx_ci_j ho0) 8 (by decide) (gx_rf_j ho0 8) fl_Jb_36 rfl rfl rfl eσ_8 d_Jb_copyFrom_61 (fun H locs hI => ?_)
  refine lv_aload_n hx hb d_Jb_copyFrom_64 rfl (lv_at hl 0 rfl) ?_
  refine lv_aload_n hx hb d_Jb_copyFrom_65 rfl (lv_at hl 1 rfl) ?_
  refine gx_getI G hI cl_Jb (gx_ci_j hq0) 9 (by decide) (gx_rf_j hq0 9) fl_Jb_39 d_Jb_copyFrom_66 ?_
  obtain ⟨hb_10, hf⟩ := gx_gd hf
  obtain ⟨σ_9, eσ_9, hf⟩ := gx_lte hf
  refine gx_put G hI hA cl_Jb (gx_ci_j ho0) 9 (by decide) (gx_rf_j ho0 9) fl_Jb_39 rfl (gx_nb hb_10) (gx_fb hb_10) eσ_9 d_Jb_copyFrom_69 (fun H locs hI => ?_)
  refine lv_aload_n hx hb d_Jb_copyFrom_72 rfl (lv_at hl 0 rfl) ?_
  refine lv_aload_n hx hb d_Jb_copyFrom_73 rfl (lv_at hl 1 rfl) ?_
  refine gx_getI G hI cl_Jb (gx_ci_j hq0) 10 (by decide) (gx_rf_j hq0 10) fl_Jb_43 d_Jb_copyFrom_74 ?_
  obtain ⟨σ_11, eσ_11, hf⟩ := gx_lte hf
  refine gx_put G hI hA cl_Jb (gx_ci_j ho0) 10 (by decide) (gx_rf_j ho0 10) fl_Jb_43 rfl rfl rfl eσ_11 d_Jb_copyFrom_77 (fun H locs hI => ?_)
  refine lv_aload_n hx hb d_Jb_copyFrom_80 rfl (lv_at hl 0 rfl) ?_
  refine lv_aload_n hx hb d_Jb_copyFrom_81 rfl (lv_at hl 1 rfl) ?_
  refine gx_getI G hI cl_Jb (gx_ci_j hq0) 11 (by decide) (gx_rf_j hq0 11) fl_Jb_46 d_Jb_copyFrom_82 ?_
  obtain ⟨σ_12, eσ_12, hf⟩ := gx_lte hf
  refine gx_put G hI hA cl_Jb (gx_ci_j ho0) 11 (by decide) (gx_rf_j ho0 11) fl_Jb_46 rfl rfl rfl eσ_12 d_Jb_copyFrom_85 (fun H locs hI => ?_)
  refine lv_aload_n hx hb d_Jb_copyFrom_88 rfl (lv_at hl 0 rfl) ?_
  refine lv_aload_n hx hb d_Jb_copyFrom_89 rfl (lv_at hl 1 rfl) ?_
  refine gx_getI G hI cl_Jb (gx_ci_j hq0) 12 (by decide) (gx_rf_j hq0 12) fl_Jb_49 d_Jb_copyFrom_90 ?_
  obtain ⟨σ_13, eσ_13, hf⟩ := gx_lte hf
  refine gx_put G hI hA cl_Jb (gx_ci_j ho0) 12 (by decide) (gx_rf_j ho0 12) fl_Jb_49 rfl rfl rfl eσ_13 d_Jb_copyFrom_93 (fun H locs hI => ?_)
  refine lv_aload_n hx hb d_Jb_copyFrom_96 rfl (lv_at hl 0 rfl) ?_
  refine lv_aload_n hx hb d_Jb_copyFrom_97 rfl (lv_at hl 1 rfl) ?_
  refine gx_getI G hI cl_Jb (gx_ci_j hq0) 13 (by decide) (gx_rf_j hq0 13) fl_Jb_52 d_Jb_copyFrom_98 ?_
  obtain ⟨σ_14, eσ_14, hf⟩ := gx_lte hf
  refine gx_put G hI hA cl_Jb (gx_ci_j ho0) 13 (by decide) (gx_rf_j ho0 13) fl_Jb_52 rfl rfl rfl eσ_14 d_Jb_copyFrom_101 (fun H locs hI => ?_)
  cases hf
  exact W.vret hx hb hr (gx_F hI) hI.2.2.2 d_Jb_copyFrom_104
end
section
theorem d_Qu_restart_0 : decode b_Qu_restart 0 = .ok (.aload_n 0, 1) := by decide +kernel
theorem d_Qu_restart_1 : decode b_Qu_restart 1 = .ok (.iconst 0, 1) := by decide +kernel
theorem d_Qu_restart_2 : decode b_Qu_restart 2 = .ok (.putfield 25, 3) := by decide +kernel
theorem d_Qu_restart_5 : decode b_Qu_restart 5 = .ok (.aload_n 0, 1) := by decide +kernel
theorem d_Qu_restart_6 : decode b_Qu_restart 6 = .ok (.aload_n 0, 1) := by decide +kernel
theorem d_Qu_restart_7 : decode b_Qu_restart 7 = .ok (.getfield 16, 3) := by decide +kernel
theorem d_Qu_restart_10 : decode b_Qu_restart 10 = .ok (.putfield 28, 3) := by decide +kernel
theorem d_Qu_restart_13 : decode b_Qu_restart 13 = .ok (.return_, 1) := by decide +kernel
theorem d_Qu_set_0 : decode b_Qu_set 0 = .ok (.aload_n 0, 1) := by decide +kernel
theorem d_Qu_set_1 : decode b_Qu_set 1 = .ok (.iload_n 1, 1) := by decide +kernel
theorem d_Qu_set_2 : decode b_Qu_set 2 = .ok (.putfield 7, 3) := by decide +kernel
theorem d_Qu_set_5 : decode b_Qu_set 5 = .ok (.aload_n 0, 1) := by decide +kernel
theorem d_Qu_set_6 : decode b_Qu_set 6 = .ok (.iload_n 2, 1) := by decide +kernel
theorem d_Qu_set_7 : decode b_Qu_set 7 = .ok (.putfield 16, 3) := by decide +kernel
theorem d_Qu_set_10 : decode b_Qu_set 10 = .ok (.aload_n 0, 1) := by decide +kernel
theorem d_Qu_set_11 : decode b_Qu_set 11 = .ok (.iload_n 3, 1) := by decide +kernel
theorem d_Qu_set_12 : decode b_Qu_set 12 = .ok (.putfield 13, 3) := by decide +kernel
theorem d_Qu_set_15 : decode b_Qu_set 15 = .ok (.aload_n 0, 1) := by decide +kernel
theorem d_Qu_set_16 : decode b_Qu_set 16 = .ok (.iload 4, 2) := by decide +kernel
theorem d_Qu_set_18 : decode b_Qu_set 18 = .ok (.putfield 19, 3) := by decide +kernel
theorem d_Qu_set_21 : decode b_Qu_set 21 = .ok (.aload_n 0, 1) := by decide +kernel
theorem d_Qu_set_22 : decode b_Qu_set 22 = .ok (.invokevirtual 22, 3) := by decide +kernel
theorem d_Qu_set_25 : decode b_Qu_set 25 = .ok (.return_, 1) := by decide +kernel
theorem d_Qu_canGive_0 : decode b_Qu_canGive 0 = .ok (.aload_n 0, 1) := by decide +kernel
theorem d_Qu_canGive_1 : decode b_Qu_canGive 1 = .ok (.getfield 7, 3) := by decide +kernel
theorem d_Qu_canGive_4 : decode b_Qu_canGive 4 = .ok (.ifCond .eq 21, 3) := by decide +kernel
theorem d_Qu_canGive_7 : decode b_Qu_canGive 7 = .ok (.aload_n 0, 1) := by decide +kernel
theorem d_Qu_canGive_8 : decode b_Qu_canGive 8 = .ok (.getfield 16, 3) := by decide +kernel
theorem d_Qu_canGive_11 : decode b_Qu_canGive 11 = .ok (.ifCond .eq 10, 3) := by decide +kernel
theorem d_Qu_canGive_14 : decode b_Qu_canGive 14 = .ok (.aload_n 0, 1) := by decide +kernel
theorem d_Qu_canGive_15 : decode b_Qu_canGive 15 = .ok (.getfield 28, 3) := by decide +kernel
theorem d_Qu_canGive_18 : decode b_Qu_canGive 18 = .ok (.ifCond .le 7, 3) := by decide +kernel
theorem d_Qu_canGive_21 : decode b_Qu_canGive 21 = .ok (.iconst 1, 1) := by decide +kernel
theorem d_Qu_canGive_22 : decode b_Qu_canGive 22 = .ok (.goto 4, 3) := by decide +kernel
theorem d_Qu_canGive_25 : decode b_Qu_canGive 25 = .ok (.iconst 0, 1) := by decide +kernel
theorem d_Qu_canGive_26 : decode b_Qu_canGive 26 = .ok (.ireturn, 1) := by decide +kernel
theorem d_Qu_spendToken_0 : decode b_Qu_spendToken 0 = .ok (.aload_n 0, 1) := by decide +kernel
theorem d_Qu_spendToken_1 : decode b_Qu_spendToken 1 = .ok (.getfield 16, 3) := by decide +kernel
theorem d_Qu_spendToken_4 : decode b_Qu_spendToken 4 = .ok (.ifCond .le 13, 3) := by decide +kernel
theorem d_Qu_spendToken_7 : decode b_Qu_spendToken 7 = .ok (.aload_n 0, 1) := by decide +kernel
theorem d_Qu_spendToken_8 : decode b_Qu_spendToken 8 = .ok (.dup, 1) := by decide +kernel
theorem d_Qu_spendToken_9 : decode b_Qu_spendToken 9 = .ok (.getfield 28, 3) := by decide +kernel
theorem d_Qu_spendToken_12 : decode b_Qu_spendToken 12 = .ok (.iconst 1, 1) := by decide +kernel
theorem d_Qu_spendToken_13 : decode b_Qu_spendToken 13 = .ok (.isub, 1) := by decide +kernel
theorem d_Qu_spendToken_14 : decode b_Qu_spendToken 14 = .ok (.putfield 28, 3) := by decide +kernel
theorem d_Qu_spendToken_17 : decode b_Qu_spendToken 17 = .ok (.return_, 1) := by decide +kernel
theorem d_Qu_refillBetween_0 : decode b_Qu_refillBetween 0 = .ok (.iload_n 2, 1) := by decide +kernel
theorem d_Qu_refillBetween_1 : decode b_Qu_refillBetween 1 = .ok (.aload_n 0, 1) := by decide +kernel
theorem d_Qu_refillBetween_2 : decode b_Qu_refillBetween 2 = .ok (.getfield 19, 3) := by decide +kernel
theorem d_Qu_refillBetween_5 : decode b_Qu_refillBetween 5 = .ok (.isub, 1) := by decide +kernel
theorem d_Qu_refillBetween_6 : decode b_Qu_refillBetween 6 = .ok (.aload_n 0, 1) := by decide +kernel
theorem d_Qu_refillBetween_7 : decode b_Qu_refillBetween 7 = .ok (.getfield 13, 3) := by decide +kernel
theorem d_Qu_refillBetween_10 : decode b_Qu_refillBetween 10 = .ok (.idiv, 1) := by decide +kernel
theorem d_Qu_refillBetween_11 : decode b_Qu_refillBetween 11 = .ok (.iload_n 1, 1) := by decide +kernel
theorem d_Qu_refillBetween_12 : decode b_Qu_refillBetween 12 = .ok (.aload_n 0, 1) := by decide +kernel
theorem d_Qu_refillBetween_13 : decode b_Qu_refillBetween 13 = .ok (.getfield 19, 3) := by decide +kernel
theorem d_Qu_refillBetween_16 : decode b_Qu_refillBetween 16 = .ok (.isub, 1) := by decide +kernel
theorem d_Qu_refillBetween_17 : decode b_Qu_refillBetween 17 = .ok (.aload_n 0, 1) := by decide +kernel
theorem d_Qu_refillBetween_18 : decode b_Qu_refillBetween 18 = .ok (.getfield 13, 3) := by decide +kernel
theorem d_Qu_refillBetween_21 : decode b_Qu_refillBetween 21 = .ok (.idiv, 1) := by decide +kernel
theorem d_Qu_refillBetween_22 : decode b_Qu_refillBetween 22 = .ok (.isub, 1) := by decide +kernel
theorem d_Qu_refillBetween_23 : decode b_Qu_refillBetween 23 = .ok (.istore_n 3, 1) := by decide +kernel
theorem d_Qu_refillBetween_24 : decode b_Qu_refillBetween 24 = .ok (.aload_n 0, 1) := by decide +kernel
theorem d_Qu_refillBetween_25 : decode b_Qu_refillBetween 25 = .ok (.aload_n 0, 1) := by decide +kernel
theorem d_Qu_refillBetween_26 : decode b_Qu_refillBetween 26 = .ok (.getfield 16, 3) := by decide +kernel
theorem d_Qu_refillBetween_29 : decode b_Qu_refillBetween 29 = .ok (.aload_n 0, 1) := by decide +kernel
theorem d_Qu_refillBetween_30 : decode b_Qu_refillBetween 30 = .ok (.getfield 28, 3) := by decide +kernel
theorem d_Qu_refillBetween_33 : decode b_Qu_refillBetween 33 = .ok (.iload_n 3, 1) := by decide +kernel
theorem d_Qu_refillBetween_34 : decode b_Qu_refillBetween 34 = .ok (.iadd, 1) := by decide +kernel
theorem d_Qu_refillBetween_35 : decode b_Qu_refillBetween 35 = .ok (.invokestatic 31, 3) := by decide +kernel
theorem d_Qu_refillBetween_38 : decode b_Qu_refillBetween 38 = .ok (.putfield 28, 3) := by decide +kernel
theorem d_Qu_refillBetween_41 : decode b_Qu_refillBetween 41 = .ok (.return_, 1) := by decide +kernel
def fn_Qu_restart (N : Nat) (o0 : Nat) (σ : gx_M) : Option gx_M := if 2 ≤ o0 ∧ o0 < 6 then (gx_lt (gx_up σ o0 1 ((0 : Int32))) (fun σ_1 => gx_lt (gx_up σ_1 o0 3 (σ_1 o0 2)) (fun σ_2 => some σ_2))) else none
set_option maxHeartbeats 4000000 in
set_option maxRecDepth 100000 in
theorem ct_Qu_restart (l : Launch) (D : va_G) (dA : Nat → ClassId) (adr : Nat → Nat) (A : Nat → Prop) (hA : gx_A A adr) (N : Nat) (o0 : Nat) (σ : gx_M) (σ' : gx_M) (hf : fn_Qu_restart N o0 σ = some σ') : Met l y_Qu_restart w_Qu_restart rm_Qu_restart (gx_Pc D dA adr σ [.ref (adr o0)]) (gx_Q D dA adr A none σ') 0 0 A := by
  refine Met.ofW (cc := b_Qu_restart) (maxL := 1) (ret := none) (by decide) rfl ?_
  intro p e s m args below meth c s₁ B hml hv
  obtain ⟨rfl, hP, hK⟩ := hv
  have hx := B.exec
  have hb := B.bytes
  have hr := B.returns
  have hlocks := B.notSynchronized
  have ht : ∀ w ∈ gx_tb, w.before _ s = true := fun w h => atoms_spec (ws := w_Qu_restart) B.pre w (List.mem_cons_of_mem _ h)
  have hown : s.vm.findClass R_Qu = some m.cls := findClass_of_methodNamed B.named
  have G : gx_G p m c b_Qu_restart 1 s _ gx_tb R_Qu D dA := ⟨⟨hx, hb, hml, hown, ht⟩, hK⟩
  have hI : gx_I D dA adr A s.heap σ s.heap [] := ⟨hP, va_S.rf⟩
  have hl := lv_entry ([.ref (adr o0)]) (n := 1) (Nat.le_of_ble_eq_true rfl)
  rw [lg_entry_eq]
  generalize (lg_sl ([.ref (adr o0)]) ++ List.replicate (1 - (lg_sl ([.ref (adr o0)])).length) Slot.unset).toArray = ls at hl ⊢
  have hl : lv_has ls 1 [(0, .ref (adr o0))] := hl
  rw [fn_Qu_restart] at hf
  obtain ⟨ho0, hf⟩ := gx_gd hf
  refine lv_aload_n hx hb d_Qu_restart_0 rfl (lv_at hl 0 rfl) ?_
  refine lv_iconst (v := 0) hx hb d_Qu_restart_1 (by decide) ?_
  obtain ⟨σ_1, eσ_1, hf⟩ := gx_lte hf
  refine gx_put G hI hA cl_Qu (gx_ci_q ho0) 1 (by decide) (gx_rf_q ho0 1) fl_Qu_25 rfl rfl rfl eσ_1 d_Qu_restart_2 (fun H locs hI => ?_)
  refine lv_aload_n hx hb d_Qu_restart_5 rfl (lv_at hl 0 rfl) ?_
  refine lv_aload_n hx hb d_Qu_restart_6 rfl (lv_at hl 0 rfl) ?_
  refine gx_getI G hI cl_Qu (gx_ci_q ho0) 2 (by decide) (gx_rf_q ho0 2) fl_Qu_16 d_Qu_restart_7 ?_
  obtain ⟨σ_2, eσ_2, hf⟩ := gx_lte hf
  refine gx_put G hI hA cl_Qu (gx_ci_q ho0) 3 (by decide) (gx_rf_q ho0 3) fl_Qu_28 rfl rfl rfl eσ_2 d_Qu_restart_10 (fun H locs hI => ?_)
  cases hf
  exact W.vret hx hb hr (gx_F hI) hI.2.2.2 d_Qu_restart_13
def fn_Qu_set (N : Nat) (o0 : Nat) (p0 : Int32) (p1 : Int32) (p2 : Int32) (p3 : Int32) (σ : gx_M) : Option gx_M := if 2 ≤ o0 ∧ o0 < 6 then (gx_lt (gx_up σ o0 0 p0) (fun σ_1 => gx_lt (gx_up σ_1 o0 2 p1) (fun σ_2 => gx_lt (gx_up σ_2 o0 4 p2) (fun σ_3 => gx_lt (gx_up σ_3 o0 5 p3) (fun σ_4 => gx_bv (fn_Qu_restart N o0 σ_4) (fun σ_5 => some σ_5)))))) else none
set_option maxHeartbeats 4000000 in
set_option maxRecDepth 100000 in
theorem ct_Qu_set (l : Launch) (D : va_G) (dA : Nat → ClassId) (adr : Nat → Nat) (A : Nat → Prop) (hA : gx_A A adr) (N : Nat) (o0 : Nat) (p0 : Int32) (p1 : Int32) (p2 : Int32) (p3 : Int32) (σ : gx_M) (σ' : gx_M) (hf : fn_Qu_set N o0 p0 p1 p2 p3 σ = some σ') : Met l y_Qu_set w_Qu_set rm_Qu_set (gx_Pc D dA adr σ [.ref (adr o0), .int p0, .int p1, .int p2, .int p3]) (gx_Q D dA adr A none σ') 0 0 A := by
  refine Met.ofW (cc := b_Qu_set) (maxL := 5) (ret := none) (by decide) rfl ?_
  intro p e s m args below meth c s₁ B hml hv
  obtain ⟨rfl, hP, hK⟩ := hv
  have hx := B.exec
  have hb := B.bytes
  have hr := B.returns
  have hlocks := B.notSynchronized
  have ht : ∀ w ∈ gx_tb, w.before _ s = true := fun w h => atoms_spec (ws := w_Qu_set) B.pre w (List.mem_cons_of_mem _ h)
  have hown : s.vm.findClass R_Qu = some m.cls := findClass_of_methodNamed B.named
  have G : gx_G p m c b_Qu_set 5 s _ gx_tb R_Qu D dA := ⟨⟨hx, hb, hml, hown, ht⟩, hK⟩
  have hI : gx_I D dA adr A s.heap σ s.heap [] := ⟨hP, va_S.rf⟩
  have hl := lv_entry ([.ref (adr o0), .int p0, .int p1, .int p2, .int p3]) (n := 5) (Nat.le_of_ble_eq_true rfl)
  rw [lg_entry_eq]
  generalize (lg_sl ([.ref (adr o0), .int p0, .int p1, .int p2, .int p3]) ++ List.replicate (5 - (lg_sl ([.ref (adr o0), .int p0, .int p1, .int p2, .int p3])).length) Slot.unset).toArray = ls at hl ⊢
  have hl : lv_has ls 5 [(0, .ref (adr o0)), (1, .int p0), (2, .int p1), (3, .int p2), (4, .int p3)] := hl
  rw [fn_Qu_set] at hf
  obtain ⟨ho0, hf⟩ := gx_gd hf
  refine lv_aload_n hx hb d_Qu_set_0 rfl (lv_at hl 0 rfl) ?_
  refine lv_iload_n hx hb d_Qu_set_1 rfl (lv_at hl 1 rfl) ?_
  obtain ⟨σ_1, eσ_1, hf⟩ := gx_lte hf
  refine gx_put G hI hA cl_Qu (gx_ci_q ho0) 0 (by decide) (gx_rf_q ho0 0) fl_Qu_7 rfl rfl rfl eσ_1 d_Qu_set_2 (fun H locs hI => ?_)
  refine lv_aload_n hx hb d_Qu_set_5 rfl (lv_at hl 0 rfl) ?_
  refine lv_iload_n hx hb d_Qu_set_6 rfl (lv_at hl 2 rfl) ?_
  obtain ⟨σ_2, eσ_2, hf⟩ := gx_lte hf
  refine gx_put G hI hA cl_Qu (gx_ci_q ho0) 2 (by decide) (gx_rf_q ho0 2) fl_Qu_16 rfl rfl rfl eσ_2 d_Qu_set_7 (fun H locs hI => ?_)
  refine lv_aload_n hx hb d_Qu_set_10 rfl (lv_at hl 0 rfl) ?_
  refine lv_iload_n hx hb d_Qu_set_11 rfl (lv_at hl 3 rfl) ?_
  obtain ⟨σ_3, eσ_3, hf⟩ := gx_lte hf
  refine gx_put G hI hA cl_Qu (gx_ci_q ho0) 4 (by decide) (gx_rf_q ho0 4) fl_Qu_13 rfl rfl rfl eσ_3 d_Qu_set_12 (fun H locs hI => ?_)
  refine lv_aload_n hx hb d_Qu_set_15 rfl (lv_at hl 0 rfl) ?_
  refine lv_iload hx hb d_Qu_set_16 (lv_at hl 4 rfl) ?_
  obtain ⟨σ_4, eσ_4, hf⟩ := gx_lte hf
  refine gx_put G hI hA cl_Qu (gx_ci_q ho0) 5 (by decide) (gx_rf_q ho0 5) fl_Qu_19 rfl rfl rfl eσ_4 d_Qu_set_18 (fun H locs hI => ?_)
  refine lv_aload_n hx hb d_Qu_set_21 rfl (lv_at hl 0 rfl) ?_
  obtain ⟨σ_5, hc_6, hf⟩ := gx_bve hf
  refine gx_go (va_runV (As := []) (rest := []) G.1 (ct_Qu_restart l D dA adr A hA N o0 σ_4 σ_5 hc_6) (cwV 0 ht gi_Qu_22 rfl rfl rfl (by decide +kernel) ⟨Nat.le_of_ble_eq_true rfl, Nat.le_of_ble_eq_true rfl⟩) (gx_preV G hI cl_Qu (gx_ci_q ho0)) rfl rfl hl.1 rfl (lv_room (Nat.le_of_ble_eq_true rfl)) d_Qu_set_22 ⟨Nat.zero_le _, Nat.zero_le _⟩) hI (st1 := []) rfl (fun H locs hI => ?_)
  cases hf
  exact W.vret hx hb hr (gx_F hI) hI.2.2.2 d_Qu_set_25
def fn_Qu_canGive (N : Nat) (o0 : Nat) (σ : gx_M) : Option (Int32 × gx_M) := if 2 ≤ o0 ∧ o0 < 6 then (if (σ o0 0) = 0 then (some ((0 : Int32), σ)) else (if (σ o0 2) = 0 then (some ((1 : Int32), σ)) else (if (σ o0 3) ≤ 0 then (some ((0 : Int32), σ)) else (some ((1 : Int32), σ))))) else none
set_option maxHeartbeats 4000000 in
set_option maxRecDepth 100000 in
theorem ct_Qu_canGive (l : Launch) (D : va_G) (dA : Nat → ClassId) (adr : Nat → Nat) (A : Nat → Prop) (hA : gx_A A adr) (N : Nat) (o0 : Nat) (σ : gx_M) (r : Int32) (σ' : gx_M) (hf : fn_Qu_canGive N o0 σ = some (r, σ')) : Met l y_Qu_canGive w_Qu_canGive rm_Qu_canGive (gx_Pc D dA adr σ [.ref (adr o0)]) (gx_Q D dA adr A (some (.int r)) σ') 0 0 A := by
  refine Met.ofW (cc := b_Qu_canGive) (maxL := 1) (ret := some .boolean) (by decide) rfl ?_
  intro p e s m args below meth c s₁ B hml hv
  obtain ⟨rfl, hP, hK⟩ := hv
  have hx := B.exec
  have hb := B.bytes
  have hr := B.returns
  have hlocks := B.notSynchronized
  have ht : ∀ w ∈ gx_tb, w.before _ s = true := fun w h => atoms_spec (ws := w_Qu_canGive) B.pre w (List.mem_cons_of_mem _ h)
  have hown : s.vm.findClass R_Qu = some m.cls := findClass_of_methodNamed B.named
  have G : gx_G p m c b_Qu_canGive 1 s _ gx_tb R_Qu D dA := ⟨⟨hx, hb, hml, hown, ht⟩, hK⟩
  have hI : gx_I D dA adr A s.heap σ s.heap [] := ⟨hP, va_S.rf⟩
  have hl := lv_entry ([.ref (adr o0)]) (n := 1) (Nat.le_of_ble_eq_true rfl)
  rw [lg_entry_eq]
  generalize (lg_sl ([.ref (adr o0)]) ++ List.replicate (1 - (lg_sl ([.ref (adr o0)])).length) Slot.unset).toArray = ls at hl ⊢
  have hl : lv_has ls 1 [(0, .ref (adr o0))] := hl
  rw [fn_Qu_canGive] at hf
  obtain ⟨ho0, hf⟩ := gx_gd hf
  refine lv_aload_n hx hb d_Qu_canGive_0 rfl (lv_at hl 0 rfl) ?_
  refine gx_getI G hI cl_Qu (gx_ci_q ho0) 0 (by decide) (gx_rf_q ho0 0) fl_Qu_7 d_Qu_canGive_1 ?_
  refine lv_if_eq (tgt := 25) hx hb d_Qu_canGive_4 (by decide) (fun c_1 => ?_) (fun c_1 => ?_)
  · replace hf := (if_pos c_1).symm.trans hf
    refine lv_iconst (v := 0) hx hb d_Qu_canGive_25 (by decide) ?_
    cases hf
    exact W.zret (v := (0 : Int32)) hx hb hr (by decide) (gx_F hI) hI.2.2.2 d_Qu_canGive_26
  · replace hf := (if_neg c_1).symm.trans hf
    refine lv_aload_n hx hb d_Qu_canGive_7 rfl (lv_at hl 0 rfl) ?_
    refine gx_getI G hI cl_Qu (gx_ci_q ho0) 2 (by decide) (gx_rf_q ho0 2) fl_Qu_16 d_Qu_canGive_8 ?_
    refine lv_if_eq (tgt := 21) hx hb d_Qu_canGive_11 (by decide) (fun c_2 => ?_) (fun c_2 => ?_)
    · replace hf := (if_pos c_2).symm.trans hf
      refine lv_iconst (v := 1) hx hb d_Qu_canGive_21 (by decide) ?_
      refine lv_goto (tgt := 26) hx hb d_Qu_canGive_22 (by decide) ?_
      cases hf
      exact W.zret (v := (1 : Int32)) hx hb hr (by decide) (gx_F hI) hI.2.2.2 d_Qu_canGive_26
    · replace hf := (if_neg c_2).symm.trans hf
      refine lv_aload_n hx hb d_Qu_canGive_14 rfl (lv_at hl 0 rfl) ?_
      refine gx_getI G hI cl_Qu (gx_ci_q ho0) 3 (by decide) (gx_rf_q ho0 3) fl_Qu_28 d_Qu_canGive_15 ?_
      refine lv_if_le (tgt := 25) hx hb d_Qu_canGive_18 (by decide) (fun c_3 => ?_) (fun c_3 => ?_)
      · replace hf := (if_pos c_3).symm.trans hf
        refine lv_iconst (v := 0) hx hb d_Qu_canGive_25 (by decide) ?_
        cases hf
        exact W.zret (v := (0 : Int32)) hx hb hr (by decide) (gx_F hI) hI.2.2.2 d_Qu_canGive_26
      · replace hf := (if_neg c_3).symm.trans hf
        refine lv_iconst (v := 1) hx hb d_Qu_canGive_21 (by decide) ?_
        refine lv_goto (tgt := 26) hx hb d_Qu_canGive_22 (by decide) ?_
        cases hf
        exact W.zret (v := (1 : Int32)) hx hb hr (by decide) (gx_F hI) hI.2.2.2 d_Qu_canGive_26
def fn_Qu_spendToken (N : Nat) (o0 : Nat) (σ : gx_M) : Option gx_M := if 2 ≤ o0 ∧ o0 < 6 then (if (σ o0 2) ≤ 0 then (some σ) else (gx_lt (gx_up σ o0 3 ((σ o0 3) - ((1 : Int32)))) (fun σ_2 => some σ_2))) else none
set_option maxHeartbeats 4000000 in
set_option maxRecDepth 100000 in
theorem ct_Qu_spendToken (l : Launch) (D : va_G) (dA : Nat → ClassId) (adr : Nat → Nat) (A : Nat → Prop) (hA : gx_A A adr) (N : Nat) (o0 : Nat) (σ : gx_M) (σ' : gx_M) (hf : fn_Qu_spendToken N o0 σ = some σ') : Met l y_Qu_spendToken w_Qu_spendToken rm_Qu_spendToken (gx_Pc D dA adr σ [.ref (adr o0)]) (gx_Q D dA adr A none σ') 0 0 A := by
  refine Met.ofW (cc := b_Qu_spendToken) (maxL := 1) (ret := none) (by decide) rfl ?_
  intro p e s m args below meth c s₁ B hml hv
  obtain ⟨rfl, hP, hK⟩ := hv
  have hx := B.exec
  have hb := B.bytes
  have hr := B.returns
  have hlocks := B.notSynchronized
  have ht : ∀ w ∈ gx_tb, w.before _ s = true := fun w h => atoms_spec (ws := w_Qu_spendToken) B.pre w (List.mem_cons_of_mem _ h)
  have hown : s.vm.findClass R_Qu = some m.cls := findClass_of_methodNamed B.named
  have G : gx_G p m c b_Qu_spendToken 1 s _ gx_tb R_Qu D dA := ⟨⟨hx, hb, hml, hown, ht⟩, hK⟩
  have hI : gx_I D dA adr A s.heap σ s.heap [] := ⟨hP, va_S.rf⟩
  have hl := lv_entry ([.ref (adr o0)]) (n := 1) (Nat.le_of_ble_eq_true rfl)
  rw [lg_entry_eq]
  generalize (lg_sl ([.ref (adr o0)]) ++ List.replicate (1 - (lg_sl ([.ref (adr o0)])).length) Slot.unset).toArray = ls at hl ⊢
  have hl : lv_has ls 1 [(0, .ref (adr o0))] := hl
  rw [fn_Qu_spendToken] at hf
  obtain ⟨ho0, hf⟩ := gx_gd hf
  refine lv_aload_n hx hb d_Qu_spendToken_0 rfl (lv_at hl 0 rfl) ?_
  refine gx_getI G hI cl_Qu (gx_ci_q ho0) 2 (by decide) (gx_rf_q ho0 2) fl_Qu_16 d_Qu_spendToken_1 ?_
  refine lv_if_le (tgt := 17) hx hb d_Qu_spendToken_4 (by decide) (fun c_1 => ?_) (fun c_1 => ?_)
  · replace hf := (if_pos c_1).symm.trans hf
    cases hf
    exact W.vret hx hb hr (gx_F hI) hI.2.2.2 d_Qu_spendToken_17
  · replace hf := (if_neg c_1).symm.trans hf
    refine lv_aload_n hx hb d_Qu_spendToken_7 rfl (lv_at hl 0 rfl) ?_
    refine lv_dup hx hb d_Qu_spendToken_8 rfl ?_
    refine gx_getI G hI cl_Qu (gx_ci_q ho0) 3 (by decide) (gx_rf_q ho0 3) fl_Qu_28 d_Qu_spendToken_9 ?_
    refine lv_iconst (v := 1) hx hb d_Qu_spendToken_12 (by decide) ?_
    refine lv_isub hx hb d_Qu_spendToken_13 ?_
    obtain ⟨σ_2, eσ_2, hf⟩ := gx_lte hf
    refine gx_put G hI hA cl_Qu (gx_ci_q ho0) 3 (by decide) (gx_rf_q ho0 3) fl_Qu_28 rfl rfl rfl eσ_2 d_Qu_spendToken_14 (fun H locs hI => ?_)
    cases hf
    exact W.vret hx hb hr (gx_F hI) hI.2.2.2 d_Qu_spendToken_17
def fn_Qu_refillBetween (N : Nat) (o0 : Nat) (p0 : Int32) (p1 : Int32) (σ : gx_M) : Option gx_M := if 2 ≤ o0 ∧ o0 < 6 then (if ¬ (σ o0 4) = 0 then (if ¬ (σ o0 4) = 0 then (gx_lt (gx_up σ o0 3 (if ((σ o0 3) + (((p1 - (σ o0 5)) / (σ o0 4)) - ((p0 - (σ o0 5)) / (σ o0 4)))) < (σ o0 2) then ((σ o0 3) + (((p1 - (σ o0 5)) / (σ o0 4)) - ((p0 - (σ o0 5)) / (σ o0 4)))) else (σ o0 2))) (fun σ_3 => some σ_3)) else none) else none) else none
set_option maxHeartbeats 4000000 in
set_option maxRecDepth 100000 in
theorem ct_Qu_refillBetween (l : Launch) (D : va_G) (dA : Nat → ClassId) (adr : Nat → Nat) (A : Nat → Prop) (hA : gx_A A adr) (N : Nat) (o0 : Nat) (p0 : Int32) (p1 : Int32) (σ : gx_M) (σ' : gx_M) (hf : fn_Qu_refillBetween N o0 p0 p1 σ = some σ') : Met l y_Qu_refillBetween w_Qu_refillBetween rm_Qu_refillBetween (gx_Pc D dA adr σ [.ref (adr o0), .int p0, .int p1]) (gx_Q D dA adr A none σ') 0 0 A := by
  refine Met.ofW (cc := b_Qu_refillBetween) (maxL := 4) (ret := none) (by decide) rfl ?_
  intro p e s m args below meth c s₁ B hml hv
  obtain ⟨rfl, hP, hK⟩ := hv
  have hx := B.exec
  have hb := B.bytes
  have hr := B.returns
  have hlocks := B.notSynchronized
  have ht : ∀ w ∈ gx_tb, w.before _ s = true := fun w h => atoms_spec (ws := w_Qu_refillBetween) B.pre w (List.mem_cons_of_mem _ h)
  have hown : s.vm.findClass R_Qu = some m.cls := findClass_of_methodNamed B.named
  have G : gx_G p m c b_Qu_refillBetween 4 s _ gx_tb R_Qu D dA := ⟨⟨hx, hb, hml, hown, ht⟩, hK⟩
  have hI : gx_I D dA adr A s.heap σ s.heap [] := ⟨hP, va_S.rf⟩
  have hl := lv_entry ([.ref (adr o0), .int p0, .int p1]) (n := 4) (Nat.le_of_ble_eq_true rfl)
  rw [lg_entry_eq]
  generalize (lg_sl ([.ref (adr o0), .int p0, .int p1]) ++ List.replicate (4 - (lg_sl ([.ref (adr o0), .int p0, .int p1])).length) Slot.unset).toArray = ls at hl ⊢
  have hl : lv_has ls 4 [(0, .ref (adr o0)), (1, .int p0), (2, .int p1)] := hl
  rw [fn_Qu_refillBetween] at hf
  obtain ⟨ho0, hf⟩ := gx_gd hf
  refine lv_iload_n hx hb d_Qu_refillBetween_0 rfl (lv_at hl 2 rfl) ?_
  refine lv_aload_n hx hb d_Qu_refillBetween_1 rfl (lv_at hl 0 rfl) ?_
  refine gx_getI G hI cl_Qu (gx_ci_q ho0) 5 (by decide) (gx_rf_q ho0 5) fl_Qu_19 d_Qu_refillBetween_2 ?_
  refine lv_isub hx hb d_Qu_refillBetween_5 ?_
  refine lv_aload_n hx hb d_Qu_refillBetween_6 rfl (lv_at hl 0 rfl) ?_
  refine gx_getI G hI cl_Qu (gx_ci_q ho0) 4 (by decide) (gx_rf_q ho0 4) fl_Qu_13 d_Qu_refillBetween_7 ?_
  obtain ⟨hz_1, hf⟩ := gx_gd hf
  refine lv_idiv hx hb d_Qu_refillBetween_10 hz_1 ?_
  refine lv_iload_n hx hb d_Qu_refillBetween_11 rfl (lv_at hl 1 rfl) ?_
  refine lv_aload_n hx hb d_Qu_refillBetween_12 rfl (lv_at hl 0 rfl) ?_
  refine gx_getI G hI cl_Qu (gx_ci_q ho0) 5 (by decide) (gx_rf_q ho0 5) fl_Qu_19 d_Qu_refillBetween_13 ?_
  refine lv_isub hx hb d_Qu_refillBetween_16 ?_
  refine lv_aload_n hx hb d_Qu_refillBetween_17 rfl (lv_at hl 0 rfl) ?_
  refine gx_getI G hI cl_Qu (gx_ci_q ho0) 4 (by decide) (gx_rf_q ho0 4) fl_Qu_13 d_Qu_refillBetween_18 ?_
  obtain ⟨hz_2, hf⟩ := gx_gd hf
  refine lv_idiv hx hb d_Qu_refillBetween_21 hz_2 ?_
  refine lv_isub hx hb d_Qu_refillBetween_22 ?_
  refine lv_istore_n (i := 3) (lv' := [(3, .int (((p1 - (σ o0 5)) / (σ o0 4)) - ((p0 - (σ o0 5)) / (σ o0 4)))), (0, .ref (adr o0)), (1, .int p0), (2, .int p1)]) hx hb d_Qu_refillBetween_23 rfl hl (by decide) rfl (fun ls hl => ?_)
  refine lv_aload_n hx hb d_Qu_refillBetween_24 rfl (lv_at hl 1 rfl) ?_
  refine lv_aload_n hx hb d_Qu_refillBetween_25 rfl (lv_at hl 1 rfl) ?_
  refine gx_getI G hI cl_Qu (gx_ci_q ho0) 2 (by decide) (gx_rf_q ho0 2) fl_Qu_16 d_Qu_refillBetween_26 ?_
  refine lv_aload_n hx hb d_Qu_refillBetween_29 rfl (lv_at hl 1 rfl) ?_
  refine gx_getI G hI cl_Qu (gx_ci_q ho0) 3 (by decide) (gx_rf_q ho0 3) fl_Qu_28 d_Qu_refillBetween_30 ?_
  refine lv_iload_n hx hb d_Qu_refillBetween_33 rfl (lv_at hl 0 rfl) ?_
  refine lv_iadd hx hb d_Qu_refillBetween_34 ?_
  refine va_mmin hx hb (hml.trans hl.1.symm) hown (ht _ ml_Qu_31) (ht _ st_Math_min) (ht _ in_Math) (ht _ co_Math_min) (Nat.le_of_ble_eq_true rfl) (Nat.le_of_ble_eq_true rfl) (Nat.zero_le _) (Nat.zero_le _) d_Qu_refillBetween_35 ?_
  obtain ⟨σ_3, eσ_3, hf⟩ := gx_lte hf
  refine gx_put G hI hA cl_Qu (gx_ci_q ho0) 3 (by decide) (gx_rf_q ho0 3) fl_Qu_28 rfl rfl rfl eσ_3 d_Qu_refillBetween_38 (fun H locs hI => ?_)
  cases hf
  exact W.vret hx hb hr (gx_F hI) hI.2.2.2 d_Qu_refillBetween_41
end
section
theorem d_Ro_copyFrom_0 : decode b_Ro_copyFrom 0 = .ok (.aload_n 0, 1) := by decide +kernel
theorem d_Ro_copyFrom_1 : decode b_Ro_copyFrom 1 = .ok (.aload_n 1, 1) := by decide +kernel
theorem d_Ro_copyFrom_2 : decode b_Ro_copyFrom 2 = .ok (.getfield 20, 3) := by decide +kernel
theorem d_Ro_copyFrom_5 : decode b_Ro_copyFrom 5 = .ok (.putfield 20, 3) := by decide +kernel
theorem d_Ro_copyFrom_8 : decode b_Ro_copyFrom 8 = .ok (.aload_n 0, 1) := by decide +kernel
theorem d_Ro_copyFrom_9 : decode b_Ro_copyFrom 9 = .ok (.aload_n 1, 1) := by decide +kernel
theorem d_Ro_copyFrom_10 : decode b_Ro_copyFrom 10 = .ok (.getfield 24, 3) := by decide +kernel
theorem d_Ro_copyFrom_13 : decode b_Ro_copyFrom 13 = .ok (.putfield 24, 3) := by decide +kernel
theorem d_Ro_copyFrom_16 : decode b_Ro_copyFrom 16 = .ok (.iconst 0, 1) := by decide +kernel
theorem d_Ro_copyFrom_17 : decode b_Ro_copyFrom 17 = .ok (.istore_n 2, 1) := by decide +kernel
theorem d_Ro_copyFrom_18 : decode b_Ro_copyFrom 18 = .ok (.iload_n 2, 1) := by decide +kernel
theorem d_Ro_copyFrom_19 : decode b_Ro_copyFrom 19 = .ok (.aload_n 0, 1) := by decide +kernel
theorem d_Ro_copyFrom_20 : decode b_Ro_copyFrom 20 = .ok (.getfield 20, 3) := by decide +kernel
theorem d_Ro_copyFrom_23 : decode b_Ro_copyFrom 23 = .ok (.if_icmp .ge 24, 3) := by decide +kernel
theorem d_Ro_copyFrom_26 : decode b_Ro_copyFrom 26 = .ok (.aload_n 0, 1) := by decide +kernel
theorem d_Ro_copyFrom_27 : decode b_Ro_copyFrom 27 = .ok (.getfield 11, 3) := by decide +kernel
theorem d_Ro_copyFrom_30 : decode b_Ro_copyFrom 30 = .ok (.iload_n 2, 1) := by decide +kernel
theorem d_Ro_copyFrom_31 : decode b_Ro_copyFrom 31 = .ok (.aaload, 1) := by decide +kernel
theorem d_Ro_copyFrom_32 : decode b_Ro_copyFrom 32 = .ok (.aload_n 1, 1) := by decide +kernel
theorem d_Ro_copyFrom_33 : decode b_Ro_copyFrom 33 = .ok (.getfield 11, 3) := by decide +kernel
theorem d_Ro_copyFrom_36 : decode b_Ro_copyFrom 36 = .ok (.iload_n 2, 1) := by decide +kernel
theorem d_Ro_copyFrom_37 : decode b_Ro_copyFrom 37 = .ok (.aaload, 1) := by decide +kernel
theorem d_Ro_copyFrom_38 : decode b_Ro_copyFrom 38 = .ok (.invokevirtual 27, 3) := by decide +kernel
theorem d_Ro_copyFrom_41 : decode b_Ro_copyFrom 41 = .ok (.iinc 2 1, 3) := by decide +kernel
theorem d_Ro_copyFrom_44 : decode b_Ro_copyFrom 44 = .ok (.goto (-26), 3) := by decide +kernel
theorem d_Ro_copyFrom_47 : decode b_Ro_copyFrom 47 = .ok (.return_, 1) := by decide +kernel
theorem d_Ro_find_0 : decode b_Ro_find 0 = .ok (.iload_n 1, 1) := by decide +kernel
theorem d_Ro_find_1 : decode b_Ro_find 1 = .ok (.ifCond .lt 20, 3) := by decide +kernel
theorem d_Ro_find_4 : decode b_Ro_find 4 = .ok (.iload_n 1, 1) := by decide +kernel
theorem d_Ro_find_5 : decode b_Ro_find 5 = .ok (.aload_n 0, 1) := by decide +kernel
theorem d_Ro_find_6 : decode b_Ro_find 6 = .ok (.getfield 20, 3) := by decide +kernel
theorem d_Ro_find_9 : decode b_Ro_find 9 = .ok (.if_icmp .ge 12, 3) := by decide +kernel
theorem d_Ro_find_12 : decode b_Ro_find 12 = .ok (.aload_n 0, 1) := by decide +kernel
theorem d_Ro_find_13 : decode b_Ro_find 13 = .ok (.getfield 11, 3) := by decide +kernel
theorem d_Ro_find_16 : decode b_Ro_find 16 = .ok (.iload_n 1, 1) := by decide +kernel
theorem d_Ro_find_17 : decode b_Ro_find 17 = .ok (.aaload, 1) := by decide +kernel
theorem d_Ro_find_18 : decode b_Ro_find 18 = .ok (.goto 4, 3) := by decide +kernel
theorem d_Ro_find_21 : decode b_Ro_find 21 = .ok (.aconst_null, 1) := by decide +kernel
theorem d_Ro_find_22 : decode b_Ro_find 22 = .ok (.areturn, 1) := by decide +kernel
theorem d_Ro_make_0 : decode b_Ro_make 0 = .ok (.aload_n 0, 1) := by decide +kernel
theorem d_Ro_make_1 : decode b_Ro_make 1 = .ok (.getfield 20, 3) := by decide +kernel
theorem d_Ro_make_4 : decode b_Ro_make 4 = .ok (.bipush 40, 2) := by decide +kernel
theorem d_Ro_make_6 : decode b_Ro_make 6 = .ok (.if_icmp .lt 5, 3) := by decide +kernel
theorem d_Ro_make_9 : decode b_Ro_make 9 = .ok (.aconst_null, 1) := by decide +kernel
theorem d_Ro_make_10 : decode b_Ro_make 10 = .ok (.areturn, 1) := by decide +kernel
theorem d_Ro_make_11 : decode b_Ro_make 11 = .ok (.aload_n 0, 1) := by decide +kernel
theorem d_Ro_make_12 : decode b_Ro_make 12 = .ok (.getfield 11, 3) := by decide +kernel
theorem d_Ro_make_15 : decode b_Ro_make 15 = .ok (.aload_n 0, 1) := by decide +kernel
theorem d_Ro_make_16 : decode b_Ro_make 16 = .ok (.getfield 20, 3) := by decide +kernel
theorem d_Ro_make_19 : decode b_Ro_make 19 = .ok (.aaload, 1) := by decide +kernel
theorem d_Ro_make_20 : decode b_Ro_make 20 = .ok (.astore_n 3, 1) := by decide +kernel
theorem d_Ro_make_21 : decode b_Ro_make 21 = .ok (.aload_n 0, 1) := by decide +kernel
theorem d_Ro_make_22 : decode b_Ro_make 22 = .ok (.dup, 1) := by decide +kernel
theorem d_Ro_make_23 : decode b_Ro_make 23 = .ok (.getfield 20, 3) := by decide +kernel
theorem d_Ro_make_26 : decode b_Ro_make 26 = .ok (.iconst 1, 1) := by decide +kernel
theorem d_Ro_make_27 : decode b_Ro_make 27 = .ok (.iadd, 1) := by decide +kernel
theorem d_Ro_make_28 : decode b_Ro_make 28 = .ok (.putfield 20, 3) := by decide +kernel
theorem d_Ro_make_31 : decode b_Ro_make 31 = .ok (.aload_n 3, 1) := by decide +kernel
theorem d_Ro_make_32 : decode b_Ro_make 32 = .ok (.iload_n 1, 1) := by decide +kernel
theorem d_Ro_make_33 : decode b_Ro_make 33 = .ok (.iload_n 2, 1) := by decide +kernel
theorem d_Ro_make_34 : decode b_Ro_make 34 = .ok (.invokevirtual 31, 3) := by decide +kernel
theorem d_Ro_make_37 : decode b_Ro_make 37 = .ok (.aload_n 3, 1) := by decide +kernel
theorem d_Ro_make_38 : decode b_Ro_make 38 = .ok (.areturn, 1) := by decide +kernel
theorem d_Ro_enter_0 : decode b_Ro_enter 0 = .ok (.aload_n 1, 1) := by decide +kernel
theorem d_Ro_enter_1 : decode b_Ro_enter 1 = .ok (.iload_n 2, 1) := by decide +kernel
theorem d_Ro_enter_2 : decode b_Ro_enter 2 = .ok (.putfield 35, 3) := by decide +kernel
theorem d_Ro_enter_5 : decode b_Ro_enter 5 = .ok (.aload_n 1, 1) := by decide +kernel
theorem d_Ro_enter_6 : decode b_Ro_enter 6 = .ok (.aload_n 0, 1) := by decide +kernel
theorem d_Ro_enter_7 : decode b_Ro_enter 7 = .ok (.getfield 24, 3) := by decide +kernel
theorem d_Ro_enter_10 : decode b_Ro_enter 10 = .ok (.putfield 38, 3) := by decide +kernel
theorem d_Ro_enter_13 : decode b_Ro_enter 13 = .ok (.aload_n 0, 1) := by decide +kernel
theorem d_Ro_enter_14 : decode b_Ro_enter 14 = .ok (.dup, 1) := by decide +kernel
theorem d_Ro_enter_15 : decode b_Ro_enter 15 = .ok (.getfield 24, 3) := by decide +kernel
theorem d_Ro_enter_18 : decode b_Ro_enter 18 = .ok (.iconst 1, 1) := by decide +kernel
theorem d_Ro_enter_19 : decode b_Ro_enter 19 = .ok (.iadd, 1) := by decide +kernel
theorem d_Ro_enter_20 : decode b_Ro_enter 20 = .ok (.putfield 24, 3) := by decide +kernel
theorem d_Ro_enter_23 : decode b_Ro_enter 23 = .ok (.return_, 1) := by decide +kernel
theorem d_Ro_releaseIfComplete_0 : decode b_Ro_releaseIfComplete 0 = .ok (.aload_n 1, 1) := by decide +kernel
theorem d_Ro_releaseIfComplete_1 : decode b_Ro_releaseIfComplete 1 = .ok (.getfield 35, 3) := by decide +kernel
theorem d_Ro_releaseIfComplete_4 : decode b_Ro_releaseIfComplete 4 = .ok (.bipush 6, 2) := by decide +kernel
theorem d_Ro_releaseIfComplete_6 : decode b_Ro_releaseIfComplete 6 = .ok (.if_icmp .ne 23, 3) := by decide +kernel
theorem d_Ro_releaseIfComplete_9 : decode b_Ro_releaseIfComplete 9 = .ok (.aload_n 1, 1) := by decide +kernel
theorem d_Ro_releaseIfComplete_10 : decode b_Ro_releaseIfComplete 10 = .ok (.getfield 41, 3) := by decide +kernel
theorem d_Ro_releaseIfComplete_13 : decode b_Ro_releaseIfComplete 13 = .ok (.ifCond .eq 16, 3) := by decide +kernel
theorem d_Ro_releaseIfComplete_16 : decode b_Ro_releaseIfComplete 16 = .ok (.aload_n 1, 1) := by decide +kernel
theorem d_Ro_releaseIfComplete_17 : decode b_Ro_releaseIfComplete 17 = .ok (.getfield 45, 3) := by decide +kernel
theorem d_Ro_releaseIfComplete_20 : decode b_Ro_releaseIfComplete 20 = .ok (.ifCond .ne 9, 3) := by decide +kernel
theorem d_Ro_releaseIfComplete_23 : decode b_Ro_releaseIfComplete 23 = .ok (.aload_n 0, 1) := by decide +kernel
theorem d_Ro_releaseIfComplete_24 : decode b_Ro_releaseIfComplete 24 = .ok (.aload_n 1, 1) := by decide +kernel
theorem d_Ro_releaseIfComplete_25 : decode b_Ro_releaseIfComplete 25 = .ok (.iconst 1, 1) := by decide +kernel
theorem d_Ro_releaseIfComplete_26 : decode b_Ro_releaseIfComplete 26 = .ok (.invokevirtual 48, 3) := by decide +kernel
theorem d_Ro_releaseIfComplete_29 : decode b_Ro_releaseIfComplete 29 = .ok (.return_, 1) := by decide +kernel
theorem d_Ro_releaseReserved_0 : decode b_Ro_releaseReserved 0 = .ok (.iconst 0, 1) := by decide +kernel
theorem d_Ro_releaseReserved_1 : decode b_Ro_releaseReserved 1 = .ok (.istore_n 1, 1) := by decide +kernel
theorem d_Ro_releaseReserved_2 : decode b_Ro_releaseReserved 2 = .ok (.iload_n 1, 1) := by decide +kernel
theorem d_Ro_releaseReserved_3 : decode b_Ro_releaseReserved 3 = .ok (.aload_n 0, 1) := by decide +kernel
theorem d_Ro_releaseReserved_4 : decode b_Ro_releaseReserved 4 = .ok (.getfield 20, 3) := by decide +kernel
theorem d_Ro_releaseReserved_7 : decode b_Ro_releaseReserved 7 = .ok (.if_icmp .ge 33, 3) := by decide +kernel
theorem d_Ro_releaseReserved_10 : decode b_Ro_releaseReserved 10 = .ok (.aload_n 0, 1) := by decide +kernel
theorem d_Ro_releaseReserved_11 : decode b_Ro_releaseReserved 11 = .ok (.getfield 11, 3) := by decide +kernel
theorem d_Ro_releaseReserved_14 : decode b_Ro_releaseReserved 14 = .ok (.iload_n 1, 1) := by decide +kernel
theorem d_Ro_releaseReserved_15 : decode b_Ro_releaseReserved 15 = .ok (.aaload, 1) := by decide +kernel
theorem d_Ro_releaseReserved_16 : decode b_Ro_releaseReserved 16 = .ok (.getfield 35, 3) := by decide +kernel
theorem d_Ro_releaseReserved_19 : decode b_Ro_releaseReserved 19 = .ok (.iconst 2, 1) := by decide +kernel
theorem d_Ro_releaseReserved_20 : decode b_Ro_releaseReserved 20 = .ok (.if_icmp .ne 14, 3) := by decide +kernel
theorem d_Ro_releaseReserved_23 : decode b_Ro_releaseReserved 23 = .ok (.aload_n 0, 1) := by decide +kernel
theorem d_Ro_releaseReserved_24 : decode b_Ro_releaseReserved 24 = .ok (.aload_n 0, 1) := by decide +kernel
theorem d_Ro_releaseReserved_25 : decode b_Ro_releaseReserved 25 = .ok (.getfield 11, 3) := by decide +kernel
theorem d_Ro_releaseReserved_28 : decode b_Ro_releaseReserved 28 = .ok (.iload_n 1, 1) := by decide +kernel
theorem d_Ro_releaseReserved_29 : decode b_Ro_releaseReserved 29 = .ok (.aaload, 1) := by decide +kernel
theorem d_Ro_releaseReserved_30 : decode b_Ro_releaseReserved 30 = .ok (.iconst 1, 1) := by decide +kernel
theorem d_Ro_releaseReserved_31 : decode b_Ro_releaseReserved 31 = .ok (.invokevirtual 48, 3) := by decide +kernel
theorem d_Ro_releaseReserved_34 : decode b_Ro_releaseReserved 34 = .ok (.iinc 1 1, 3) := by decide +kernel
theorem d_Ro_releaseReserved_37 : decode b_Ro_releaseReserved 37 = .ok (.goto (-35), 3) := by decide +kernel
theorem d_Ro_releaseReserved_40 : decode b_Ro_releaseReserved 40 = .ok (.return_, 1) := by decide +kernel
theorem d_Ro_countIn_0 : decode b_Ro_countIn 0 = .ok (.iconst 0, 1) := by decide +kernel
theorem d_Ro_countIn_1 : decode b_Ro_countIn 1 = .ok (.istore_n 2, 1) := by decide +kernel
theorem d_Ro_countIn_2 : decode b_Ro_countIn 2 = .ok (.iconst 0, 1) := by decide +kernel
theorem d_Ro_countIn_3 : decode b_Ro_countIn 3 = .ok (.istore_n 3, 1) := by decide +kernel
theorem d_Ro_countIn_4 : decode b_Ro_countIn 4 = .ok (.iload_n 3, 1) := by decide +kernel
theorem d_Ro_countIn_5 : decode b_Ro_countIn 5 = .ok (.aload_n 0, 1) := by decide +kernel
theorem d_Ro_countIn_6 : decode b_Ro_countIn 6 = .ok (.getfield 20, 3) := by decide +kernel
theorem d_Ro_countIn_9 : decode b_Ro_countIn 9 = .ok (.if_icmp .ge 25, 3) := by decide +kernel
theorem d_Ro_countIn_12 : decode b_Ro_countIn 12 = .ok (.aload_n 0, 1) := by decide +kernel
theorem d_Ro_countIn_13 : decode b_Ro_countIn 13 = .ok (.getfield 11, 3) := by decide +kernel
theorem d_Ro_countIn_16 : decode b_Ro_countIn 16 = .ok (.iload_n 3, 1) := by decide +kernel
theorem d_Ro_countIn_17 : decode b_Ro_countIn 17 = .ok (.aaload, 1) := by decide +kernel
theorem d_Ro_countIn_18 : decode b_Ro_countIn 18 = .ok (.getfield 35, 3) := by decide +kernel
theorem d_Ro_countIn_21 : decode b_Ro_countIn 21 = .ok (.iload_n 1, 1) := by decide +kernel
theorem d_Ro_countIn_22 : decode b_Ro_countIn 22 = .ok (.if_icmp .ne 6, 3) := by decide +kernel
theorem d_Ro_countIn_25 : decode b_Ro_countIn 25 = .ok (.iinc 2 1, 3) := by decide +kernel
theorem d_Ro_countIn_28 : decode b_Ro_countIn 28 = .ok (.iinc 3 1, 3) := by decide +kernel
theorem d_Ro_countIn_31 : decode b_Ro_countIn 31 = .ok (.goto (-27), 3) := by decide +kernel
theorem d_Ro_countIn_34 : decode b_Ro_countIn 34 = .ok (.iload_n 2, 1) := by decide +kernel
theorem d_Ro_countIn_35 : decode b_Ro_countIn 35 = .ok (.ireturn, 1) := by decide +kernel
theorem d_Ro_oldestDead_0 : decode b_Ro_oldestDead 0 = .ok (.aconst_null, 1) := by decide +kernel
theorem d_Ro_oldestDead_1 : decode b_Ro_oldestDead 1 = .ok (.astore_n 1, 1) := by decide +kernel
theorem d_Ro_oldestDead_2 : decode b_Ro_oldestDead 2 = .ok (.iconst 0, 1) := by decide +kernel
theorem d_Ro_oldestDead_3 : decode b_Ro_oldestDead 3 = .ok (.istore_n 2, 1) := by decide +kernel
theorem d_Ro_oldestDead_4 : decode b_Ro_oldestDead 4 = .ok (.iload_n 2, 1) := by decide +kernel
theorem d_Ro_oldestDead_5 : decode b_Ro_oldestDead 5 = .ok (.aload_n 0, 1) := by decide +kernel
theorem d_Ro_oldestDead_6 : decode b_Ro_oldestDead 6 = .ok (.getfield 20, 3) := by decide +kernel
theorem d_Ro_oldestDead_9 : decode b_Ro_oldestDead 9 = .ok (.if_icmp .ge 49, 3) := by decide +kernel
theorem d_Ro_oldestDead_12 : decode b_Ro_oldestDead 12 = .ok (.aload_n 0, 1) := by decide +kernel
theorem d_Ro_oldestDead_13 : decode b_Ro_oldestDead 13 = .ok (.getfield 11, 3) := by decide +kernel
theorem d_Ro_oldestDead_16 : decode b_Ro_oldestDead 16 = .ok (.iload_n 2, 1) := by decide +kernel
theorem d_Ro_oldestDead_17 : decode b_Ro_oldestDead 17 = .ok (.aaload, 1) := by decide +kernel
theorem d_Ro_oldestDead_18 : decode b_Ro_oldestDead 18 = .ok (.getfield 35, 3) := by decide +kernel
theorem d_Ro_oldestDead_21 : decode b_Ro_oldestDead 21 = .ok (.iconst 5, 1) := by decide +kernel
theorem d_Ro_oldestDead_22 : decode b_Ro_oldestDead 22 = .ok (.if_icmp .ne 30, 3) := by decide +kernel
theorem d_Ro_oldestDead_25 : decode b_Ro_oldestDead 25 = .ok (.aload_n 1, 1) := by decide +kernel
theorem d_Ro_oldestDead_26 : decode b_Ro_oldestDead 26 = .ok (.ifnull 19, 3) := by decide +kernel
theorem d_Ro_oldestDead_29 : decode b_Ro_oldestDead 29 = .ok (.aload_n 0, 1) := by decide +kernel
theorem d_Ro_oldestDead_30 : decode b_Ro_oldestDead 30 = .ok (.getfield 11, 3) := by decide +kernel
theorem d_Ro_oldestDead_33 : decode b_Ro_oldestDead 33 = .ok (.iload_n 2, 1) := by decide +kernel
theorem d_Ro_oldestDead_34 : decode b_Ro_oldestDead 34 = .ok (.aaload, 1) := by decide +kernel
theorem d_Ro_oldestDead_35 : decode b_Ro_oldestDead 35 = .ok (.getfield 38, 3) := by decide +kernel
theorem d_Ro_oldestDead_38 : decode b_Ro_oldestDead 38 = .ok (.aload_n 1, 1) := by decide +kernel
theorem d_Ro_oldestDead_39 : decode b_Ro_oldestDead 39 = .ok (.getfield 38, 3) := by decide +kernel
theorem d_Ro_oldestDead_42 : decode b_Ro_oldestDead 42 = .ok (.if_icmp .ge 10, 3) := by decide +kernel
theorem d_Ro_oldestDead_45 : decode b_Ro_oldestDead 45 = .ok (.aload_n 0, 1) := by decide +kernel
theorem d_Ro_oldestDead_46 : decode b_Ro_oldestDead 46 = .ok (.getfield 11, 3) := by decide +kernel
theorem d_Ro_oldestDead_49 : decode b_Ro_oldestDead 49 = .ok (.iload_n 2, 1) := by decide +kernel
theorem d_Ro_oldestDead_50 : decode b_Ro_oldestDead 50 = .ok (.aaload, 1) := by decide +kernel
theorem d_Ro_oldestDead_51 : decode b_Ro_oldestDead 51 = .ok (.astore_n 1, 1) := by decide +kernel
theorem d_Ro_oldestDead_52 : decode b_Ro_oldestDead 52 = .ok (.iinc 2 1, 3) := by decide +kernel
theorem d_Ro_oldestDead_55 : decode b_Ro_oldestDead 55 = .ok (.goto (-51), 3) := by decide +kernel
theorem d_Ro_oldestDead_58 : decode b_Ro_oldestDead 58 = .ok (.aload_n 1, 1) := by decide +kernel
theorem d_Ro_oldestDead_59 : decode b_Ro_oldestDead 59 = .ok (.areturn, 1) := by decide +kernel
def fn_Ro_copyFrom_L18 (N : Nat) (u0 : Nat) (u1 : Nat) : Nat → Int32 → gx_M → Option gx_M
  | 0, _, _ => none
  | n + 1, v2, σ => if (σ u0 1) ≤ v2 then (some σ) else (if 0 ≤ v2 ∧ v2 < 40 then (if 0 ≤ v2 ∧ v2 < 40 then (gx_bv (fn_Jb_copyFrom N (gx_el (u0 + 17) v2.toNatClampNeg) (gx_el (u1 + 17) v2.toNatClampNeg) σ) (fun σ_6 => fn_Ro_copyFrom_L18 N u0 u1 n (v2 + 1) σ_6)) else none) else none)
def fn_Ro_copyFrom (N : Nat) (o0 : Nat) (q0 : Nat) (σ : gx_M) : Option gx_M := if 8 ≤ o0 ∧ o0 < 25 then (if 8 ≤ q0 ∧ q0 < 25 then (gx_lt (gx_up σ o0 1 (σ q0 1)) (fun σ_1 => gx_lt (gx_up σ_1 o0 2 (σ_1 q0 2)) (fun σ_2 => fn_Ro_copyFrom_L18 N o0 q0 N ((0 : Int32)) σ_2))) else none) else none
set_option maxHeartbeats 4000000 in
set_option maxRecDepth 100000 in
theorem wl_Ro_copyFrom_L18 {p : Program} {l : Launch} {e : Env} {s : State} {m : MethodId} {args : Array Value} {below : List Frame} {meth : Method} {c : Code} {D : va_G} {dA : Nat → ClassId} {adr : Nat → Nat} {A : Nat → Prop} (G : gx_G p m c b_Ro_copyFrom 3 s args gx_tb R_Ro D dA) (hr : meth.sig.returnType = none) (hlocks : meth.locks = false) (hA : gx_A A adr) (N : Nat) (res : gx_M) (u0 : Nat) (u1 : Nat) (hu0 : 8 ≤ u0 ∧ u0 < 25) (hu1 : 8 ≤ u1 ∧ u1 < 25) : ∀ (n : Nat) (v2 : Int32) (σ : gx_M) (H : Heap) (locs : List Loc) (ls : Array Slot), fn_Ro_copyFrom_L18 N u0 u1 n v2 σ = some res → gx_I D dA adr A s.heap σ H locs → lv_has ls 3 [(2, .int v2), (0, .ref (adr u0)), (1, .ref (adr u1))] → W p l e (headSpec w_Ro_copyFrom rm_Ro_copyFrom).room s m args below meth c H locs 0 0 (MQ below (gx_Q D dA adr A none res) args s 0 0 A) (F0 m 18 ls []) := by
  obtain ⟨⟨hx, hb, hml, hown, ht⟩, hK⟩ := id G
  intro n
  induction n with
  | zero =>
    intro v2 σ H locs ls hf
    cases hf
  | succ n ih =>
    intro v2 σ H locs ls hf hI hl
    rw [fn_Ro_copyFrom_L18] at hf
    refine lv_iload_n hx hb d_Ro_copyFrom_18 rfl (lv_at hl 0 rfl) ?_
    refine lv_aload_n hx hb d_Ro_copyFrom_19 rfl (lv_at hl 1 rfl) ?_
    refine gx_getI G hI cl_Ro (gx_ci_r hu0) 1 (by decide) (gx_rf_r hu0 (by decide)) fl_Ro_20 d_Ro_copyFrom_20 ?_
    refine lv_icmp_ge (tgt := 47) hx hb d_Ro_copyFrom_23 (by decide) (fun c_3 => ?_) (fun c_3 => ?_)
    · replace hf := (if_pos c_3).symm.trans hf
      cases hf
      exact W.vret hx hb hr (gx_F hI) hI.2.2.2 d_Ro_copyFrom_47
    · replace hf := (if_neg c_3).symm.trans hf
      refine lv_aload_n hx hb d_Ro_copyFrom_26 rfl (lv_at hl 1 rfl) ?_
      refine gx_getR (o' := u0 + 17) G hI cl_Ro (gx_ci_r hu0) 0 (by decide) (gx_rf_r0 hu0) fl_Ro_11 d_Ro_copyFrom_27 ?_
      refine lv_iload_n hx hb d_Ro_copyFrom_30 rfl (lv_at hl 0 rfl) ?_
      obtain ⟨hi_4, hf⟩ := gx_gd hf
      refine gx_aldJ G hI hu0 hi_4 d_Ro_copyFrom_31 ?_
      refine lv_aload_n hx hb d_Ro_copyFrom_32 rfl (lv_at hl 2 rfl) ?_
      refine gx_getR (o' := u1 + 17) G hI cl_Ro (gx_ci_r hu1) 0 (by decide) (gx_rf_r0 hu1) fl_Ro_11 d_Ro_copyFrom_33 ?_
      refine lv_iload_n hx hb d_Ro_copyFrom_36 rfl (lv_at hl 0 rfl) ?_
      obtain ⟨hi_5, hf⟩ := gx_gd hf
      refine gx_aldJ G hI hu1 hi_5 d_Ro_copyFrom_37 ?_
      obtain ⟨σ_6, hc_7, hf⟩ := gx_bve hf
      refine gx_go (va_runV (As := [.ref (adr (gx_el (u1 + 17) v2.toNatClampNeg))]) (rest := []) G.1 (ct_Jb_copyFrom l D dA adr A hA N (gx_el (u0 + 17) v2.toNatClampNeg) (gx_el (u1 + 17) v2.toNatClampNeg) σ σ_6 hc_7) (cwV 1 ht gi_Ro_27 rfl rfl rfl (by decide +kernel) ⟨Nat.le_of_ble_eq_true rfl, Nat.le_of_ble_eq_true rfl⟩) (gx_preV G hI cl_Jb (gx_ci_j (gx_el_j hu0 hi_4))) rfl rfl hl.1 rfl (lv_room (Nat.le_of_ble_eq_true rfl)) d_Ro_copyFrom_38 ⟨Nat.zero_le _, Nat.zero_le _⟩) hI (st1 := []) rfl (fun H locs hI => ?_)
      refine lv_iinc (v := v2 + 1) (lv' := [(2, .int (v2 + 1)), (0, .ref (adr u0)), (1, .ref (adr u1))]) hx hb d_Ro_copyFrom_41 hl (k := 0) rfl rfl (by decide) rfl (fun ls hl => ?_)
      refine lv_goto (tgt := 18) hx hb d_Ro_copyFrom_44 (by decide) ?_
      exact ih (v2 + 1) σ_6 H locs ls hf hI (lv_sub hl [0, 1, 2] rfl)
set_option maxHeartbeats 4000000 in
set_option maxRecDepth 100000 in
theorem ct_Ro_copyFrom (l : Launch) (D : va_G) (dA : Nat → ClassId) (adr : Nat → Nat) (A : Nat → Prop) (hA : gx_A A adr) (N : Nat) (o0 : Nat) (q0 : Nat) (σ : gx_M) (σ' : gx_M) (hf : fn_Ro_copyFrom N o0 q0 σ = some σ') : Met l y_Ro_copyFrom w_Ro_copyFrom rm_Ro_copyFrom (gx_Pc D dA adr σ [.ref (adr o0), .ref (adr q0)]) (gx_Q D dA adr A none σ') 0 0 A := by
  refine Met.ofW (cc := b_Ro_copyFrom) (maxL := 3) (ret := none) (by decide) rfl ?_
  intro p e s m args below meth c s₁ B hml hv
  obtain ⟨rfl, hP, hK⟩ := hv
  have hx := B.exec
  have hb := B.bytes
  have hr := B.returns
  have hlocks := B.notSynchronized
  have ht : ∀ w ∈ gx_tb, w.before _ s = true := fun w h => atoms_spec (ws := w_Ro_copyFrom) B.pre w (List.mem_cons_of_mem _ h)
  have hown : s.vm.findClass R_Ro = some m.cls := findClass_of_methodNamed B.named
  have G : gx_G p m c b_Ro_copyFrom 3 s _ gx_tb R_Ro D dA := ⟨⟨hx, hb, hml, hown, ht⟩, hK⟩
  have hI : gx_I D dA adr A s.heap σ s.heap [] := ⟨hP, va_S.rf⟩
  have hl := lv_entry ([.ref (adr o0), .ref (adr q0)]) (n := 3) (Nat.le_of_ble_eq_true rfl)
  rw [lg_entry_eq]
  generalize (lg_sl ([.ref (adr o0), .ref (adr q0)]) ++ List.replicate (3 - (lg_sl ([.ref (adr o0), .ref (adr q0)])).length) Slot.unset).toArray = ls at hl ⊢
  have hl : lv_has ls 3 [(0, .ref (adr o0)), (1, .ref (adr q0))] := hl
  rw [fn_Ro_copyFrom] at hf
  obtain ⟨ho0, hf⟩ := gx_gd hf
  obtain ⟨hq0, hf⟩ := gx_gd hf
  refine lv_aload_n hx hb d_Ro_copyFrom_0 rfl (lv_at hl 0 rfl) ?_
  refine lv_aload_n hx hb d_Ro_copyFrom_1 rfl (lv_at hl 1 rfl) ?_
  refine gx_getI G hI cl_Ro (gx_ci_r hq0) 1 (by decide) (gx_rf_r hq0 (by decide)) fl_Ro_20 d_Ro_copyFrom_2 ?_
  obtain ⟨σ_1, eσ_1, hf⟩ := gx_lte hf
  refine gx_put G hI hA cl_Ro (gx_ci_r ho0) 1 (by decide) (gx_rf_r ho0 (by decide)) fl_Ro_20 rfl rfl rfl eσ_1 d_Ro_copyFrom_5 (fun H locs hI => ?_)
  refine lv_aload_n hx hb d_Ro_copyFrom_8 rfl (lv_at hl 0 rfl) ?_
  refine lv_aload_n hx hb d_Ro_copyFrom_9 rfl (lv_at hl 1 rfl) ?_
  refine gx_getI G hI cl_Ro (gx_ci_r hq0) 2 (by decide) (gx_rf_r hq0 (by decide)) fl_Ro_24 d_Ro_copyFrom_10 ?_
  obtain ⟨σ_2, eσ_2, hf⟩ := gx_lte hf
  refine gx_put G hI hA cl_Ro (gx_ci_r ho0) 2 (by decide) (gx_rf_r ho0 (by decide)) fl_Ro_24 rfl rfl rfl eσ_2 d_Ro_copyFrom_13 (fun H locs hI => ?_)
  refine lv_iconst (v := 0) hx hb d_Ro_copyFrom_16 (by decide) ?_
  refine lv_istore_n (i := 2) (lv' := [(2, .int ((0 : Int32))), (0, .ref (adr o0)), (1, .ref (adr q0))]) hx hb d_Ro_copyFrom_17 rfl hl (by decide) rfl (fun ls hl => ?_)
  exact wl_Ro_copyFrom_L18 G hr hlocks hA N _ o0 q0 ho0 hq0 N ((0 : Int32)) σ_2 _ _ ls hf hI (lv_sub hl [0, 1, 2] rfl)
def fn_Ro_find (N : Nat) (o0 : Nat) (p0 : Int32) (σ : gx_M) : Option (Option Nat × gx_M) := if 8 ≤ o0 ∧ o0 < 25 then (if p0 < 0 then (some (none, σ)) else (if (σ o0 1) ≤ p0 then (some (none, σ)) else (if 0 ≤ p0 ∧ p0 < 40 then (some (some (gx_el (o0 + 17) p0.toNatClampNeg), σ)) else none))) else none
set_option maxHeartbeats 4000000 in
set_option maxRecDepth 100000 in
theorem ct_Ro_find (l : Launch) (D : va_G) (dA : Nat → ClassId) (adr : Nat → Nat) (A : Nat → Prop) (hA : gx_A A adr) (N : Nat) (o0 : Nat) (p0 : Int32) (σ : gx_M) (r : Option Nat) (σ' : gx_M) (hf : fn_Ro_find N o0 p0 σ = some (r, σ')) : Met l y_Ro_find w_Ro_find rm_Ro_find (gx_Pc D dA adr σ [.ref (adr o0), .int p0]) (gx_Q D dA adr A (some (va_rf (Option.map adr r))) σ') 0 0 A := by
  refine Met.ofW (cc := b_Ro_find) (maxL := 2) (ret := some (.object R_Jb)) (by decide) rfl ?_
  intro p e s m args below meth c s₁ B hml hv
  obtain ⟨rfl, hP, hK⟩ := hv
  have hx := B.exec
  have hb := B.bytes
  have hr := B.returns
  have hlocks := B.notSynchronized
  have ht : ∀ w ∈ gx_tb, w.before _ s = true := fun w h => atoms_spec (ws := w_Ro_find) B.pre w (List.mem_cons_of_mem _ h)
  have hown : s.vm.findClass R_Ro = some m.cls := findClass_of_methodNamed B.named
  have G : gx_G p m c b_Ro_find 2 s _ gx_tb R_Ro D dA := ⟨⟨hx, hb, hml, hown, ht⟩, hK⟩
  have hI : gx_I D dA adr A s.heap σ s.heap [] := ⟨hP, va_S.rf⟩
  have hl := lv_entry ([.ref (adr o0), .int p0]) (n := 2) (Nat.le_of_ble_eq_true rfl)
  rw [lg_entry_eq]
  generalize (lg_sl ([.ref (adr o0), .int p0]) ++ List.replicate (2 - (lg_sl ([.ref (adr o0), .int p0])).length) Slot.unset).toArray = ls at hl ⊢
  have hl : lv_has ls 2 [(0, .ref (adr o0)), (1, .int p0)] := hl
  rw [fn_Ro_find] at hf
  obtain ⟨ho0, hf⟩ := gx_gd hf
  refine lv_iload_n hx hb d_Ro_find_0 rfl (lv_at hl 1 rfl) ?_
  refine lv_if_lt (tgt := 21) hx hb d_Ro_find_1 (by decide) (fun c_1 => ?_) (fun c_1 => ?_)
  · replace hf := (if_pos c_1).symm.trans hf
    refine lv_null hx hb d_Ro_find_21 ?_
    cases hf
    exact W.aret (v := .null) hx hb hr (Or.inl ⟨_, rfl⟩) (Or.inl rfl) (gx_F hI) hI.2.2.2 d_Ro_find_22
  · replace hf := (if_neg c_1).symm.trans hf
    refine lv_iload_n hx hb d_Ro_find_4 rfl (lv_at hl 1 rfl) ?_
    refine lv_aload_n hx hb d_Ro_find_5 rfl (lv_at hl 0 rfl) ?_
    refine gx_getI G hI cl_Ro (gx_ci_r ho0) 1 (by decide) (gx_rf_r ho0 (by decide)) fl_Ro_20 d_Ro_find_6 ?_
    refine lv_icmp_ge (tgt := 21) hx hb d_Ro_find_9 (by decide) (fun c_2 => ?_) (fun c_2 => ?_)
    · replace hf := (if_pos c_2).symm.trans hf
      refine lv_null hx hb d_Ro_find_21 ?_
      cases hf
      exact W.aret (v := .null) hx hb hr (Or.inl ⟨_, rfl⟩) (Or.inl rfl) (gx_F hI) hI.2.2.2 d_Ro_find_22
    · replace hf := (if_neg c_2).symm.trans hf
      refine lv_aload_n hx hb d_Ro_find_12 rfl (lv_at hl 0 rfl) ?_
      refine gx_getR (o' := o0 + 17) G hI cl_Ro (gx_ci_r ho0) 0 (by decide) (gx_rf_r0 ho0) fl_Ro_11 d_Ro_find_13 ?_
      refine lv_iload_n hx hb d_Ro_find_16 rfl (lv_at hl 1 rfl) ?_
      obtain ⟨hi_3, hf⟩ := gx_gd hf
      refine gx_aldJ G hI ho0 hi_3 d_Ro_find_17 ?_
      refine lv_goto (tgt := 22) hx hb d_Ro_find_18 (by decide) ?_
      cases hf
      exact W.aret hx hb hr (Or.inl ⟨_, rfl⟩) (Or.inr ⟨_, rfl⟩) (gx_F hI) hI.2.2.2 d_Ro_find_22
def fn_Ro_make (N : Nat) (o0 : Nat) (p0 : Int32) (p1 : Int32) (σ : gx_M) : Option (Option Nat × gx_M) := if 8 ≤ o0 ∧ o0 < 25 then (if (σ o0 1) < ((40 : Int32)) then (if 0 ≤ (σ o0 1) ∧ (σ o0 1) < 40 then (gx_lt (gx_up σ o0 1 ((σ o0 1) + ((1 : Int32)))) (fun σ_3 => gx_bv (fn_Jb_begin N (gx_el (o0 + 17) (σ o0 1).toNatClampNeg) p0 p1 σ_3) (fun σ_4 => some (some (gx_el (o0 + 17) (σ o0 1).toNatClampNeg), σ_4)))) else none) else (some (none, σ))) else none
set_option maxHeartbeats 4000000 in
set_option maxRecDepth 100000 in
theorem ct_Ro_make (l : Launch) (D : va_G) (dA : Nat → ClassId) (adr : Nat → Nat) (A : Nat → Prop) (hA : gx_A A adr) (N : Nat) (o0 : Nat) (p0 : Int32) (p1 : Int32) (σ : gx_M) (r : Option Nat) (σ' : gx_M) (hf : fn_Ro_make N o0 p0 p1 σ = some (r, σ')) : Met l y_Ro_make w_Ro_make rm_Ro_make (gx_Pc D dA adr σ [.ref (adr o0), .int p0, .int p1]) (gx_Q D dA adr A (some (va_rf (Option.map adr r))) σ') 0 0 A := by
  refine Met.ofW (cc := b_Ro_make) (maxL := 4) (ret := some (.object R_Jb)) (by decide) rfl ?_
  intro p e s m args below meth c s₁ B hml hv
  obtain ⟨rfl, hP, hK⟩ := hv
  have hx := B.exec
  have hb := B.bytes
  have hr := B.returns
  have hlocks := B.notSynchronized
  have ht : ∀ w ∈ gx_tb, w.before _ s = true := fun w h => atoms_spec (ws := w_Ro_make) B.pre w (List.mem_cons_of_mem _ h)
  have hown : s.vm.findClass R_Ro = some m.cls := findClass_of_methodNamed B.named
  have G : gx_G p m c b_Ro_make 4 s _ gx_tb R_Ro D dA := ⟨⟨hx, hb, hml, hown, ht⟩, hK⟩
  have hI : gx_I D dA adr A s.heap σ s.heap [] := ⟨hP, va_S.rf⟩
  have hl := lv_entry ([.ref (adr o0), .int p0, .int p1]) (n := 4) (Nat.le_of_ble_eq_true rfl)
  rw [lg_entry_eq]
  generalize (lg_sl ([.ref (adr o0), .int p0, .int p1]) ++ List.replicate (4 - (lg_sl ([.ref (adr o0), .int p0, .int p1])).length) Slot.unset).toArray = ls at hl ⊢
  have hl : lv_has ls 4 [(0, .ref (adr o0)), (1, .int p0), (2, .int p1)] := hl
  rw [fn_Ro_make] at hf
  obtain ⟨ho0, hf⟩ := gx_gd hf
  refine lv_aload_n hx hb d_Ro_make_0 rfl (lv_at hl 0 rfl) ?_
  refine gx_getI G hI cl_Ro (gx_ci_r ho0) 1 (by decide) (gx_rf_r ho0 (by decide)) fl_Ro_20 d_Ro_make_1 ?_
  refine lv_bipush (v := 40) hx hb d_Ro_make_4 (by decide) ?_
  refine lv_icmp_lt (tgt := 11) hx hb d_Ro_make_6 (by decide) (fun c_1 => ?_) (fun c_1 => ?_)
  · replace hf := (if_pos c_1).symm.trans hf
    refine lv_aload_n hx hb d_Ro_make_11 rfl (lv_at hl 0 rfl) ?_
    refine gx_getR (o' := o0 + 17) G hI cl_Ro (gx_ci_r ho0) 0 (by decide) (gx_rf_r0 ho0) fl_Ro_11 d_Ro_make_12 ?_
    refine lv_aload_n hx hb d_Ro_make_15 rfl (lv_at hl 0 rfl) ?_
    refine gx_getI G hI cl_Ro (gx_ci_r ho0) 1 (by decide) (gx_rf_r ho0 (by decide)) fl_Ro_20 d_Ro_make_16 ?_
    obtain ⟨hi_2, hf⟩ := gx_gd hf
    refine gx_aldJ G hI ho0 hi_2 d_Ro_make_19 ?_
    refine lv_astore_n (i := 3) (lv' := [(3, .ref (adr (gx_el (o0 + 17) (σ o0 1).toNatClampNeg))), (0, .ref (adr o0)), (1, .int p0), (2, .int p1)]) hx hb d_Ro_make_20 rfl hl (by decide) rfl (fun ls hl => ?_)
    refine lv_aload_n hx hb d_Ro_make_21 rfl (lv_at hl 1 rfl) ?_
    refine lv_dup hx hb d_Ro_make_22 rfl ?_
    refine gx_getI G hI cl_Ro (gx_ci_r ho0) 1 (by decide) (gx_rf_r ho0 (by decide)) fl_Ro_20 d_Ro_make_23 ?_
    refine lv_iconst (v := 1) hx hb d_Ro_make_26 (by decide) ?_
    refine lv_iadd hx hb d_Ro_make_27 ?_
    obtain ⟨σ_3, eσ_3, hf⟩ := gx_lte hf
    refine gx_put G hI hA cl_Ro (gx_ci_r ho0) 1 (by decide) (gx_rf_r ho0 (by decide)) fl_Ro_20 rfl rfl rfl eσ_3 d_Ro_make_28 (fun H locs hI => ?_)
    refine lv_aload_n hx hb d_Ro_make_31 rfl (lv_at hl 0 rfl) ?_
    refine lv_iload_n hx hb d_Ro_make_32 rfl (lv_at hl 2 rfl) ?_
    refine lv_iload_n hx hb d_Ro_make_33 rfl (lv_at hl 3 rfl) ?_
    obtain ⟨σ_4, hc_5, hf⟩ := gx_bve hf
    refine gx_go (va_runV (As := [.int p0, .int p1]) (rest := []) G.1 (ct_Jb_begin l D dA adr A hA N (gx_el (o0 + 17) (σ o0 1).toNatClampNeg) p0 p1 σ_3 σ_4 hc_5) (cwV 2 ht gi_Ro_31 rfl rfl rfl (by decide +kernel) ⟨Nat.le_of_ble_eq_true rfl, Nat.le_of_ble_eq_true rfl⟩) (gx_preV G hI cl_Jb (gx_ci_j (gx_el_j ho0 hi_2))) rfl rfl hl.1 rfl (lv_room (Nat.le_of_ble_eq_true rfl)) d_Ro_make_34 ⟨Nat.zero_le _, Nat.zero_le _⟩) hI (st1 := []) rfl (fun H locs hI => ?_)
    refine lv_aload_n hx hb d_Ro_make_37 rfl (lv_at hl 0 rfl) ?_
    cases hf
    exact W.aret hx hb hr (Or.inl ⟨_, rfl⟩) (Or.inr ⟨_, rfl⟩) (gx_F hI) hI.2.2.2 d_Ro_make_38
  · replace hf := (if_neg c_1).symm.trans hf
    refine lv_null hx hb d_Ro_make_9 ?_
    cases hf
    exact W.aret (v := .null) hx hb hr (Or.inl ⟨_, rfl⟩) (Or.inl rfl) (gx_F hI) hI.2.2.2 d_Ro_make_10
def fn_Ro_enter (N : Nat) (o0 : Nat) (q0 : Nat) (p1 : Int32) (σ : gx_M) : Option gx_M := if 8 ≤ o0 ∧ o0 < 25 then (if 42 ≤ q0 ∧ q0 < 722 then (gx_lt (gx_up σ q0 10 p1) (fun σ_1 => gx_lt (gx_up σ_1 q0 13 (σ_1 o0 2)) (fun σ_2 => gx_lt (gx_up σ_2 o0 2 ((σ_2 o0 2) + ((1 : Int32)))) (fun σ_3 => some σ_3)))) else none) else none
set_option maxHeartbeats 4000000 in
set_option maxRecDepth 100000 in
theorem ct_Ro_enter (l : Launch) (D : va_G) (dA : Nat → ClassId) (adr : Nat → Nat) (A : Nat → Prop) (hA : gx_A A adr) (N : Nat) (o0 : Nat) (q0 : Nat) (p1 : Int32) (σ : gx_M) (σ' : gx_M) (hf : fn_Ro_enter N o0 q0 p1 σ = some σ') : Met l y_Ro_enter w_Ro_enter rm_Ro_enter (gx_Pc D dA adr σ [.ref (adr o0), .ref (adr q0), .int p1]) (gx_Q D dA adr A none σ') 0 0 A := by
  refine Met.ofW (cc := b_Ro_enter) (maxL := 3) (ret := none) (by decide) rfl ?_
  intro p e s m args below meth c s₁ B hml hv
  obtain ⟨rfl, hP, hK⟩ := hv
  have hx := B.exec
  have hb := B.bytes
  have hr := B.returns
  have hlocks := B.notSynchronized
  have ht : ∀ w ∈ gx_tb, w.before _ s = true := fun w h => atoms_spec (ws := w_Ro_enter) B.pre w (List.mem_cons_of_mem _ h)
  have hown : s.vm.findClass R_Ro = some m.cls := findClass_of_methodNamed B.named
  have G : gx_G p m c b_Ro_enter 3 s _ gx_tb R_Ro D dA := ⟨⟨hx, hb, hml, hown, ht⟩, hK⟩
  have hI : gx_I D dA adr A s.heap σ s.heap [] := ⟨hP, va_S.rf⟩
  have hl := lv_entry ([.ref (adr o0), .ref (adr q0), .int p1]) (n := 3) (Nat.le_of_ble_eq_true rfl)
  rw [lg_entry_eq]
  generalize (lg_sl ([.ref (adr o0), .ref (adr q0), .int p1]) ++ List.replicate (3 - (lg_sl ([.ref (adr o0), .ref (adr q0), .int p1])).length) Slot.unset).toArray = ls at hl ⊢
  have hl : lv_has ls 3 [(0, .ref (adr o0)), (1, .ref (adr q0)), (2, .int p1)] := hl
  rw [fn_Ro_enter] at hf
  obtain ⟨ho0, hf⟩ := gx_gd hf
  obtain ⟨hq0, hf⟩ := gx_gd hf
  refine lv_aload_n hx hb d_Ro_enter_0 rfl (lv_at hl 1 rfl) ?_
  refine lv_iload_n hx hb d_Ro_enter_1 rfl (lv_at hl 2 rfl) ?_
  obtain ⟨σ_1, eσ_1, hf⟩ := gx_lte hf
  refine gx_put G hI hA cl_Jb (gx_ci_j hq0) 10 (by decide) (gx_rf_j hq0 10) fl_Ro_35 rfl rfl rfl eσ_1 d_Ro_enter_2 (fun H locs hI => ?_)
  refine lv_aload_n hx hb d_Ro_enter_5 rfl (lv_at hl 1 rfl) ?_
  refine lv_aload_n hx hb d_Ro_enter_6 rfl (lv_at hl 0 rfl) ?_
  refine gx_getI G hI cl_Ro (gx_ci_r ho0) 2 (by decide) (gx_rf_r ho0 (by decide)) fl_Ro_24 d_Ro_enter_7 ?_
  obtain ⟨σ_2, eσ_2, hf⟩ := gx_lte hf
  refine gx_put G hI hA cl_Jb (gx_ci_j hq0) 13 (by decide) (gx_rf_j hq0 13) fl_Ro_38 rfl rfl rfl eσ_2 d_Ro_enter_10 (fun H locs hI => ?_)
  refine lv_aload_n hx hb d_Ro_enter_13 rfl (lv_at hl 0 rfl) ?_
  refine lv_dup hx hb d_Ro_enter_14 rfl ?_
  refine gx_getI G hI cl_Ro (gx_ci_r ho0) 2 (by decide) (gx_rf_r ho0 (by decide)) fl_Ro_24 d_Ro_enter_15 ?_
  refine lv_iconst (v := 1) hx hb d_Ro_enter_18 (by decide) ?_
  refine lv_iadd hx hb d_Ro_enter_19 ?_
  obtain ⟨σ_3, eσ_3, hf⟩ := gx_lte hf
  refine gx_put G hI hA cl_Ro (gx_ci_r ho0) 2 (by decide) (gx_rf_r ho0 (by decide)) fl_Ro_24 rfl rfl rfl eσ_3 d_Ro_enter_20 (fun H locs hI => ?_)
  cases hf
  exact W.vret hx hb hr (gx_F hI) hI.2.2.2 d_Ro_enter_23
def fn_Ro_releaseIfComplete (N : Nat) (o0 : Nat) (q0 : Nat) (σ : gx_M) : Option gx_M := if 8 ≤ o0 ∧ o0 < 25 then (if 42 ≤ q0 ∧ q0 < 722 then (if (σ q0 10) = ((6 : Int32)) then (if (σ q0 9) = 0 then (some σ) else (if (σ q0 8) = 0 then (gx_bv (fn_Ro_enter N o0 q0 ((1 : Int32)) σ) (fun σ_4 => some σ_4)) else (some σ))) else (some σ)) else none) else none
set_option maxHeartbeats 4000000 in
set_option maxRecDepth 100000 in
theorem ct_Ro_releaseIfComplete (l : Launch) (D : va_G) (dA : Nat → ClassId) (adr : Nat → Nat) (A : Nat → Prop) (hA : gx_A A adr) (N : Nat) (o0 : Nat) (q0 : Nat) (σ : gx_M) (σ' : gx_M) (hf : fn_Ro_releaseIfComplete N o0 q0 σ = some σ') : Met l y_Ro_releaseIfComplete w_Ro_releaseIfComplete rm_Ro_releaseIfComplete (gx_Pc D dA adr σ [.ref (adr o0), .ref (adr q0)]) (gx_Q D dA adr A none σ') 0 0 A := by
  refine Met.ofW (cc := b_Ro_releaseIfComplete) (maxL := 2) (ret := none) (by decide) rfl ?_
  intro p e s m args below meth c s₁ B hml hv
  obtain ⟨rfl, hP, hK⟩ := hv
  have hx := B.exec
  have hb := B.bytes
  have hr := B.returns
  have hlocks := B.notSynchronized
  have ht : ∀ w ∈ gx_tb, w.before _ s = true := fun w h => atoms_spec (ws := w_Ro_releaseIfComplete) B.pre w (List.mem_cons_of_mem _ h)
  have hown : s.vm.findClass R_Ro = some m.cls := findClass_of_methodNamed B.named
  have G : gx_G p m c b_Ro_releaseIfComplete 2 s _ gx_tb R_Ro D dA := ⟨⟨hx, hb, hml, hown, ht⟩, hK⟩
  have hI : gx_I D dA adr A s.heap σ s.heap [] := ⟨hP, va_S.rf⟩
  have hl := lv_entry ([.ref (adr o0), .ref (adr q0)]) (n := 2) (Nat.le_of_ble_eq_true rfl)
  rw [lg_entry_eq]
  generalize (lg_sl ([.ref (adr o0), .ref (adr q0)]) ++ List.replicate (2 - (lg_sl ([.ref (adr o0), .ref (adr q0)])).length) Slot.unset).toArray = ls at hl ⊢
  have hl : lv_has ls 2 [(0, .ref (adr o0)), (1, .ref (adr q0))] := hl
  rw [fn_Ro_releaseIfComplete] at hf
  obtain ⟨ho0, hf⟩ := gx_gd hf
  obtain ⟨hq0, hf⟩ := gx_gd hf
  refine lv_aload_n hx hb d_Ro_releaseIfComplete_0 rfl (lv_at hl 1 rfl) ?_
  refine gx_getI G hI cl_Jb (gx_ci_j hq0) 10 (by decide) (gx_rf_j hq0 10) fl_Ro_35 d_Ro_releaseIfComplete_1 ?_
  refine lv_bipush (v := 6) hx hb d_Ro_releaseIfComplete_4 (by decide) ?_
  refine lv_icmp_ne (tgt := 29) hx hb d_Ro_releaseIfComplete_6 (by decide) (fun c_1 => ?_) (fun c_1 => ?_)
  · replace hf := (if_neg c_1).symm.trans hf
    cases hf
    exact W.vret hx hb hr (gx_F hI) hI.2.2.2 d_Ro_releaseIfComplete_29
  · replace hf := (if_pos c_1).symm.trans hf
    refine lv_aload_n hx hb d_Ro_releaseIfComplete_9 rfl (lv_at hl 1 rfl) ?_
    refine gx_getI G hI cl_Jb (gx_ci_j hq0) 9 (by decide) (gx_rf_j hq0 9) fl_Ro_41 d_Ro_releaseIfComplete_10 ?_
    refine lv_if_eq (tgt := 29) hx hb d_Ro_releaseIfComplete_13 (by decide) (fun c_2 => ?_) (fun c_2 => ?_)
    · replace hf := (if_pos c_2).symm.trans hf
      cases hf
      exact W.vret hx hb hr (gx_F hI) hI.2.2.2 d_Ro_releaseIfComplete_29
    · replace hf := (if_neg c_2).symm.trans hf
      refine lv_aload_n hx hb d_Ro_releaseIfComplete_16 rfl (lv_at hl 1 rfl) ?_
      refine gx_getI G hI cl_Jb (gx_ci_j hq0) 8 (by decide) (gx_rf_j hq0 8) fl_Ro_45 d_Ro_releaseIfComplete_17 ?_
      refine lv_if_ne (tgt := 29) hx hb d_Ro_releaseIfComplete_20 (by decide) (fun c_3 => ?_) (fun c_3 => ?_)
      · replace hf := (if_neg c_3).symm.trans hf
        cases hf
        exact W.vret hx hb hr (gx_F hI) hI.2.2.2 d_Ro_releaseIfComplete_29
      · replace hf := (if_pos c_3).symm.trans hf
        refine lv_aload_n hx hb d_Ro_releaseIfComplete_23 rfl (lv_at hl 0 rfl) ?_
        refine lv_aload_n hx hb d_Ro_releaseIfComplete_24 rfl (lv_at hl 1 rfl) ?_
        refine lv_iconst (v := 1) hx hb d_Ro_releaseIfComplete_25 (by decide) ?_
        obtain ⟨σ_4, hc_5, hf⟩ := gx_bve hf
        refine gx_go (va_runV (As := [.ref (adr q0), .int ((1 : Int32))]) (rest := []) G.1 (ct_Ro_enter l D dA adr A hA N o0 q0 ((1 : Int32)) σ σ_4 hc_5) (cwV 2 ht gi_Ro_48 rfl rfl rfl (by decide +kernel) ⟨Nat.le_of_ble_eq_true rfl, Nat.le_of_ble_eq_true rfl⟩) (gx_preV G hI cl_Ro (gx_ci_r ho0)) rfl rfl hl.1 rfl (lv_room (Nat.le_of_ble_eq_true rfl)) d_Ro_releaseIfComplete_26 ⟨Nat.zero_le _, Nat.zero_le _⟩) hI (st1 := []) rfl (fun H locs hI => ?_)
        cases hf
        exact W.vret hx hb hr (gx_F hI) hI.2.2.2 d_Ro_releaseIfComplete_29
def fn_Ro_releaseReserved_L2 (N : Nat) (u0 : Nat) : Nat → Int32 → gx_M → Option gx_M
  | 0, _, _ => none
  | n + 1, v1, σ => if (σ u0 1) ≤ v1 then (some σ) else (if 0 ≤ v1 ∧ v1 < 40 then (if (σ (gx_el (u0 + 17) v1.toNatClampNeg) 10) = ((2 : Int32)) then (if 0 ≤ v1 ∧ v1 < 40 then (gx_bv (fn_Ro_enter N u0 (gx_el (u0 + 17) v1.toNatClampNeg) ((1 : Int32)) σ) (fun σ_5 => fn_Ro_releaseReserved_L2 N u0 n (v1 + 1) σ_5)) else none) else (fn_Ro_releaseReserved_L2 N u0 n (v1 + 1) σ)) else none)
def fn_Ro_releaseReserved (N : Nat) (o0 : Nat) (σ : gx_M) : Option gx_M := if 8 ≤ o0 ∧ o0 < 25 then (fn_Ro_releaseReserved_L2 N o0 N ((0 : Int32)) σ) else none
set_option maxHeartbeats 4000000 in
set_option maxRecDepth 100000 in
theorem wl_Ro_releaseReserved_L2 {p : Program} {l : Launch} {e : Env} {s : State} {m : MethodId} {args : Array Value} {below : List Frame} {meth : Method} {c : Code} {D : va_G} {dA : Nat → ClassId} {adr : Nat → Nat} {A : Nat → Prop} (G : gx_G p m c b_Ro_releaseReserved 2 s args gx_tb R_Ro D dA) (hr : meth.sig.returnType = none) (hlocks : meth.locks = false) (hA : gx_A A adr) (N : Nat) (res : gx_M) (u0 : Nat) (hu0 : 8 ≤ u0 ∧ u0 < 25) : ∀ (n : Nat) (v1 : Int32) (σ : gx_M) (H : Heap) (locs : List Loc) (ls : Array Slot), fn_Ro_releaseReserved_L2 N u0 n v1 σ = some res → gx_I D dA adr A s.heap σ H locs → lv_has ls 2 [(1, .int v1), (0, .ref (adr u0))] → W p l e (headSpec w_Ro_releaseReserved rm_Ro_releaseReserved).room s m args below meth c H locs 0 0 (MQ below (gx_Q D dA adr A none res) args s 0 0 A) (F0 m 2 ls []) := by
  obtain ⟨⟨hx, hb, hml, hown, ht⟩, hK⟩ := id G
  intro n
  induction n with
  | zero =>
    intro v1 σ H locs ls hf
    cases hf
  | succ n ih =>
    intro v1 σ H locs ls hf hI hl
    rw [fn_Ro_releaseReserved_L2] at hf
    refine lv_iload_n hx hb d_Ro_releaseReserved_2 rfl (lv_at hl 0 rfl) ?_
    refine lv_aload_n hx hb d_Ro_releaseReserved_3 rfl (lv_at hl 1 rfl) ?_
    refine gx_getI G hI cl_Ro (gx_ci_r hu0) 1 (by decide) (gx_rf_r hu0 (by decide)) fl_Ro_20 d_Ro_releaseReserved_4 ?_
    refine lv_icmp_ge (tgt := 40) hx hb d_Ro_releaseReserved_7 (by decide) (fun c_1 => ?_) (fun c_1 => ?_)
    · replace hf := (if_pos c_1).symm.trans hf
      cases hf
      exact W.vret hx hb hr (gx_F hI) hI.2.2.2 d_Ro_releaseReserved_40
    · replace hf := (if_neg c_1).symm.trans hf
      refine lv_aload_n hx hb d_Ro_releaseReserved_10 rfl (lv_at hl 1 rfl) ?_
      refine gx_getR (o' := u0 + 17) G hI cl_Ro (gx_ci_r hu0) 0 (by decide) (gx_rf_r0 hu0) fl_Ro_11 d_Ro_releaseReserved_11 ?_
      refine lv_iload_n hx hb d_Ro_releaseReserved_14 rfl (lv_at hl 0 rfl) ?_
      obtain ⟨hi_2, hf⟩ := gx_gd hf
      refine gx_aldJ G hI hu0 hi_2 d_Ro_releaseReserved_15 ?_
      refine gx_getI G hI cl_Jb (gx_ci_j (gx_el_j hu0 hi_2)) 10 (by decide) (gx_rf_j (gx_el_j hu0 hi_2) 10) fl_Ro_35 d_Ro_releaseReserved_16 ?_
      refine lv_iconst (v := 2) hx hb d_Ro_releaseReserved_19 (by decide) ?_
      refine lv_icmp_ne (tgt := 34) hx hb d_Ro_releaseReserved_20 (by decide) (fun c_3 => ?_) (fun c_3 => ?_)
      · replace hf := (if_neg c_3).symm.trans hf
        refine lv_iinc (v := v1 + 1) (lv' := [(1, .int (v1 + 1)), (0, .ref (adr u0))]) hx hb d_Ro_releaseReserved_34 hl (k := 0) rfl rfl (by decide) rfl (fun ls hl => ?_)
        refine lv_goto (tgt := 2) hx hb d_Ro_releaseReserved_37 (by decide) ?_
        exact ih (v1 + 1) σ H locs ls hf hI (lv_sub hl [0, 1] rfl)
      · replace hf := (if_pos c_3).symm.trans hf
        refine lv_aload_n hx hb d_Ro_releaseReserved_23 rfl (lv_at hl 1 rfl) ?_
        refine lv_aload_n hx hb d_Ro_releaseReserved_24 rfl (lv_at hl 1 rfl) ?_
        refine gx_getR (o' := u0 + 17) G hI cl_Ro (gx_ci_r hu0) 0 (by decide) (gx_rf_r0 hu0) fl_Ro_11 d_Ro_releaseReserved_25 ?_
        refine lv_iload_n hx hb d_Ro_releaseReserved_28 rfl (lv_at hl 0 rfl) ?_
        obtain ⟨hi_4, hf⟩ := gx_gd hf
        refine gx_aldJ G hI hu0 hi_4 d_Ro_releaseReserved_29 ?_
        refine lv_iconst (v := 1) hx hb d_Ro_releaseReserved_30 (by decide) ?_
        obtain ⟨σ_5, hc_6, hf⟩ := gx_bve hf
        refine gx_go (va_runV (As := [.ref (adr (gx_el (u0 + 17) v1.toNatClampNeg)), .int ((1 : Int32))]) (rest := []) G.1 (ct_Ro_enter l D dA adr A hA N u0 (gx_el (u0 + 17) v1.toNatClampNeg) ((1 : Int32)) σ σ_5 hc_6) (cwV 2 ht gi_Ro_48 rfl rfl rfl (by decide +kernel) ⟨Nat.le_of_ble_eq_true rfl, Nat.le_of_ble_eq_true rfl⟩) (gx_preV G hI cl_Ro (gx_ci_r hu0)) rfl rfl hl.1 rfl (lv_room (Nat.le_of_ble_eq_true rfl)) d_Ro_releaseReserved_31 ⟨Nat.zero_le _, Nat.zero_le _⟩) hI (st1 := []) rfl (fun H locs hI => ?_)
        refine lv_iinc (v := v1 + 1) (lv' := [(1, .int (v1 + 1)), (0, .ref (adr u0))]) hx hb d_Ro_releaseReserved_34 hl (k := 0) rfl rfl (by decide) rfl (fun ls hl => ?_)
        refine lv_goto (tgt := 2) hx hb d_Ro_releaseReserved_37 (by decide) ?_
        exact ih (v1 + 1) σ_5 H locs ls hf hI (lv_sub hl [0, 1] rfl)
set_option maxHeartbeats 4000000 in
set_option maxRecDepth 100000 in
theorem ct_Ro_releaseReserved (l : Launch) (D : va_G) (dA : Nat → ClassId) (adr : Nat → Nat) (A : Nat → Prop) (hA : gx_A A adr) (N : Nat) (o0 : Nat) (σ : gx_M) (σ' : gx_M) (hf : fn_Ro_releaseReserved N o0 σ = some σ') : Met l y_Ro_releaseReserved w_Ro_releaseReserved rm_Ro_releaseReserved (gx_Pc D dA adr σ [.ref (adr o0)]) (gx_Q D dA adr A none σ') 0 0 A := by
  refine Met.ofW (cc := b_Ro_releaseReserved) (maxL := 2) (ret := none) (by decide) rfl ?_
  intro p e s m args below meth c s₁ B hml hv
  obtain ⟨rfl, hP, hK⟩ := hv
  have hx := B.exec
  have hb := B.bytes
  have hr := B.returns
  have hlocks := B.notSynchronized
  have ht : ∀ w ∈ gx_tb, w.before _ s = true := fun w h => atoms_spec (ws := w_Ro_releaseReserved) B.pre w (List.mem_cons_of_mem _ h)
  have hown : s.vm.findClass R_Ro = some m.cls := findClass_of_methodNamed B.named
  have G : gx_G p m c b_Ro_releaseReserved 2 s _ gx_tb R_Ro D dA := ⟨⟨hx, hb, hml, hown, ht⟩, hK⟩
  have hI : gx_I D dA adr A s.heap σ s.heap [] := ⟨hP, va_S.rf⟩
  have hl := lv_entry ([.ref (adr o0)]) (n := 2) (Nat.le_of_ble_eq_true rfl)
  rw [lg_entry_eq]
  generalize (lg_sl ([.ref (adr o0)]) ++ List.replicate (2 - (lg_sl ([.ref (adr o0)])).length) Slot.unset).toArray = ls at hl ⊢
  have hl : lv_has ls 2 [(0, .ref (adr o0))] := hl
  rw [fn_Ro_releaseReserved] at hf
  obtain ⟨ho0, hf⟩ := gx_gd hf
  refine lv_iconst (v := 0) hx hb d_Ro_releaseReserved_0 (by decide) ?_
  refine lv_istore_n (i := 1) (lv' := [(1, .int ((0 : Int32))), (0, .ref (adr o0))]) hx hb d_Ro_releaseReserved_1 rfl hl (by decide) rfl (fun ls hl => ?_)
  exact wl_Ro_releaseReserved_L2 G hr hlocks hA N _ o0 ho0 N ((0 : Int32)) σ _ _ ls hf hI (lv_sub hl [0, 1] rfl)
def fn_Ro_countIn_L4 (N : Nat) (u0 : Nat) (u1 : Int32) : Nat → Int32 → Int32 → gx_M → Option (Int32 × gx_M)
  | 0, _, _, _ => none
  | n + 1, v3, v2, σ => if (σ u0 1) ≤ v3 then (some (v2, σ)) else (if 0 ≤ v3 ∧ v3 < 40 then (if (σ (gx_el (u0 + 17) v3.toNatClampNeg) 10) = u1 then (fn_Ro_countIn_L4 N u0 u1 n (v3 + 1) (v2 + 1) σ) else (fn_Ro_countIn_L4 N u0 u1 n (v3 + 1) v2 σ)) else none)
def fn_Ro_countIn (N : Nat) (o0 : Nat) (p0 : Int32) (σ : gx_M) : Option (Int32 × gx_M) := if 8 ≤ o0 ∧ o0 < 25 then (fn_Ro_countIn_L4 N o0 p0 N ((0 : Int32)) ((0 : Int32)) σ) else none
set_option maxHeartbeats 4000000 in
set_option maxRecDepth 100000 in
theorem wl_Ro_countIn_L4 {p : Program} {l : Launch} {e : Env} {s : State} {m : MethodId} {args : Array Value} {below : List Frame} {meth : Method} {c : Code} {D : va_G} {dA : Nat → ClassId} {adr : Nat → Nat} {A : Nat → Prop} (G : gx_G p m c b_Ro_countIn 4 s args gx_tb R_Ro D dA) (hr : meth.sig.returnType = some .int) (hlocks : meth.locks = false) (hA : gx_A A adr) (N : Nat) (res : Int32 × gx_M) (u0 : Nat) (u1 : Int32) (hu0 : 8 ≤ u0 ∧ u0 < 25) : ∀ (n : Nat) (v3 : Int32) (v2 : Int32) (σ : gx_M) (H : Heap) (locs : List Loc) (ls : Array Slot), fn_Ro_countIn_L4 N u0 u1 n v3 v2 σ = some res → gx_I D dA adr A s.heap σ H locs → lv_has ls 4 [(3, .int v3), (2, .int v2), (0, .ref (adr u0)), (1, .int u1)] → W p l e (headSpec w_Ro_countIn rm_Ro_countIn).room s m args below meth c H locs 0 0 (MQ below (gx_Q D dA adr A (some (.int res.1)) res.2) args s 0 0 A) (F0 m 4 ls []) := by
  obtain ⟨⟨hx, hb, hml, hown, ht⟩, hK⟩ := id G
  intro n
  induction n with
  | zero =>
    intro v3 v2 σ H locs ls hf
    cases hf
  | succ n ih =>
    intro v3 v2 σ H locs ls hf hI hl
    rw [fn_Ro_countIn_L4] at hf
    refine lv_iload_n hx hb d_Ro_countIn_4 rfl (lv_at hl 0 rfl) ?_
    refine lv_aload_n hx hb d_Ro_countIn_5 rfl (lv_at hl 2 rfl) ?_
    refine gx_getI G hI cl_Ro (gx_ci_r hu0) 1 (by decide) (gx_rf_r hu0 (by decide)) fl_Ro_20 d_Ro_countIn_6 ?_
    refine lv_icmp_ge (tgt := 34) hx hb d_Ro_countIn_9 (by decide) (fun c_1 => ?_) (fun c_1 => ?_)
    · replace hf := (if_pos c_1).symm.trans hf
      refine lv_iload_n hx hb d_Ro_countIn_34 rfl (lv_at hl 1 rfl) ?_
      cases hf
      exact W.iret hx hb hr (gx_F hI) hI.2.2.2 d_Ro_countIn_35
    · replace hf := (if_neg c_1).symm.trans hf
      refine lv_aload_n hx hb d_Ro_countIn_12 rfl (lv_at hl 2 rfl) ?_
      refine gx_getR (o' := u0 + 17) G hI cl_Ro (gx_ci_r hu0) 0 (by decide) (gx_rf_r0 hu0) fl_Ro_11 d_Ro_countIn_13 ?_
      refine lv_iload_n hx hb d_Ro_countIn_16 rfl (lv_at hl 0 rfl) ?_
      obtain ⟨hi_2, hf⟩ := gx_gd hf
      refine gx_aldJ G hI hu0 hi_2 d_Ro_countIn_17 ?_
      refine gx_getI G hI cl_Jb (gx_ci_j (gx_el_j hu0 hi_2)) 10 (by decide) (gx_rf_j (gx_el_j hu0 hi_2) 10) fl_Ro_35 d_Ro_countIn_18 ?_
      refine lv_iload_n hx hb d_Ro_countIn_21 rfl (lv_at hl 3 rfl) ?_
      refine lv_icmp_ne (tgt := 28) hx hb d_Ro_countIn_22 (by decide) (fun c_3 => ?_) (fun c_3 => ?_)
      · replace hf := (if_neg c_3).symm.trans hf
        refine lv_iinc (v := v3 + 1) (lv' := [(3, .int (v3 + 1)), (2, .int v2), (0, .ref (adr u0)), (1, .int u1)]) hx hb d_Ro_countIn_28 hl (k := 0) rfl rfl (by decide) rfl (fun ls hl => ?_)
        refine lv_goto (tgt := 4) hx hb d_Ro_countIn_31 (by decide) ?_
        exact ih (v3 + 1) v2 σ H locs ls hf hI (lv_sub hl [0, 1, 2, 3] rfl)
      · replace hf := (if_pos c_3).symm.trans hf
        refine lv_iinc (v := v2 + 1) (lv' := [(2, .int (v2 + 1)), (3, .int v3), (0, .ref (adr u0)), (1, .int u1)]) hx hb d_Ro_countIn_25 hl (k := 1) rfl rfl (by decide) rfl (fun ls hl => ?_)
        refine lv_iinc (v := v3 + 1) (lv' := [(3, .int (v3 + 1)), (2, .int (v2 + 1)), (0, .ref (adr u0)), (1, .int u1)]) hx hb d_Ro_countIn_28 hl (k := 1) rfl rfl (by decide) rfl (fun ls hl => ?_)
        refine lv_goto (tgt := 4) hx hb d_Ro_countIn_31 (by decide) ?_
        exact ih (v3 + 1) (v2 + 1) σ H locs ls hf hI (lv_sub hl [0, 1, 2, 3] rfl)
set_option maxHeartbeats 4000000 in
set_option maxRecDepth 100000 in
theorem ct_Ro_countIn (l : Launch) (D : va_G) (dA : Nat → ClassId) (adr : Nat → Nat) (A : Nat → Prop) (hA : gx_A A adr) (N : Nat) (o0 : Nat) (p0 : Int32) (σ : gx_M) (r : Int32) (σ' : gx_M) (hf : fn_Ro_countIn N o0 p0 σ = some (r, σ')) : Met l y_Ro_countIn w_Ro_countIn rm_Ro_countIn (gx_Pc D dA adr σ [.ref (adr o0), .int p0]) (gx_Q D dA adr A (some (.int r)) σ') 0 0 A := by
  refine Met.ofW (cc := b_Ro_countIn) (maxL := 4) (ret := some .int) (by decide) rfl ?_
  intro p e s m args below meth c s₁ B hml hv
  obtain ⟨rfl, hP, hK⟩ := hv
  have hx := B.exec
  have hb := B.bytes
  have hr := B.returns
  have hlocks := B.notSynchronized
  have ht : ∀ w ∈ gx_tb, w.before _ s = true := fun w h => atoms_spec (ws := w_Ro_countIn) B.pre w (List.mem_cons_of_mem _ h)
  have hown : s.vm.findClass R_Ro = some m.cls := findClass_of_methodNamed B.named
  have G : gx_G p m c b_Ro_countIn 4 s _ gx_tb R_Ro D dA := ⟨⟨hx, hb, hml, hown, ht⟩, hK⟩
  have hI : gx_I D dA adr A s.heap σ s.heap [] := ⟨hP, va_S.rf⟩
  have hl := lv_entry ([.ref (adr o0), .int p0]) (n := 4) (Nat.le_of_ble_eq_true rfl)
  rw [lg_entry_eq]
  generalize (lg_sl ([.ref (adr o0), .int p0]) ++ List.replicate (4 - (lg_sl ([.ref (adr o0), .int p0])).length) Slot.unset).toArray = ls at hl ⊢
  have hl : lv_has ls 4 [(0, .ref (adr o0)), (1, .int p0)] := hl
  rw [fn_Ro_countIn] at hf
  obtain ⟨ho0, hf⟩ := gx_gd hf
  refine lv_iconst (v := 0) hx hb d_Ro_countIn_0 (by decide) ?_
  refine lv_istore_n (i := 2) (lv' := [(2, .int ((0 : Int32))), (0, .ref (adr o0)), (1, .int p0)]) hx hb d_Ro_countIn_1 rfl hl (by decide) rfl (fun ls hl => ?_)
  refine lv_iconst (v := 0) hx hb d_Ro_countIn_2 (by decide) ?_
  refine lv_istore_n (i := 3) (lv' := [(3, .int ((0 : Int32))), (2, .int ((0 : Int32))), (0, .ref (adr o0)), (1, .int p0)]) hx hb d_Ro_countIn_3 rfl hl (by decide) rfl (fun ls hl => ?_)
  exact wl_Ro_countIn_L4 G hr hlocks hA N _ o0 p0 ho0 N ((0 : Int32)) ((0 : Int32)) σ _ _ ls hf hI (lv_sub hl [0, 1, 2, 3] rfl)
def fn_Ro_oldestDead_L4 (N : Nat) (u0 : Nat) : Nat → Int32 → Option Nat → gx_M → Option (Option Nat × gx_M)
  | 0, _, _, _ => none
  | n + 1, v2, v1, σ => if (σ u0 1) ≤ v2 then (gx_mt v1 (some (none, σ)) (fun o_2 => if 42 ≤ o_2 ∧ o_2 < 722 then (some (some o_2, σ)) else none)) else (if 0 ≤ v2 ∧ v2 < 40 then (if (σ (gx_el (u0 + 17) v2.toNatClampNeg) 10) = ((5 : Int32)) then (gx_mt v1 (if 0 ≤ v2 ∧ v2 < 40 then (fn_Ro_oldestDead_L4 N u0 n (v2 + 1) (some (gx_el (u0 + 17) v2.toNatClampNeg)) σ) else none) (fun o_6 => if 42 ≤ o_6 ∧ o_6 < 722 then (if 0 ≤ v2 ∧ v2 < 40 then (if (σ o_6 13) ≤ (σ (gx_el (u0 + 17) v2.toNatClampNeg) 13) then (fn_Ro_oldestDead_L4 N u0 n (v2 + 1) (some o_6) σ) else (if 0 ≤ v2 ∧ v2 < 40 then (fn_Ro_oldestDead_L4 N u0 n (v2 + 1) (some (gx_el (u0 + 17) v2.toNatClampNeg)) σ) else none)) else none) else none)) else (fn_Ro_oldestDead_L4 N u0 n (v2 + 1) v1 σ)) else none)
def fn_Ro_oldestDead (N : Nat) (o0 : Nat) (σ : gx_M) : Option (Option Nat × gx_M) := if 8 ≤ o0 ∧ o0 < 25 then (fn_Ro_oldestDead_L4 N o0 N ((0 : Int32)) none σ) else none
set_option maxHeartbeats 4000000 in
set_option maxRecDepth 100000 in
theorem wl_Ro_oldestDead_L4 {p : Program} {l : Launch} {e : Env} {s : State} {m : MethodId} {args : Array Value} {below : List Frame} {meth : Method} {c : Code} {D : va_G} {dA : Nat → ClassId} {adr : Nat → Nat} {A : Nat → Prop} (G : gx_G p m c b_Ro_oldestDead 3 s args gx_tb R_Ro D dA) (hr : meth.sig.returnType = some (.object R_Jb)) (hlocks : meth.locks = false) (hA : gx_A A adr) (N : Nat) (res : Option Nat × gx_M) (u0 : Nat) (hu0 : 8 ≤ u0 ∧ u0 < 25) : ∀ (n : Nat) (v2 : Int32) (v1 : Option Nat) (σ : gx_M) (H : Heap) (locs : List Loc) (ls : Array Slot), fn_Ro_oldestDead_L4 N u0 n v2 v1 σ = some res → gx_I D dA adr A s.heap σ H locs → lv_has ls 3 [(2, .int v2), (1, va_rf (Option.map adr v1)), (0, .ref (adr u0))] → W p l e (headSpec w_Ro_oldestDead rm_Ro_oldestDead).room s m args below meth c H locs 0 0 (MQ below (gx_Q D dA adr A (some (va_rf (Option.map adr res.1))) res.2) args s 0 0 A) (F0 m 4 ls []) := by
  obtain ⟨⟨hx, hb, hml, hown, ht⟩, hK⟩ := id G
  intro n
  induction n with
  | zero =>
    intro v2 v1 σ H locs ls hf
    cases hf
  | succ n ih =>
    intro v2 v1 σ H locs ls hf hI hl
    rw [fn_Ro_oldestDead_L4] at hf
    refine lv_iload_n hx hb d_Ro_oldestDead_4 rfl (lv_at hl 0 rfl) ?_
    refine lv_aload_n hx hb d_Ro_oldestDead_5 rfl (lv_at hl 2 rfl) ?_
    refine gx_getI G hI cl_Ro (gx_ci_r hu0) 1 (by decide) (gx_rf_r hu0 (by decide)) fl_Ro_20 d_Ro_oldestDead_6 ?_
    refine lv_icmp_ge (tgt := 58) hx hb d_Ro_oldestDead_9 (by decide) (fun c_1 => ?_) (fun c_1 => ?_)
    · replace hf := (if_pos c_1).symm.trans hf
      rcases v1 with _ | o_2
      · replace hf := gx_mtn hf
        refine lv_aload_nN hx hb d_Ro_oldestDead_58 rfl (lv_at hl 1 rfl) ?_
        cases hf
        exact W.aret (v := .null) hx hb hr (Or.inl ⟨_, rfl⟩) (Or.inl rfl) (gx_F hI) hI.2.2.2 d_Ro_oldestDead_59
      · replace hf := gx_mts hf
        obtain ⟨hg_3, hf⟩ := gx_gd hf
        refine lv_aload_n hx hb d_Ro_oldestDead_58 rfl (lv_at hl 1 rfl) ?_
        cases hf
        exact W.aret hx hb hr (Or.inl ⟨_, rfl⟩) (Or.inr ⟨_, rfl⟩) (gx_F hI) hI.2.2.2 d_Ro_oldestDead_59
    · replace hf := (if_neg c_1).symm.trans hf
      refine lv_aload_n hx hb d_Ro_oldestDead_12 rfl (lv_at hl 2 rfl) ?_
      refine gx_getR (o' := u0 + 17) G hI cl_Ro (gx_ci_r hu0) 0 (by decide) (gx_rf_r0 hu0) fl_Ro_11 d_Ro_oldestDead_13 ?_
      refine lv_iload_n hx hb d_Ro_oldestDead_16 rfl (lv_at hl 0 rfl) ?_
      obtain ⟨hi_4, hf⟩ := gx_gd hf
      refine gx_aldJ G hI hu0 hi_4 d_Ro_oldestDead_17 ?_
      refine gx_getI G hI cl_Jb (gx_ci_j (gx_el_j hu0 hi_4)) 10 (by decide) (gx_rf_j (gx_el_j hu0 hi_4) 10) fl_Ro_35 d_Ro_oldestDead_18 ?_
      refine lv_iconst (v := 5) hx hb d_Ro_oldestDead_21 (by decide) ?_
      refine lv_icmp_ne (tgt := 52) hx hb d_Ro_oldestDead_22 (by decide) (fun c_5 => ?_) (fun c_5 => ?_)
      · replace hf := (if_neg c_5).symm.trans hf
        refine lv_iinc (v := v2 + 1) (lv' := [(2, .int (v2 + 1)), (1, va_rf (Option.map adr v1)), (0, .ref (adr u0))]) hx hb d_Ro_oldestDead_52 hl (k := 0) rfl rfl (by decide) (by simp [gx_cat, gx_rfs, gx_rfn]) (fun ls hl => ?_)
        refine lv_goto (tgt := 4) hx hb d_Ro_oldestDead_55 (by decide) ?_
        exact ih (v2 + 1) v1 σ H locs ls hf hI (lv_sub hl [0, 1, 2] rfl)
      · replace hf := (if_pos c_5).symm.trans hf
        rcases v1 with _ | o_6
        · replace hf := gx_mtn hf
          refine lv_aload_nN hx hb d_Ro_oldestDead_25 rfl (lv_at hl 1 rfl) ?_
          refine lv_ifnullN (tgt := 45) hx hb d_Ro_oldestDead_26 (by decide) ?_
          refine lv_aload_n hx hb d_Ro_oldestDead_45 rfl (lv_at hl 2 rfl) ?_
          refine gx_getR (o' := u0 + 17) G hI cl_Ro (gx_ci_r hu0) 0 (by decide) (gx_rf_r0 hu0) fl_Ro_11 d_Ro_oldestDead_46 ?_
          refine lv_iload_n hx hb d_Ro_oldestDead_49 rfl (lv_at hl 0 rfl) ?_
          obtain ⟨hi_8, hf⟩ := gx_gd hf
          refine gx_aldJ G hI hu0 hi_8 d_Ro_oldestDead_50 ?_
          refine lv_astore_n (i := 1) (lv' := [(1, .ref (adr (gx_el (u0 + 17) v2.toNatClampNeg))), (2, .int v2), (0, .ref (adr u0))]) hx hb d_Ro_oldestDead_51 rfl hl (by decide) rfl (fun ls hl => ?_)
          refine lv_iinc (v := v2 + 1) (lv' := [(2, .int (v2 + 1)), (1, .ref (adr (gx_el (u0 + 17) v2.toNatClampNeg))), (0, .ref (adr u0))]) hx hb d_Ro_oldestDead_52 hl (k := 1) rfl rfl (by decide) rfl (fun ls hl => ?_)
          refine lv_goto (tgt := 4) hx hb d_Ro_oldestDead_55 (by decide) ?_
          exact ih (v2 + 1) (some (gx_el (u0 + 17) v2.toNatClampNeg)) σ H locs ls hf hI (lv_sub hl [0, 1, 2] rfl)
        · replace hf := gx_mts hf
          obtain ⟨hg_7, hf⟩ := gx_gd hf
          refine lv_aload_n hx hb d_Ro_oldestDead_25 rfl (lv_at hl 1 rfl) ?_
          refine lv_ifnull hx hb d_Ro_oldestDead_26 ?_
          refine lv_aload_n hx hb d_Ro_oldestDead_29 rfl (lv_at hl 2 rfl) ?_
          refine gx_getR (o' := u0 + 17) G hI cl_Ro (gx_ci_r hu0) 0 (by decide) (gx_rf_r0 hu0) fl_Ro_11 d_Ro_oldestDead_30 ?_
          refine lv_iload_n hx hb d_Ro_oldestDead_33 rfl (lv_at hl 0 rfl) ?_
          obtain ⟨hi_9, hf⟩ := gx_gd hf
          refine gx_aldJ G hI hu0 hi_9 d_Ro_oldestDead_34 ?_
          refine gx_getI G hI cl_Jb (gx_ci_j (gx_el_j hu0 hi_9)) 13 (by decide) (gx_rf_j (gx_el_j hu0 hi_9) 13) fl_Ro_38 d_Ro_oldestDead_35 ?_
          refine lv_aload_n hx hb d_Ro_oldestDead_38 rfl (lv_at hl 1 rfl) ?_
          refine gx_getI G hI cl_Jb (gx_ci_j hg_7) 13 (by decide) (gx_rf_j hg_7 13) fl_Ro_38 d_Ro_oldestDead_39 ?_
          refine lv_icmp_ge (tgt := 52) hx hb d_Ro_oldestDead_42 (by decide) (fun c_10 => ?_) (fun c_10 => ?_)
          · replace hf := (if_pos c_10).symm.trans hf
            refine lv_iinc (v := v2 + 1) (lv' := [(2, .int (v2 + 1)), (1, .ref (adr o_6)), (0, .ref (adr u0))]) hx hb d_Ro_oldestDead_52 hl (k := 0) rfl rfl (by decide) rfl (fun ls hl => ?_)
            refine lv_goto (tgt := 4) hx hb d_Ro_oldestDead_55 (by decide) ?_
            exact ih (v2 + 1) (some o_6) σ H locs ls hf hI (lv_sub hl [0, 1, 2] rfl)
          · replace hf := (if_neg c_10).symm.trans hf
            refine lv_aload_n hx hb d_Ro_oldestDead_45 rfl (lv_at hl 2 rfl) ?_
            refine gx_getR (o' := u0 + 17) G hI cl_Ro (gx_ci_r hu0) 0 (by decide) (gx_rf_r0 hu0) fl_Ro_11 d_Ro_oldestDead_46 ?_
            refine lv_iload_n hx hb d_Ro_oldestDead_49 rfl (lv_at hl 0 rfl) ?_
            obtain ⟨hi_11, hf⟩ := gx_gd hf
            refine gx_aldJ G hI hu0 hi_11 d_Ro_oldestDead_50 ?_
            refine lv_astore_n (i := 1) (lv' := [(1, .ref (adr (gx_el (u0 + 17) v2.toNatClampNeg))), (2, .int v2), (0, .ref (adr u0))]) hx hb d_Ro_oldestDead_51 rfl hl (by decide) rfl (fun ls hl => ?_)
            refine lv_iinc (v := v2 + 1) (lv' := [(2, .int (v2 + 1)), (1, .ref (adr (gx_el (u0 + 17) v2.toNatClampNeg))), (0, .ref (adr u0))]) hx hb d_Ro_oldestDead_52 hl (k := 1) rfl rfl (by decide) rfl (fun ls hl => ?_)
            refine lv_goto (tgt := 4) hx hb d_Ro_oldestDead_55 (by decide) ?_
            exact ih (v2 + 1) (some (gx_el (u0 + 17) v2.toNatClampNeg)) σ H locs ls hf hI (lv_sub hl [0, 1, 2] rfl)
set_option maxHeartbeats 4000000 in
set_option maxRecDepth 100000 in
theorem ct_Ro_oldestDead (l : Launch) (D : va_G) (dA : Nat → ClassId) (adr : Nat → Nat) (A : Nat → Prop) (hA : gx_A A adr) (N : Nat) (o0 : Nat) (σ : gx_M) (r : Option Nat) (σ' : gx_M) (hf : fn_Ro_oldestDead N o0 σ = some (r, σ')) : Met l y_Ro_oldestDead w_Ro_oldestDead rm_Ro_oldestDead (gx_Pc D dA adr σ [.ref (adr o0)]) (gx_Q D dA adr A (some (va_rf (Option.map adr r))) σ') 0 0 A := by
  refine Met.ofW (cc := b_Ro_oldestDead) (maxL := 3) (ret := some (.object R_Jb)) (by decide) rfl ?_
  intro p e s m args below meth c s₁ B hml hv
  obtain ⟨rfl, hP, hK⟩ := hv
  have hx := B.exec
  have hb := B.bytes
  have hr := B.returns
  have hlocks := B.notSynchronized
  have ht : ∀ w ∈ gx_tb, w.before _ s = true := fun w h => atoms_spec (ws := w_Ro_oldestDead) B.pre w (List.mem_cons_of_mem _ h)
  have hown : s.vm.findClass R_Ro = some m.cls := findClass_of_methodNamed B.named
  have G : gx_G p m c b_Ro_oldestDead 3 s _ gx_tb R_Ro D dA := ⟨⟨hx, hb, hml, hown, ht⟩, hK⟩
  have hI : gx_I D dA adr A s.heap σ s.heap [] := ⟨hP, va_S.rf⟩
  have hl := lv_entry ([.ref (adr o0)]) (n := 3) (Nat.le_of_ble_eq_true rfl)
  rw [lg_entry_eq]
  generalize (lg_sl ([.ref (adr o0)]) ++ List.replicate (3 - (lg_sl ([.ref (adr o0)])).length) Slot.unset).toArray = ls at hl ⊢
  have hl : lv_has ls 3 [(0, .ref (adr o0))] := hl
  rw [fn_Ro_oldestDead] at hf
  obtain ⟨ho0, hf⟩ := gx_gd hf
  refine lv_null hx hb d_Ro_oldestDead_0 ?_
  refine lv_astore_nN (i := 1) (lv' := [(1, .null), (0, .ref (adr o0))]) hx hb d_Ro_oldestDead_1 rfl hl (by decide) rfl (fun ls hl => ?_)
  refine lv_iconst (v := 0) hx hb d_Ro_oldestDead_2 (by decide) ?_
  refine lv_istore_n (i := 2) (lv' := [(2, .int ((0 : Int32))), (1, .null), (0, .ref (adr o0))]) hx hb d_Ro_oldestDead_3 rfl hl (by decide) rfl (fun ls hl => ?_)
  exact wl_Ro_oldestDead_L4 G hr hlocks hA N _ o0 ho0 N ((0 : Int32)) none σ _ _ ls hf hI (lv_sub hl [0, 1, 2] rfl)
end
section
theorem d_Ro_bury_0 : decode b_Ro_bury 0 = .ok (.aload_n 0, 1) := by decide +kernel
theorem d_Ro_bury_1 : decode b_Ro_bury 1 = .ok (.invokevirtual 68, 3) := by decide +kernel
theorem d_Ro_bury_4 : decode b_Ro_bury 4 = .ok (.astore_n 2, 1) := by decide +kernel
theorem d_Ro_bury_5 : decode b_Ro_bury 5 = .ok (.aload_n 2, 1) := by decide +kernel
theorem d_Ro_bury_6 : decode b_Ro_bury 6 = .ok (.ifnull 19, 3) := by decide +kernel
theorem d_Ro_bury_9 : decode b_Ro_bury 9 = .ok (.aload_n 0, 1) := by decide +kernel
theorem d_Ro_bury_10 : decode b_Ro_bury 10 = .ok (.iconst 5, 1) := by decide +kernel
theorem d_Ro_bury_11 : decode b_Ro_bury 11 = .ok (.invokevirtual 72, 3) := by decide +kernel
theorem d_Ro_bury_14 : decode b_Ro_bury 14 = .ok (.bipush 8, 2) := by decide +kernel
theorem d_Ro_bury_16 : decode b_Ro_bury 16 = .ok (.if_icmp .lt 9, 3) := by decide +kernel
theorem d_Ro_bury_19 : decode b_Ro_bury 19 = .ok (.aload_n 2, 1) := by decide +kernel
theorem d_Ro_bury_20 : decode b_Ro_bury 20 = .ok (.bipush 7, 2) := by decide +kernel
theorem d_Ro_bury_22 : decode b_Ro_bury 22 = .ok (.putfield 35, 3) := by decide +kernel
theorem d_Ro_bury_25 : decode b_Ro_bury 25 = .ok (.aload_n 0, 1) := by decide +kernel
theorem d_Ro_bury_26 : decode b_Ro_bury 26 = .ok (.aload_n 1, 1) := by decide +kernel
theorem d_Ro_bury_27 : decode b_Ro_bury 27 = .ok (.iconst 5, 1) := by decide +kernel
theorem d_Ro_bury_28 : decode b_Ro_bury 28 = .ok (.invokevirtual 48, 3) := by decide +kernel
theorem d_Ro_bury_31 : decode b_Ro_bury 31 = .ok (.return_, 1) := by decide +kernel
theorem d_Ro_failReserved_0 : decode b_Ro_failReserved 0 = .ok (.aload_n 1, 1) := by decide +kernel
theorem d_Ro_failReserved_1 : decode b_Ro_failReserved 1 = .ok (.dup, 1) := by decide +kernel
theorem d_Ro_failReserved_2 : decode b_Ro_failReserved 2 = .ok (.getfield 52, 3) := by decide +kernel
theorem d_Ro_failReserved_5 : decode b_Ro_failReserved 5 = .ok (.iconst 1, 1) := by decide +kernel
theorem d_Ro_failReserved_6 : decode b_Ro_failReserved 6 = .ok (.iadd, 1) := by decide +kernel
theorem d_Ro_failReserved_7 : decode b_Ro_failReserved 7 = .ok (.putfield 52, 3) := by decide +kernel
theorem d_Ro_failReserved_10 : decode b_Ro_failReserved 10 = .ok (.aload_n 1, 1) := by decide +kernel
theorem d_Ro_failReserved_11 : decode b_Ro_failReserved 11 = .ok (.getfield 52, 3) := by decide +kernel
theorem d_Ro_failReserved_14 : decode b_Ro_failReserved 14 = .ok (.aload_n 1, 1) := by decide +kernel
theorem d_Ro_failReserved_15 : decode b_Ro_failReserved 15 = .ok (.getfield 55, 3) := by decide +kernel
theorem d_Ro_failReserved_18 : decode b_Ro_failReserved 18 = .ok (.if_icmp .le 11, 3) := by decide +kernel
theorem d_Ro_failReserved_21 : decode b_Ro_failReserved 21 = .ok (.aload_n 0, 1) := by decide +kernel
theorem d_Ro_failReserved_22 : decode b_Ro_failReserved 22 = .ok (.aload_n 1, 1) := by decide +kernel
theorem d_Ro_failReserved_23 : decode b_Ro_failReserved 23 = .ok (.invokevirtual 58, 3) := by decide +kernel
theorem d_Ro_failReserved_26 : decode b_Ro_failReserved 26 = .ok (.goto 14, 3) := by decide +kernel
theorem d_Ro_failReserved_29 : decode b_Ro_failReserved 29 = .ok (.aload_n 1, 1) := by decide +kernel
theorem d_Ro_failReserved_30 : decode b_Ro_failReserved 30 = .ok (.iconst 3, 1) := by decide +kernel
theorem d_Ro_failReserved_31 : decode b_Ro_failReserved 31 = .ok (.iload_n 2, 1) := by decide +kernel
theorem d_Ro_failReserved_32 : decode b_Ro_failReserved 32 = .ok (.aload_n 1, 1) := by decide +kernel
theorem d_Ro_failReserved_33 : decode b_Ro_failReserved 33 = .ok (.invokevirtual 61, 3) := by decide +kernel
theorem d_Ro_failReserved_36 : decode b_Ro_failReserved 36 = .ok (.iadd, 1) := by decide +kernel
theorem d_Ro_failReserved_37 : decode b_Ro_failReserved 37 = .ok (.invokevirtual 65, 3) := by decide +kernel
theorem d_Ro_failReserved_40 : decode b_Ro_failReserved 40 = .ok (.return_, 1) := by decide +kernel
theorem d_Ro_nextDue_0 : decode b_Ro_nextDue 0 = .ok (.aconst_null, 1) := by decide +kernel
theorem d_Ro_nextDue_1 : decode b_Ro_nextDue 1 = .ok (.astore_n 2, 1) := by decide +kernel
theorem d_Ro_nextDue_2 : decode b_Ro_nextDue 2 = .ok (.iconst 0, 1) := by decide +kernel
theorem d_Ro_nextDue_3 : decode b_Ro_nextDue 3 = .ok (.istore_n 3, 1) := by decide +kernel
theorem d_Ro_nextDue_4 : decode b_Ro_nextDue 4 = .ok (.iload_n 3, 1) := by decide +kernel
theorem d_Ro_nextDue_5 : decode b_Ro_nextDue 5 = .ok (.aload_n 0, 1) := by decide +kernel
theorem d_Ro_nextDue_6 : decode b_Ro_nextDue 6 = .ok (.getfield 20, 3) := by decide +kernel
theorem d_Ro_nextDue_9 : decode b_Ro_nextDue 9 = .ok (.if_icmp .ge 53, 3) := by decide +kernel
theorem d_Ro_nextDue_12 : decode b_Ro_nextDue 12 = .ok (.aload_n 0, 1) := by decide +kernel
theorem d_Ro_nextDue_13 : decode b_Ro_nextDue 13 = .ok (.getfield 11, 3) := by decide +kernel
theorem d_Ro_nextDue_16 : decode b_Ro_nextDue 16 = .ok (.iload_n 3, 1) := by decide +kernel
theorem d_Ro_nextDue_17 : decode b_Ro_nextDue 17 = .ok (.aaload, 1) := by decide +kernel
theorem d_Ro_nextDue_18 : decode b_Ro_nextDue 18 = .ok (.astore 4, 2) := by decide +kernel
theorem d_Ro_nextDue_20 : decode b_Ro_nextDue 20 = .ok (.aload 4, 2) := by decide +kernel
theorem d_Ro_nextDue_22 : decode b_Ro_nextDue 22 = .ok (.invokevirtual 83, 3) := by decide +kernel
theorem d_Ro_nextDue_25 : decode b_Ro_nextDue 25 = .ok (.ifCond .eq 31, 3) := by decide +kernel
theorem d_Ro_nextDue_28 : decode b_Ro_nextDue 28 = .ok (.aload 4, 2) := by decide +kernel
theorem d_Ro_nextDue_30 : decode b_Ro_nextDue 30 = .ok (.getfield 87, 3) := by decide +kernel
theorem d_Ro_nextDue_33 : decode b_Ro_nextDue 33 = .ok (.iload_n 1, 1) := by decide +kernel
theorem d_Ro_nextDue_34 : decode b_Ro_nextDue 34 = .ok (.if_icmp .gt 22, 3) := by decide +kernel
theorem d_Ro_nextDue_37 : decode b_Ro_nextDue 37 = .ok (.aload_n 2, 1) := by decide +kernel
theorem d_Ro_nextDue_38 : decode b_Ro_nextDue 38 = .ok (.ifnull 15, 3) := by decide +kernel
theorem d_Ro_nextDue_41 : decode b_Ro_nextDue 41 = .ok (.aload 4, 2) := by decide +kernel
theorem d_Ro_nextDue_43 : decode b_Ro_nextDue 43 = .ok (.getfield 87, 3) := by decide +kernel
theorem d_Ro_nextDue_46 : decode b_Ro_nextDue 46 = .ok (.aload_n 2, 1) := by decide +kernel
theorem d_Ro_nextDue_47 : decode b_Ro_nextDue 47 = .ok (.getfield 87, 3) := by decide +kernel
theorem d_Ro_nextDue_50 : decode b_Ro_nextDue 50 = .ok (.if_icmp .ge 6, 3) := by decide +kernel
theorem d_Ro_nextDue_53 : decode b_Ro_nextDue 53 = .ok (.aload 4, 2) := by decide +kernel
theorem d_Ro_nextDue_55 : decode b_Ro_nextDue 55 = .ok (.astore_n 2, 1) := by decide +kernel
theorem d_Ro_nextDue_56 : decode b_Ro_nextDue 56 = .ok (.iinc 3 1, 3) := by decide +kernel
theorem d_Ro_nextDue_59 : decode b_Ro_nextDue 59 = .ok (.goto (-55), 3) := by decide +kernel
theorem d_Ro_nextDue_62 : decode b_Ro_nextDue 62 = .ok (.aload_n 2, 1) := by decide +kernel
theorem d_Ro_nextDue_63 : decode b_Ro_nextDue 63 = .ok (.areturn, 1) := by decide +kernel
theorem d_Ro_settleDue_0 : decode b_Ro_settleDue 0 = .ok (.iconst 0, 1) := by decide +kernel
theorem d_Ro_settleDue_1 : decode b_Ro_settleDue 1 = .ok (.istore_n 2, 1) := by decide +kernel
theorem d_Ro_settleDue_2 : decode b_Ro_settleDue 2 = .ok (.iload_n 2, 1) := by decide +kernel
theorem d_Ro_settleDue_3 : decode b_Ro_settleDue 3 = .ok (.aload_n 0, 1) := by decide +kernel
theorem d_Ro_settleDue_4 : decode b_Ro_settleDue 4 = .ok (.getfield 20, 3) := by decide +kernel
theorem d_Ro_settleDue_7 : decode b_Ro_settleDue 7 = .ok (.if_icmp .ge 44, 3) := by decide +kernel
theorem d_Ro_settleDue_10 : decode b_Ro_settleDue 10 = .ok (.aload_n 0, 1) := by decide +kernel
theorem d_Ro_settleDue_11 : decode b_Ro_settleDue 11 = .ok (.iload_n 1, 1) := by decide +kernel
theorem d_Ro_settleDue_12 : decode b_Ro_settleDue 12 = .ok (.invokevirtual 76, 3) := by decide +kernel
theorem d_Ro_settleDue_15 : decode b_Ro_settleDue 15 = .ok (.astore_n 3, 1) := by decide +kernel
theorem d_Ro_settleDue_16 : decode b_Ro_settleDue 16 = .ok (.aload_n 3, 1) := by decide +kernel
theorem d_Ro_settleDue_17 : decode b_Ro_settleDue 17 = .ok (.ifnonnull 5, 3) := by decide +kernel
theorem d_Ro_settleDue_20 : decode b_Ro_settleDue 20 = .ok (.iload_n 2, 1) := by decide +kernel
theorem d_Ro_settleDue_21 : decode b_Ro_settleDue 21 = .ok (.ireturn, 1) := by decide +kernel
theorem d_Ro_settleDue_22 : decode b_Ro_settleDue 22 = .ok (.aload_n 3, 1) := by decide +kernel
theorem d_Ro_settleDue_23 : decode b_Ro_settleDue 23 = .ok (.getfield 35, 3) := by decide +kernel
theorem d_Ro_settleDue_26 : decode b_Ro_settleDue 26 = .ok (.iconst 2, 1) := by decide +kernel
theorem d_Ro_settleDue_27 : decode b_Ro_settleDue 27 = .ok (.if_icmp .ne 12, 3) := by decide +kernel
theorem d_Ro_settleDue_30 : decode b_Ro_settleDue 30 = .ok (.aload_n 0, 1) := by decide +kernel
theorem d_Ro_settleDue_31 : decode b_Ro_settleDue 31 = .ok (.aload_n 3, 1) := by decide +kernel
theorem d_Ro_settleDue_32 : decode b_Ro_settleDue 32 = .ok (.iload_n 1, 1) := by decide +kernel
theorem d_Ro_settleDue_33 : decode b_Ro_settleDue 33 = .ok (.invokevirtual 80, 3) := by decide +kernel
theorem d_Ro_settleDue_36 : decode b_Ro_settleDue 36 = .ok (.goto 9, 3) := by decide +kernel
theorem d_Ro_settleDue_39 : decode b_Ro_settleDue 39 = .ok (.aload_n 0, 1) := by decide +kernel
theorem d_Ro_settleDue_40 : decode b_Ro_settleDue 40 = .ok (.aload_n 3, 1) := by decide +kernel
theorem d_Ro_settleDue_41 : decode b_Ro_settleDue 41 = .ok (.iconst 1, 1) := by decide +kernel
theorem d_Ro_settleDue_42 : decode b_Ro_settleDue 42 = .ok (.invokevirtual 48, 3) := by decide +kernel
theorem d_Ro_settleDue_45 : decode b_Ro_settleDue 45 = .ok (.iinc 2 1, 3) := by decide +kernel
theorem d_Ro_settleDue_48 : decode b_Ro_settleDue 48 = .ok (.goto (-46), 3) := by decide +kernel
theorem d_Ro_settleDue_51 : decode b_Ro_settleDue 51 = .ok (.aload_n 0, 1) := by decide +kernel
theorem d_Ro_settleDue_52 : decode b_Ro_settleDue 52 = .ok (.getfield 20, 3) := by decide +kernel
theorem d_Ro_settleDue_55 : decode b_Ro_settleDue 55 = .ok (.ireturn, 1) := by decide +kernel
theorem d_Ro_hasLiveKey_0 : decode b_Ro_hasLiveKey 0 = .ok (.iload_n 1, 1) := by decide +kernel
theorem d_Ro_hasLiveKey_1 : decode b_Ro_hasLiveKey 1 = .ok (.iconst (-1), 1) := by decide +kernel
theorem d_Ro_hasLiveKey_2 : decode b_Ro_hasLiveKey 2 = .ok (.if_icmp .ne 5, 3) := by decide +kernel
theorem d_Ro_hasLiveKey_5 : decode b_Ro_hasLiveKey 5 = .ok (.iconst 0, 1) := by decide +kernel
theorem d_Ro_hasLiveKey_6 : decode b_Ro_hasLiveKey 6 = .ok (.ireturn, 1) := by decide +kernel
theorem d_Ro_hasLiveKey_7 : decode b_Ro_hasLiveKey 7 = .ok (.iconst 0, 1) := by decide +kernel
theorem d_Ro_hasLiveKey_8 : decode b_Ro_hasLiveKey 8 = .ok (.istore_n 2, 1) := by decide +kernel
theorem d_Ro_hasLiveKey_9 : decode b_Ro_hasLiveKey 9 = .ok (.iload_n 2, 1) := by decide +kernel
theorem d_Ro_hasLiveKey_10 : decode b_Ro_hasLiveKey 10 = .ok (.aload_n 0, 1) := by decide +kernel
theorem d_Ro_hasLiveKey_11 : decode b_Ro_hasLiveKey 11 = .ok (.getfield 20, 3) := by decide +kernel
theorem d_Ro_hasLiveKey_14 : decode b_Ro_hasLiveKey 14 = .ok (.if_icmp .ge 36, 3) := by decide +kernel
theorem d_Ro_hasLiveKey_17 : decode b_Ro_hasLiveKey 17 = .ok (.aload_n 0, 1) := by decide +kernel
theorem d_Ro_hasLiveKey_18 : decode b_Ro_hasLiveKey 18 = .ok (.getfield 11, 3) := by decide +kernel
theorem d_Ro_hasLiveKey_21 : decode b_Ro_hasLiveKey 21 = .ok (.iload_n 2, 1) := by decide +kernel
theorem d_Ro_hasLiveKey_22 : decode b_Ro_hasLiveKey 22 = .ok (.aaload, 1) := by decide +kernel
theorem d_Ro_hasLiveKey_23 : decode b_Ro_hasLiveKey 23 = .ok (.getfield 90, 3) := by decide +kernel
theorem d_Ro_hasLiveKey_26 : decode b_Ro_hasLiveKey 26 = .ok (.iload_n 1, 1) := by decide +kernel
theorem d_Ro_hasLiveKey_27 : decode b_Ro_hasLiveKey 27 = .ok (.if_icmp .ne 17, 3) := by decide +kernel
theorem d_Ro_hasLiveKey_30 : decode b_Ro_hasLiveKey 30 = .ok (.aload_n 0, 1) := by decide +kernel
theorem d_Ro_hasLiveKey_31 : decode b_Ro_hasLiveKey 31 = .ok (.getfield 11, 3) := by decide +kernel
theorem d_Ro_hasLiveKey_34 : decode b_Ro_hasLiveKey 34 = .ok (.iload_n 2, 1) := by decide +kernel
theorem d_Ro_hasLiveKey_35 : decode b_Ro_hasLiveKey 35 = .ok (.aaload, 1) := by decide +kernel
theorem d_Ro_hasLiveKey_36 : decode b_Ro_hasLiveKey 36 = .ok (.invokevirtual 93, 3) := by decide +kernel
theorem d_Ro_hasLiveKey_39 : decode b_Ro_hasLiveKey 39 = .ok (.ifCond .eq 5, 3) := by decide +kernel
theorem d_Ro_hasLiveKey_42 : decode b_Ro_hasLiveKey 42 = .ok (.iconst 1, 1) := by decide +kernel
theorem d_Ro_hasLiveKey_43 : decode b_Ro_hasLiveKey 43 = .ok (.ireturn, 1) := by decide +kernel
theorem d_Ro_hasLiveKey_44 : decode b_Ro_hasLiveKey 44 = .ok (.iinc 2 1, 3) := by decide +kernel
theorem d_Ro_hasLiveKey_47 : decode b_Ro_hasLiveKey 47 = .ok (.goto (-38), 3) := by decide +kernel
theorem d_Ro_hasLiveKey_50 : decode b_Ro_hasLiveKey 50 = .ok (.iconst 0, 1) := by decide +kernel
theorem d_Ro_hasLiveKey_51 : decode b_Ro_hasLiveKey 51 = .ok (.ireturn, 1) := by decide +kernel
theorem d_Ro_reservedBy_0 : decode b_Ro_reservedBy 0 = .ok (.iconst 0, 1) := by decide +kernel
theorem d_Ro_reservedBy_1 : decode b_Ro_reservedBy 1 = .ok (.istore_n 2, 1) := by decide +kernel
theorem d_Ro_reservedBy_2 : decode b_Ro_reservedBy 2 = .ok (.iload_n 2, 1) := by decide +kernel
theorem d_Ro_reservedBy_3 : decode b_Ro_reservedBy 3 = .ok (.aload_n 0, 1) := by decide +kernel
theorem d_Ro_reservedBy_4 : decode b_Ro_reservedBy 4 = .ok (.getfield 20, 3) := by decide +kernel
theorem d_Ro_reservedBy_7 : decode b_Ro_reservedBy 7 = .ok (.if_icmp .ge 42, 3) := by decide +kernel
theorem d_Ro_reservedBy_10 : decode b_Ro_reservedBy 10 = .ok (.aload_n 0, 1) := by decide +kernel
theorem d_Ro_reservedBy_11 : decode b_Ro_reservedBy 11 = .ok (.getfield 11, 3) := by decide +kernel
theorem d_Ro_reservedBy_14 : decode b_Ro_reservedBy 14 = .ok (.iload_n 2, 1) := by decide +kernel
theorem d_Ro_reservedBy_15 : decode b_Ro_reservedBy 15 = .ok (.aaload, 1) := by decide +kernel
theorem d_Ro_reservedBy_16 : decode b_Ro_reservedBy 16 = .ok (.getfield 35, 3) := by decide +kernel
theorem d_Ro_reservedBy_19 : decode b_Ro_reservedBy 19 = .ok (.iconst 2, 1) := by decide +kernel
theorem d_Ro_reservedBy_20 : decode b_Ro_reservedBy 20 = .ok (.if_icmp .ne 23, 3) := by decide +kernel
theorem d_Ro_reservedBy_23 : decode b_Ro_reservedBy 23 = .ok (.aload_n 0, 1) := by decide +kernel
theorem d_Ro_reservedBy_24 : decode b_Ro_reservedBy 24 = .ok (.getfield 11, 3) := by decide +kernel
theorem d_Ro_reservedBy_27 : decode b_Ro_reservedBy 27 = .ok (.iload_n 2, 1) := by decide +kernel
theorem d_Ro_reservedBy_28 : decode b_Ro_reservedBy 28 = .ok (.aaload, 1) := by decide +kernel
theorem d_Ro_reservedBy_29 : decode b_Ro_reservedBy 29 = .ok (.getfield 96, 3) := by decide +kernel
theorem d_Ro_reservedBy_32 : decode b_Ro_reservedBy 32 = .ok (.iload_n 1, 1) := by decide +kernel
theorem d_Ro_reservedBy_33 : decode b_Ro_reservedBy 33 = .ok (.if_icmp .ne 10, 3) := by decide +kernel
theorem d_Ro_reservedBy_36 : decode b_Ro_reservedBy 36 = .ok (.aload_n 0, 1) := by decide +kernel
theorem d_Ro_reservedBy_37 : decode b_Ro_reservedBy 37 = .ok (.getfield 11, 3) := by decide +kernel
theorem d_Ro_reservedBy_40 : decode b_Ro_reservedBy 40 = .ok (.iload_n 2, 1) := by decide +kernel
theorem d_Ro_reservedBy_41 : decode b_Ro_reservedBy 41 = .ok (.aaload, 1) := by decide +kernel
theorem d_Ro_reservedBy_42 : decode b_Ro_reservedBy 42 = .ok (.areturn, 1) := by decide +kernel
theorem d_Ro_reservedBy_43 : decode b_Ro_reservedBy 43 = .ok (.iinc 2 1, 3) := by decide +kernel
theorem d_Ro_reservedBy_46 : decode b_Ro_reservedBy 46 = .ok (.goto (-44), 3) := by decide +kernel
theorem d_Ro_reservedBy_49 : decode b_Ro_reservedBy 49 = .ok (.aconst_null, 1) := by decide +kernel
theorem d_Ro_reservedBy_50 : decode b_Ro_reservedBy 50 = .ok (.areturn, 1) := by decide +kernel
theorem d_Ro_nextInLine_0 : decode b_Ro_nextInLine 0 = .ok (.aconst_null, 1) := by decide +kernel
theorem d_Ro_nextInLine_1 : decode b_Ro_nextInLine 1 = .ok (.astore_n 3, 1) := by decide +kernel
theorem d_Ro_nextInLine_2 : decode b_Ro_nextInLine 2 = .ok (.iconst 0, 1) := by decide +kernel
theorem d_Ro_nextInLine_3 : decode b_Ro_nextInLine 3 = .ok (.istore 4, 2) := by decide +kernel
theorem d_Ro_nextInLine_5 : decode b_Ro_nextInLine 5 = .ok (.iload 4, 2) := by decide +kernel
theorem d_Ro_nextInLine_7 : decode b_Ro_nextInLine 7 = .ok (.aload_n 0, 1) := by decide +kernel
theorem d_Ro_nextInLine_8 : decode b_Ro_nextInLine 8 = .ok (.getfield 20, 3) := by decide +kernel
theorem d_Ro_nextInLine_11 : decode b_Ro_nextInLine 11 = .ok (.if_icmp .ge 65, 3) := by decide +kernel
theorem d_Ro_nextInLine_14 : decode b_Ro_nextInLine 14 = .ok (.aload_n 0, 1) := by decide +kernel
theorem d_Ro_nextInLine_15 : decode b_Ro_nextInLine 15 = .ok (.getfield 11, 3) := by decide +kernel
theorem d_Ro_nextInLine_18 : decode b_Ro_nextInLine 18 = .ok (.iload 4, 2) := by decide +kernel
theorem d_Ro_nextInLine_20 : decode b_Ro_nextInLine 20 = .ok (.aaload, 1) := by decide +kernel
theorem d_Ro_nextInLine_21 : decode b_Ro_nextInLine 21 = .ok (.astore 5, 2) := by decide +kernel
theorem d_Ro_nextInLine_23 : decode b_Ro_nextInLine 23 = .ok (.aload 5, 2) := by decide +kernel
theorem d_Ro_nextInLine_25 : decode b_Ro_nextInLine 25 = .ok (.getfield 35, 3) := by decide +kernel
theorem d_Ro_nextInLine_28 : decode b_Ro_nextInLine 28 = .ok (.iconst 1, 1) := by decide +kernel
theorem d_Ro_nextInLine_29 : decode b_Ro_nextInLine 29 = .ok (.if_icmp .ne 41, 3) := by decide +kernel
theorem d_Ro_nextInLine_32 : decode b_Ro_nextInLine 32 = .ok (.aload 5, 2) := by decide +kernel
theorem d_Ro_nextInLine_34 : decode b_Ro_nextInLine 34 = .ok (.getfield 103, 3) := by decide +kernel
theorem d_Ro_nextInLine_37 : decode b_Ro_nextInLine 37 = .ok (.iload_n 1, 1) := by decide +kernel
theorem d_Ro_nextInLine_38 : decode b_Ro_nextInLine 38 = .ok (.if_icmp .ne 32, 3) := by decide +kernel
theorem d_Ro_nextInLine_41 : decode b_Ro_nextInLine 41 = .ok (.aload_n 2, 1) := by decide +kernel
theorem d_Ro_nextInLine_42 : decode b_Ro_nextInLine 42 = .ok (.ifnull 12, 3) := by decide +kernel
theorem d_Ro_nextInLine_45 : decode b_Ro_nextInLine 45 = .ok (.aload_n 2, 1) := by decide +kernel
theorem d_Ro_nextInLine_46 : decode b_Ro_nextInLine 46 = .ok (.aload 5, 2) := by decide +kernel
theorem d_Ro_nextInLine_48 : decode b_Ro_nextInLine 48 = .ok (.invokevirtual 106, 3) := by decide +kernel
theorem d_Ro_nextInLine_51 : decode b_Ro_nextInLine 51 = .ok (.ifCond .eq 19, 3) := by decide +kernel
theorem d_Ro_nextInLine_54 : decode b_Ro_nextInLine 54 = .ok (.aload_n 3, 1) := by decide +kernel
theorem d_Ro_nextInLine_55 : decode b_Ro_nextInLine 55 = .ok (.ifnull 12, 3) := by decide +kernel
theorem d_Ro_nextInLine_58 : decode b_Ro_nextInLine 58 = .ok (.aload 5, 2) := by decide +kernel
theorem d_Ro_nextInLine_60 : decode b_Ro_nextInLine 60 = .ok (.aload_n 3, 1) := by decide +kernel
theorem d_Ro_nextInLine_61 : decode b_Ro_nextInLine 61 = .ok (.invokevirtual 106, 3) := by decide +kernel
theorem d_Ro_nextInLine_64 : decode b_Ro_nextInLine 64 = .ok (.ifCond .eq 6, 3) := by decide +kernel
theorem d_Ro_nextInLine_67 : decode b_Ro_nextInLine 67 = .ok (.aload 5, 2) := by decide +kernel
theorem d_Ro_nextInLine_69 : decode b_Ro_nextInLine 69 = .ok (.astore_n 3, 1) := by decide +kernel
theorem d_Ro_nextInLine_70 : decode b_Ro_nextInLine 70 = .ok (.iinc 4 1, 3) := by decide +kernel
theorem d_Ro_nextInLine_73 : decode b_Ro_nextInLine 73 = .ok (.goto (-68), 3) := by decide +kernel
theorem d_Ro_nextInLine_76 : decode b_Ro_nextInLine 76 = .ok (.aload_n 3, 1) := by decide +kernel
theorem d_Ro_nextInLine_77 : decode b_Ro_nextInLine 77 = .ok (.areturn, 1) := by decide +kernel
theorem d_Ro_inLine_0 : decode b_Ro_inLine 0 = .ok (.aload_n 0, 1) := by decide +kernel
theorem d_Ro_inLine_1 : decode b_Ro_inLine 1 = .ok (.iload_n 1, 1) := by decide +kernel
theorem d_Ro_inLine_2 : decode b_Ro_inLine 2 = .ok (.aconst_null, 1) := by decide +kernel
theorem d_Ro_inLine_3 : decode b_Ro_inLine 3 = .ok (.invokevirtual 99, 3) := by decide +kernel
theorem d_Ro_inLine_6 : decode b_Ro_inLine 6 = .ok (.astore_n 3, 1) := by decide +kernel
theorem d_Ro_inLine_7 : decode b_Ro_inLine 7 = .ok (.iconst 0, 1) := by decide +kernel
theorem d_Ro_inLine_8 : decode b_Ro_inLine 8 = .ok (.istore 4, 2) := by decide +kernel
theorem d_Ro_inLine_10 : decode b_Ro_inLine 10 = .ok (.iload 4, 2) := by decide +kernel
theorem d_Ro_inLine_12 : decode b_Ro_inLine 12 = .ok (.iload_n 2, 1) := by decide +kernel
theorem d_Ro_inLine_13 : decode b_Ro_inLine 13 = .ok (.if_icmp .ge 20, 3) := by decide +kernel
theorem d_Ro_inLine_16 : decode b_Ro_inLine 16 = .ok (.aload_n 3, 1) := by decide +kernel
theorem d_Ro_inLine_17 : decode b_Ro_inLine 17 = .ok (.ifnull 16, 3) := by decide +kernel
theorem d_Ro_inLine_20 : decode b_Ro_inLine 20 = .ok (.aload_n 0, 1) := by decide +kernel
theorem d_Ro_inLine_21 : decode b_Ro_inLine 21 = .ok (.iload_n 1, 1) := by decide +kernel
theorem d_Ro_inLine_22 : decode b_Ro_inLine 22 = .ok (.aload_n 3, 1) := by decide +kernel
theorem d_Ro_inLine_23 : decode b_Ro_inLine 23 = .ok (.invokevirtual 99, 3) := by decide +kernel
theorem d_Ro_inLine_26 : decode b_Ro_inLine 26 = .ok (.astore_n 3, 1) := by decide +kernel
theorem d_Ro_inLine_27 : decode b_Ro_inLine 27 = .ok (.iinc 4 1, 3) := by decide +kernel
theorem d_Ro_inLine_30 : decode b_Ro_inLine 30 = .ok (.goto (-20), 3) := by decide +kernel
theorem d_Ro_inLine_33 : decode b_Ro_inLine 33 = .ok (.aload_n 3, 1) := by decide +kernel
theorem d_Ro_inLine_34 : decode b_Ro_inLine 34 = .ok (.areturn, 1) := by decide +kernel
def fn_Ro_bury (N : Nat) (o0 : Nat) (q0 : Nat) (σ : gx_M) : Option gx_M := if 8 ≤ o0 ∧ o0 < 25 then (if 42 ≤ q0 ∧ q0 < 722 then (gx_bd (fn_Ro_oldestDead N o0 σ) (fun x_3 σ_1 => gx_mt x_3 (gx_bv (fn_Ro_enter N o0 q0 ((5 : Int32)) σ_1) (fun σ_6 => some σ_6)) (fun o_4 => if 42 ≤ o_4 ∧ o_4 < 722 then (gx_bd (fn_Ro_countIn N o0 ((5 : Int32)) σ_1) (fun r_10 σ_8 => if r_10 < ((8 : Int32)) then (gx_bv (fn_Ro_enter N o0 q0 ((5 : Int32)) σ_8) (fun σ_12 => some σ_12)) else (gx_lt (gx_up σ_8 o_4 10 ((7 : Int32))) (fun σ_14 => gx_bv (fn_Ro_enter N o0 q0 ((5 : Int32)) σ_14) (fun σ_15 => some σ_15))))) else none))) else none) else none
set_option maxHeartbeats 4000000 in
set_option maxRecDepth 100000 in
theorem ct_Ro_bury (l : Launch) (D : va_G) (dA : Nat → ClassId) (adr : Nat → Nat) (A : Nat → Prop) (hA : gx_A A adr) (N : Nat) (o0 : Nat) (q0 : Nat) (σ : gx_M) (σ' : gx_M) (hf : fn_Ro_bury N o0 q0 σ = some σ') : Met l y_Ro_bury w_Ro_bury rm_Ro_bury (gx_Pc D dA adr σ [.ref (adr o0), .ref (adr q0)]) (gx_Q D dA adr A none σ') 0 0 A := by
  refine Met.ofW (cc := b_Ro_bury) (maxL := 3) (ret := none) (by decide) rfl ?_
  intro p e s m args below meth c s₁ B hml hv
  obtain ⟨rfl, hP, hK⟩ := hv
  have hx := B.exec
  have hb := B.bytes
  have hr := B.returns
  have hlocks := B.notSynchronized
  have ht : ∀ w ∈ gx_tb, w.before _ s = true := fun w h => atoms_spec (ws := w_Ro_bury) B.pre w (List.mem_cons_of_mem _ h)
  have hown : s.vm.findClass R_Ro = some m.cls := findClass_of_methodNamed B.named
  have G : gx_G p m c b_Ro_bury 3 s _ gx_tb R_Ro D dA := ⟨⟨hx, hb, hml, hown, ht⟩, hK⟩
  have hI : gx_I D dA adr A s.heap σ s.heap [] := ⟨hP, va_S.rf⟩
  have hl := lv_entry ([.ref (adr o0), .ref (adr q0)]) (n := 3) (Nat.le_of_ble_eq_true rfl)
  rw [lg_entry_eq]
  generalize (lg_sl ([.ref (adr o0), .ref (adr q0)]) ++ List.replicate (3 - (lg_sl ([.ref (adr o0), .ref (adr q0)])).length) Slot.unset).toArray = ls at hl ⊢
  have hl : lv_has ls 3 [(0, .ref (adr o0)), (1, .ref (adr q0))] := hl
  rw [fn_Ro_bury] at hf
  obtain ⟨ho0, hf⟩ := gx_gd hf
  obtain ⟨hq0, hf⟩ := gx_gd hf
  refine lv_aload_n hx hb d_Ro_bury_0 rfl (lv_at hl 0 rfl) ?_
  obtain ⟨x_3, σ_1, hc_2, hf⟩ := gx_bde hf
  rcases x_3 with _ | o_4
  · replace hf := gx_mtn hf
    refine gx_go (va_runV (As := []) (rest := []) G.1 (ct_Ro_oldestDead l D dA adr A hA N o0 σ none σ_1 hc_2) (cwV 0 ht gi_Ro_68 rfl rfl rfl (by decide +kernel) ⟨Nat.le_of_ble_eq_true rfl, Nat.le_of_ble_eq_true rfl⟩) (gx_preV G hI cl_Ro (gx_ci_r ho0)) rfl rfl hl.1 rfl (lv_room (Nat.le_of_ble_eq_true rfl)) d_Ro_bury_1 ⟨Nat.zero_le _, Nat.zero_le _⟩) hI (st1 := [.null]) rfl (fun H locs hI => ?_)
    refine lv_astore_nN (i := 2) (lv' := [(2, .null), (0, .ref (adr o0)), (1, .ref (adr q0))]) hx hb d_Ro_bury_4 rfl hl (by decide) rfl (fun ls hl => ?_)
    refine lv_aload_nN hx hb d_Ro_bury_5 rfl (lv_at hl 0 rfl) ?_
    refine lv_ifnullN (tgt := 25) hx hb d_Ro_bury_6 (by decide) ?_
    refine lv_aload_n hx hb d_Ro_bury_25 rfl (lv_at hl 1 rfl) ?_
    refine lv_aload_n hx hb d_Ro_bury_26 rfl (lv_at hl 2 rfl) ?_
    refine lv_iconst (v := 5) hx hb d_Ro_bury_27 (by decide) ?_
    obtain ⟨σ_6, hc_7, hf⟩ := gx_bve hf
    refine gx_go (va_runV (As := [.ref (adr q0), .int ((5 : Int32))]) (rest := []) G.1 (ct_Ro_enter l D dA adr A hA N o0 q0 ((5 : Int32)) σ_1 σ_6 hc_7) (cwV 2 ht gi_Ro_48 rfl rfl rfl (by decide +kernel) ⟨Nat.le_of_ble_eq_true rfl, Nat.le_of_ble_eq_true rfl⟩) (gx_preV G hI cl_Ro (gx_ci_r ho0)) rfl rfl hl.1 rfl (lv_room (Nat.le_of_ble_eq_true rfl)) d_Ro_bury_28 ⟨Nat.zero_le _, Nat.zero_le _⟩) hI (st1 := []) rfl (fun H locs hI => ?_)
    cases hf
    exact W.vret hx hb hr (gx_F hI) hI.2.2.2 d_Ro_bury_31
  · replace hf := gx_mts hf
    obtain ⟨hg_5, hf⟩ := gx_gd hf
    refine gx_go (va_runV (As := []) (rest := []) G.1 (ct_Ro_oldestDead l D dA adr A hA N o0 σ (some o_4) σ_1 hc_2) (cwV 0 ht gi_Ro_68 rfl rfl rfl (by decide +kernel) ⟨Nat.le_of_ble_eq_true rfl, Nat.le_of_ble_eq_true rfl⟩) (gx_preV G hI cl_Ro (gx_ci_r ho0)) rfl rfl hl.1 rfl (lv_room (Nat.le_of_ble_eq_true rfl)) d_Ro_bury_1 ⟨Nat.zero_le _, Nat.zero_le _⟩) hI (st1 := [.ref (adr o_4)]) rfl (fun H locs hI => ?_)
    refine lv_astore_n (i := 2) (lv' := [(2, .ref (adr o_4)), (0, .ref (adr o0)), (1, .ref (adr q0))]) hx hb d_Ro_bury_4 rfl hl (by decide) rfl (fun ls hl => ?_)
    refine lv_aload_n hx hb d_Ro_bury_5 rfl (lv_at hl 0 rfl) ?_
    refine lv_ifnull hx hb d_Ro_bury_6 ?_
    refine lv_aload_n hx hb d_Ro_bury_9 rfl (lv_at hl 1 rfl) ?_
    refine lv_iconst (v := 5) hx hb d_Ro_bury_10 (by decide) ?_
    obtain ⟨r_10, σ_8, hc_9, hf⟩ := gx_bde hf
    refine gx_go (va_runV (As := [.int ((5 : Int32))]) (rest := []) G.1 (ct_Ro_countIn l D dA adr A hA N o0 ((5 : Int32)) σ_1 r_10 σ_8 hc_9) (cwV 1 ht gi_Ro_72 rfl rfl rfl (by decide +kernel) ⟨Nat.le_of_ble_eq_true rfl, Nat.le_of_ble_eq_true rfl⟩) (gx_preV G hI cl_Ro (gx_ci_r ho0)) rfl rfl hl.1 rfl (lv_room (Nat.le_of_ble_eq_true rfl)) d_Ro_bury_11 ⟨Nat.zero_le _, Nat.zero_le _⟩) hI (st1 := [.int r_10]) rfl (fun H locs hI => ?_)
    refine lv_bipush (v := 8) hx hb d_Ro_bury_14 (by decide) ?_
    refine lv_icmp_lt (tgt := 25) hx hb d_Ro_bury_16 (by decide) (fun c_11 => ?_) (fun c_11 => ?_)
    · replace hf := (if_pos c_11).symm.trans hf
      refine lv_aload_n hx hb d_Ro_bury_25 rfl (lv_at hl 1 rfl) ?_
      refine lv_aload_n hx hb d_Ro_bury_26 rfl (lv_at hl 2 rfl) ?_
      refine lv_iconst (v := 5) hx hb d_Ro_bury_27 (by decide) ?_
      obtain ⟨σ_12, hc_13, hf⟩ := gx_bve hf
      refine gx_go (va_runV (As := [.ref (adr q0), .int ((5 : Int32))]) (rest := []) G.1 (ct_Ro_enter l D dA adr A hA N o0 q0 ((5 : Int32)) σ_8 σ_12 hc_13) (cwV 2 ht gi_Ro_48 rfl rfl rfl (by decide +kernel) ⟨Nat.le_of_ble_eq_true rfl, Nat.le_of_ble_eq_true rfl⟩) (gx_preV G hI cl_Ro (gx_ci_r ho0)) rfl rfl hl.1 rfl (lv_room (Nat.le_of_ble_eq_true rfl)) d_Ro_bury_28 ⟨Nat.zero_le _, Nat.zero_le _⟩) hI (st1 := []) rfl (fun H locs hI => ?_)
      cases hf
      exact W.vret hx hb hr (gx_F hI) hI.2.2.2 d_Ro_bury_31
    · replace hf := (if_neg c_11).symm.trans hf
      refine lv_aload_n hx hb d_Ro_bury_19 rfl (lv_at hl 0 rfl) ?_
      refine lv_bipush (v := 7) hx hb d_Ro_bury_20 (by decide) ?_
      obtain ⟨σ_14, eσ_14, hf⟩ := gx_lte hf
      refine gx_put G hI hA cl_Jb (gx_ci_j hg_5) 10 (by decide) (gx_rf_j hg_5 10) fl_Ro_35 rfl rfl rfl eσ_14 d_Ro_bury_22 (fun H locs hI => ?_)
      refine lv_aload_n hx hb d_Ro_bury_25 rfl (lv_at hl 1 rfl) ?_
      refine lv_aload_n hx hb d_Ro_bury_26 rfl (lv_at hl 2 rfl) ?_
      refine lv_iconst (v := 5) hx hb d_Ro_bury_27 (by decide) ?_
      obtain ⟨σ_15, hc_16, hf⟩ := gx_bve hf
      refine gx_go (va_runV (As := [.ref (adr q0), .int ((5 : Int32))]) (rest := []) G.1 (ct_Ro_enter l D dA adr A hA N o0 q0 ((5 : Int32)) σ_14 σ_15 hc_16) (cwV 2 ht gi_Ro_48 rfl rfl rfl (by decide +kernel) ⟨Nat.le_of_ble_eq_true rfl, Nat.le_of_ble_eq_true rfl⟩) (gx_preV G hI cl_Ro (gx_ci_r ho0)) rfl rfl hl.1 rfl (lv_room (Nat.le_of_ble_eq_true rfl)) d_Ro_bury_28 ⟨Nat.zero_le _, Nat.zero_le _⟩) hI (st1 := []) rfl (fun H locs hI => ?_)
      cases hf
      exact W.vret hx hb hr (gx_F hI) hI.2.2.2 d_Ro_bury_31
def fn_Ro_failReserved (N : Nat) (o0 : Nat) (q0 : Nat) (p1 : Int32) (σ : gx_M) : Option gx_M := if 8 ≤ o0 ∧ o0 < 25 then (if 42 ≤ q0 ∧ q0 < 722 then (gx_lt (gx_up σ q0 6 ((σ q0 6) + ((1 : Int32)))) (fun σ_1 => if (σ_1 q0 6) ≤ (σ_1 q0 3) then (gx_bd (fn_Jb_retryDelay N q0 σ_1) (fun r_5 σ_3 => gx_bv (fn_Jb_waitUntil N q0 ((3 : Int32)) (p1 + r_5) σ_3) (fun σ_6 => some σ_6))) else (gx_bv (fn_Ro_bury N o0 q0 σ_1) (fun σ_8 => some σ_8)))) else none) else none
set_option maxHeartbeats 4000000 in
set_option maxRecDepth 100000 in
theorem ct_Ro_failReserved (l : Launch) (D : va_G) (dA : Nat → ClassId) (adr : Nat → Nat) (A : Nat → Prop) (hA : gx_A A adr) (N : Nat) (o0 : Nat) (q0 : Nat) (p1 : Int32) (σ : gx_M) (σ' : gx_M) (hf : fn_Ro_failReserved N o0 q0 p1 σ = some σ') : Met l y_Ro_failReserved w_Ro_failReserved rm_Ro_failReserved (gx_Pc D dA adr σ [.ref (adr o0), .ref (adr q0), .int p1]) (gx_Q D dA adr A none σ') 0 0 A := by
  refine Met.ofW (cc := b_Ro_failReserved) (maxL := 3) (ret := none) (by decide) rfl ?_
  intro p e s m args below meth c s₁ B hml hv
  obtain ⟨rfl, hP, hK⟩ := hv
  have hx := B.exec
  have hb := B.bytes
  have hr := B.returns
  have hlocks := B.notSynchronized
  have ht : ∀ w ∈ gx_tb, w.before _ s = true := fun w h => atoms_spec (ws := w_Ro_failReserved) B.pre w (List.mem_cons_of_mem _ h)
  have hown : s.vm.findClass R_Ro = some m.cls := findClass_of_methodNamed B.named
  have G : gx_G p m c b_Ro_failReserved 3 s _ gx_tb R_Ro D dA := ⟨⟨hx, hb, hml, hown, ht⟩, hK⟩
  have hI : gx_I D dA adr A s.heap σ s.heap [] := ⟨hP, va_S.rf⟩
  have hl := lv_entry ([.ref (adr o0), .ref (adr q0), .int p1]) (n := 3) (Nat.le_of_ble_eq_true rfl)
  rw [lg_entry_eq]
  generalize (lg_sl ([.ref (adr o0), .ref (adr q0), .int p1]) ++ List.replicate (3 - (lg_sl ([.ref (adr o0), .ref (adr q0), .int p1])).length) Slot.unset).toArray = ls at hl ⊢
  have hl : lv_has ls 3 [(0, .ref (adr o0)), (1, .ref (adr q0)), (2, .int p1)] := hl
  rw [fn_Ro_failReserved] at hf
  obtain ⟨ho0, hf⟩ := gx_gd hf
  obtain ⟨hq0, hf⟩ := gx_gd hf
  refine lv_aload_n hx hb d_Ro_failReserved_0 rfl (lv_at hl 1 rfl) ?_
  refine lv_dup hx hb d_Ro_failReserved_1 rfl ?_
  refine gx_getI G hI cl_Jb (gx_ci_j hq0) 6 (by decide) (gx_rf_j hq0 6) fl_Ro_52 d_Ro_failReserved_2 ?_
  refine lv_iconst (v := 1) hx hb d_Ro_failReserved_5 (by decide) ?_
  refine lv_iadd hx hb d_Ro_failReserved_6 ?_
  obtain ⟨σ_1, eσ_1, hf⟩ := gx_lte hf
  refine gx_put G hI hA cl_Jb (gx_ci_j hq0) 6 (by decide) (gx_rf_j hq0 6) fl_Ro_52 rfl rfl rfl eσ_1 d_Ro_failReserved_7 (fun H locs hI => ?_)
  refine lv_aload_n hx hb d_Ro_failReserved_10 rfl (lv_at hl 1 rfl) ?_
  refine gx_getI G hI cl_Jb (gx_ci_j hq0) 6 (by decide) (gx_rf_j hq0 6) fl_Ro_52 d_Ro_failReserved_11 ?_
  refine lv_aload_n hx hb d_Ro_failReserved_14 rfl (lv_at hl 1 rfl) ?_
  refine gx_getI G hI cl_Jb (gx_ci_j hq0) 3 (by decide) (gx_rf_j hq0 3) fl_Ro_55 d_Ro_failReserved_15 ?_
  refine lv_icmp_le (tgt := 29) hx hb d_Ro_failReserved_18 (by decide) (fun c_2 => ?_) (fun c_2 => ?_)
  · replace hf := (if_pos c_2).symm.trans hf
    refine lv_aload_n hx hb d_Ro_failReserved_29 rfl (lv_at hl 1 rfl) ?_
    refine lv_iconst (v := 3) hx hb d_Ro_failReserved_30 (by decide) ?_
    refine lv_iload_n hx hb d_Ro_failReserved_31 rfl (lv_at hl 2 rfl) ?_
    refine lv_aload_n hx hb d_Ro_failReserved_32 rfl (lv_at hl 1 rfl) ?_
    obtain ⟨r_5, σ_3, hc_4, hf⟩ := gx_bde hf
    refine gx_go (va_runV (As := []) (rest := [.int p1, .int ((3 : Int32)), .ref (adr q0)]) G.1 (ct_Jb_retryDelay l D dA adr A hA N q0 σ_1 r_5 σ_3 hc_4) (cwV 0 ht gi_Ro_61 rfl rfl rfl (by decide +kernel) ⟨Nat.le_of_ble_eq_true rfl, Nat.le_of_ble_eq_true rfl⟩) (gx_preV G hI cl_Jb (gx_ci_j hq0)) rfl rfl hl.1 rfl (lv_room (Nat.le_of_ble_eq_true rfl)) d_Ro_failReserved_33 ⟨Nat.zero_le _, Nat.zero_le _⟩) hI (st1 := [.int r_5, .int p1, .int ((3 : Int32)), .ref (adr q0)]) rfl (fun H locs hI => ?_)
    refine lv_iadd hx hb d_Ro_failReserved_36 ?_
    obtain ⟨σ_6, hc_7, hf⟩ := gx_bve hf
    refine gx_go (va_runV (As := [.int ((3 : Int32)), .int (p1 + r_5)]) (rest := []) G.1 (ct_Jb_waitUntil l D dA adr A hA N q0 ((3 : Int32)) (p1 + r_5) σ_3 σ_6 hc_7) (cwV 2 ht gi_Ro_65 rfl rfl rfl (by decide +kernel) ⟨Nat.le_of_ble_eq_true rfl, Nat.le_of_ble_eq_true rfl⟩) (gx_preV G hI cl_Jb (gx_ci_j hq0)) rfl rfl hl.1 rfl (lv_room (Nat.le_of_ble_eq_true rfl)) d_Ro_failReserved_37 ⟨Nat.zero_le _, Nat.zero_le _⟩) hI (st1 := []) rfl (fun H locs hI => ?_)
    cases hf
    exact W.vret hx hb hr (gx_F hI) hI.2.2.2 d_Ro_failReserved_40
  · replace hf := (if_neg c_2).symm.trans hf
    refine lv_aload_n hx hb d_Ro_failReserved_21 rfl (lv_at hl 0 rfl) ?_
    refine lv_aload_n hx hb d_Ro_failReserved_22 rfl (lv_at hl 1 rfl) ?_
    obtain ⟨σ_8, hc_9, hf⟩ := gx_bve hf
    refine gx_go (va_runV (As := [.ref (adr q0)]) (rest := []) G.1 (ct_Ro_bury l D dA adr A hA N o0 q0 σ_1 σ_8 hc_9) (cwV 1 ht gi_Ro_58 rfl rfl rfl (by decide +kernel) ⟨Nat.le_of_ble_eq_true rfl, Nat.le_of_ble_eq_true rfl⟩) (gx_preV G hI cl_Ro (gx_ci_r ho0)) rfl rfl hl.1 rfl (lv_room (Nat.le_of_ble_eq_true rfl)) d_Ro_failReserved_23 ⟨Nat.zero_le _, Nat.zero_le _⟩) hI (st1 := []) rfl (fun H locs hI => ?_)
    refine lv_goto (tgt := 40) hx hb d_Ro_failReserved_26 (by decide) ?_
    cases hf
    exact W.vret hx hb hr (gx_F hI) hI.2.2.2 d_Ro_failReserved_40
def fn_Ro_nextDue_L4 (N : Nat) (u0 : Nat) (u1 : Int32) : Nat → Int32 → Option Nat → gx_M → Option (Option Nat × gx_M)
  | 0, _, _, _ => none
  | n + 1, v3, v2, σ => if (σ u0 1) ≤ v3 then (gx_mt v2 (some (none, σ)) (fun o_2 => if 42 ≤ o_2 ∧ o_2 < 722 then (some (some o_2, σ)) else none)) else (if 0 ≤ v3 ∧ v3 < 40 then (gx_bd (fn_Jb_isTimed N (gx_el (u0 + 17) v3.toNatClampNeg) σ) (fun r_7 σ_5 => if r_7 = 0 then (fn_Ro_nextDue_L4 N u0 u1 n (v3 + 1) v2 σ_5) else (if u1 < (σ_5 (gx_el (u0 + 17) v3.toNatClampNeg) 11) then (fn_Ro_nextDue_L4 N u0 u1 n (v3 + 1) v2 σ_5) else (gx_mt v2 (fn_Ro_nextDue_L4 N u0 u1 n (v3 + 1) (some (gx_el (u0 + 17) v3.toNatClampNeg)) σ_5) (fun o_10 => if 42 ≤ o_10 ∧ o_10 < 722 then (if (σ_5 o_10 11) ≤ (σ_5 (gx_el (u0 + 17) v3.toNatClampNeg) 11) then (fn_Ro_nextDue_L4 N u0 u1 n (v3 + 1) (some o_10) σ_5) else (fn_Ro_nextDue_L4 N u0 u1 n (v3 + 1) (some (gx_el (u0 + 17) v3.toNatClampNeg)) σ_5)) else none))))) else none)
def fn_Ro_nextDue (N : Nat) (o0 : Nat) (p0 : Int32) (σ : gx_M) : Option (Option Nat × gx_M) := if 8 ≤ o0 ∧ o0 < 25 then (fn_Ro_nextDue_L4 N o0 p0 N ((0 : Int32)) none σ) else none
set_option maxHeartbeats 4000000 in
set_option maxRecDepth 100000 in
theorem wl_Ro_nextDue_L4 {p : Program} {l : Launch} {e : Env} {s : State} {m : MethodId} {args : Array Value} {below : List Frame} {meth : Method} {c : Code} {D : va_G} {dA : Nat → ClassId} {adr : Nat → Nat} {A : Nat → Prop} (G : gx_G p m c b_Ro_nextDue 5 s args gx_tb R_Ro D dA) (hr : meth.sig.returnType = some (.object R_Jb)) (hlocks : meth.locks = false) (hA : gx_A A adr) (N : Nat) (res : Option Nat × gx_M) (u0 : Nat) (u1 : Int32) (hu0 : 8 ≤ u0 ∧ u0 < 25) : ∀ (n : Nat) (v3 : Int32) (v2 : Option Nat) (σ : gx_M) (H : Heap) (locs : List Loc) (ls : Array Slot), fn_Ro_nextDue_L4 N u0 u1 n v3 v2 σ = some res → gx_I D dA adr A s.heap σ H locs → lv_has ls 5 [(3, .int v3), (2, va_rf (Option.map adr v2)), (0, .ref (adr u0)), (1, .int u1)] → W p l e (headSpec w_Ro_nextDue rm_Ro_nextDue).room s m args below meth c H locs 0 0 (MQ below (gx_Q D dA adr A (some (va_rf (Option.map adr res.1))) res.2) args s 0 0 A) (F0 m 4 ls []) := by
  obtain ⟨⟨hx, hb, hml, hown, ht⟩, hK⟩ := id G
  intro n
  induction n with
  | zero =>
    intro v3 v2 σ H locs ls hf
    cases hf
  | succ n ih =>
    intro v3 v2 σ H locs ls hf hI hl
    rw [fn_Ro_nextDue_L4] at hf
    refine lv_iload_n hx hb d_Ro_nextDue_4 rfl (lv_at hl 0 rfl) ?_
    refine lv_aload_n hx hb d_Ro_nextDue_5 rfl (lv_at hl 2 rfl) ?_
    refine gx_getI G hI cl_Ro (gx_ci_r hu0) 1 (by decide) (gx_rf_r hu0 (by decide)) fl_Ro_20 d_Ro_nextDue_6 ?_
    refine lv_icmp_ge (tgt := 62) hx hb d_Ro_nextDue_9 (by decide) (fun c_1 => ?_) (fun c_1 => ?_)
    · replace hf := (if_pos c_1).symm.trans hf
      rcases v2 with _ | o_2
      · replace hf := gx_mtn hf
        refine lv_aload_nN hx hb d_Ro_nextDue_62 rfl (lv_at hl 1 rfl) ?_
        cases hf
        exact W.aret (v := .null) hx hb hr (Or.inl ⟨_, rfl⟩) (Or.inl rfl) (gx_F hI) hI.2.2.2 d_Ro_nextDue_63
      · replace hf := gx_mts hf
        obtain ⟨hg_3, hf⟩ := gx_gd hf
        refine lv_aload_n hx hb d_Ro_nextDue_62 rfl (lv_at hl 1 rfl) ?_
        cases hf
        exact W.aret hx hb hr (Or.inl ⟨_, rfl⟩) (Or.inr ⟨_, rfl⟩) (gx_F hI) hI.2.2.2 d_Ro_nextDue_63
    · replace hf := (if_neg c_1).symm.trans hf
      refine lv_aload_n hx hb d_Ro_nextDue_12 rfl (lv_at hl 2 rfl) ?_
      refine gx_getR (o' := u0 + 17) G hI cl_Ro (gx_ci_r hu0) 0 (by decide) (gx_rf_r0 hu0) fl_Ro_11 d_Ro_nextDue_13 ?_
      refine lv_iload_n hx hb d_Ro_nextDue_16 rfl (lv_at hl 0 rfl) ?_
      obtain ⟨hi_4, hf⟩ := gx_gd hf
      refine gx_aldJ G hI hu0 hi_4 d_Ro_nextDue_17 ?_
      refine lv_astore (i := 4) (lv' := [(4, .ref (adr (gx_el (u0 + 17) v3.toNatClampNeg))), (3, .int v3), (2, va_rf (Option.map adr v2)), (0, .ref (adr u0)), (1, .int u1)]) hx hb d_Ro_nextDue_18 hl (by decide) rfl (fun ls hl => ?_)
      refine lv_aload hx hb d_Ro_nextDue_20 (lv_at hl 0 rfl) ?_
      obtain ⟨r_7, σ_5, hc_6, hf⟩ := gx_bde hf
      refine gx_go (va_runV (As := []) (rest := []) G.1 (ct_Jb_isTimed l D dA adr A hA N (gx_el (u0 + 17) v3.toNatClampNeg) σ r_7 σ_5 hc_6) (cwV 0 ht gi_Ro_83 rfl rfl rfl (by decide +kernel) ⟨Nat.le_of_ble_eq_true rfl, Nat.le_of_ble_eq_true rfl⟩) (gx_preV G hI cl_Jb (gx_ci_j (gx_el_j hu0 hi_4))) rfl rfl hl.1 rfl (lv_room (Nat.le_of_ble_eq_true rfl)) d_Ro_nextDue_22 ⟨Nat.zero_le _, Nat.zero_le _⟩) hI (st1 := [.int r_7]) rfl (fun H locs hI => ?_)
      refine lv_if_eq (tgt := 56) hx hb d_Ro_nextDue_25 (by decide) (fun c_8 => ?_) (fun c_8 => ?_)
      · replace hf := (if_pos c_8).symm.trans hf
        refine lv_iinc (v := v3 + 1) (lv' := [(3, .int (v3 + 1)), (4, .ref (adr (gx_el (u0 + 17) v3.toNatClampNeg))), (2, va_rf (Option.map adr v2)), (0, .ref (adr u0)), (1, .int u1)]) hx hb d_Ro_nextDue_56 hl (k := 1) rfl rfl (by decide) (by simp [gx_cat, gx_rfs, gx_rfn]) (fun ls hl => ?_)
        refine lv_goto (tgt := 4) hx hb d_Ro_nextDue_59 (by decide) ?_
        exact ih (v3 + 1) v2 σ_5 H locs ls hf hI (lv_sub hl [0, 2, 3, 4] rfl)
      · replace hf := (if_neg c_8).symm.trans hf
        refine lv_aload hx hb d_Ro_nextDue_28 (lv_at hl 0 rfl) ?_
        refine gx_getI G hI cl_Jb (gx_ci_j (gx_el_j hu0 hi_4)) 11 (by decide) (gx_rf_j (gx_el_j hu0 hi_4) 11) fl_Ro_87 d_Ro_nextDue_30 ?_
        refine lv_iload_n hx hb d_Ro_nextDue_33 rfl (lv_at hl 4 rfl) ?_
        refine lv_icmp_gt (tgt := 56) hx hb d_Ro_nextDue_34 (by decide) (fun c_9 => ?_) (fun c_9 => ?_)
        · replace hf := (if_pos c_9).symm.trans hf
          refine lv_iinc (v := v3 + 1) (lv' := [(3, .int (v3 + 1)), (4, .ref (adr (gx_el (u0 + 17) v3.toNatClampNeg))), (2, va_rf (Option.map adr v2)), (0, .ref (adr u0)), (1, .int u1)]) hx hb d_Ro_nextDue_56 hl (k := 1) rfl rfl (by decide) (by simp [gx_cat, gx_rfs, gx_rfn]) (fun ls hl => ?_)
          refine lv_goto (tgt := 4) hx hb d_Ro_nextDue_59 (by decide) ?_
          exact ih (v3 + 1) v2 σ_5 H locs ls hf hI (lv_sub hl [0, 2, 3, 4] rfl)
        · replace hf := (if_neg c_9).symm.trans hf
          rcases v2 with _ | o_10
          · replace hf := gx_mtn hf
            refine lv_aload_nN hx hb d_Ro_nextDue_37 rfl (lv_at hl 2 rfl) ?_
            refine lv_ifnullN (tgt := 53) hx hb d_Ro_nextDue_38 (by decide) ?_
            refine lv_aload hx hb d_Ro_nextDue_53 (lv_at hl 0 rfl) ?_
            refine lv_astore_n (i := 2) (lv' := [(2, .ref (adr (gx_el (u0 + 17) v3.toNatClampNeg))), (4, .ref (adr (gx_el (u0 + 17) v3.toNatClampNeg))), (3, .int v3), (0, .ref (adr u0)), (1, .int u1)]) hx hb d_Ro_nextDue_55 rfl hl (by decide) rfl (fun ls hl => ?_)
            refine lv_iinc (v := v3 + 1) (lv' := [(3, .int (v3 + 1)), (2, .ref (adr (gx_el (u0 + 17) v3.toNatClampNeg))), (4, .ref (adr (gx_el (u0 + 17) v3.toNatClampNeg))), (0, .ref (adr u0)), (1, .int u1)]) hx hb d_Ro_nextDue_56 hl (k := 2) rfl rfl (by decide) rfl (fun ls hl => ?_)
            refine lv_goto (tgt := 4) hx hb d_Ro_nextDue_59 (by decide) ?_
            exact ih (v3 + 1) (some (gx_el (u0 + 17) v3.toNatClampNeg)) σ_5 H locs ls hf hI (lv_sub hl [0, 1, 3, 4] rfl)
          · replace hf := gx_mts hf
            obtain ⟨hg_11, hf⟩ := gx_gd hf
            refine lv_aload_n hx hb d_Ro_nextDue_37 rfl (lv_at hl 2 rfl) ?_
            refine lv_ifnull hx hb d_Ro_nextDue_38 ?_
            refine lv_aload hx hb d_Ro_nextDue_41 (lv_at hl 0 rfl) ?_
            refine gx_getI G hI cl_Jb (gx_ci_j (gx_el_j hu0 hi_4)) 11 (by decide) (gx_rf_j (gx_el_j hu0 hi_4) 11) fl_Ro_87 d_Ro_nextDue_43 ?_
            refine lv_aload_n hx hb d_Ro_nextDue_46 rfl (lv_at hl 2 rfl) ?_
            refine gx_getI G hI cl_Jb (gx_ci_j hg_11) 11 (by decide) (gx_rf_j hg_11 11) fl_Ro_87 d_Ro_nextDue_47 ?_
            refine lv_icmp_ge (tgt := 56) hx hb d_Ro_nextDue_50 (by decide) (fun c_12 => ?_) (fun c_12 => ?_)
            · replace hf := (if_pos c_12).symm.trans hf
              refine lv_iinc (v := v3 + 1) (lv' := [(3, .int (v3 + 1)), (4, .ref (adr (gx_el (u0 + 17) v3.toNatClampNeg))), (2, .ref (adr o_10)), (0, .ref (adr u0)), (1, .int u1)]) hx hb d_Ro_nextDue_56 hl (k := 1) rfl rfl (by decide) rfl (fun ls hl => ?_)
              refine lv_goto (tgt := 4) hx hb d_Ro_nextDue_59 (by decide) ?_
              exact ih (v3 + 1) (some o_10) σ_5 H locs ls hf hI (lv_sub hl [0, 2, 3, 4] rfl)
            · replace hf := (if_neg c_12).symm.trans hf
              refine lv_aload hx hb d_Ro_nextDue_53 (lv_at hl 0 rfl) ?_
              refine lv_astore_n (i := 2) (lv' := [(2, .ref (adr (gx_el (u0 + 17) v3.toNatClampNeg))), (4, .ref (adr (gx_el (u0 + 17) v3.toNatClampNeg))), (3, .int v3), (0, .ref (adr u0)), (1, .int u1)]) hx hb d_Ro_nextDue_55 rfl hl (by decide) rfl (fun ls hl => ?_)
              refine lv_iinc (v := v3 + 1) (lv' := [(3, .int (v3 + 1)), (2, .ref (adr (gx_el (u0 + 17) v3.toNatClampNeg))), (4, .ref (adr (gx_el (u0 + 17) v3.toNatClampNeg))), (0, .ref (adr u0)), (1, .int u1)]) hx hb d_Ro_nextDue_56 hl (k := 2) rfl rfl (by decide) rfl (fun ls hl => ?_)
              refine lv_goto (tgt := 4) hx hb d_Ro_nextDue_59 (by decide) ?_
              exact ih (v3 + 1) (some (gx_el (u0 + 17) v3.toNatClampNeg)) σ_5 H locs ls hf hI (lv_sub hl [0, 1, 3, 4] rfl)
set_option maxHeartbeats 4000000 in
set_option maxRecDepth 100000 in
theorem ct_Ro_nextDue (l : Launch) (D : va_G) (dA : Nat → ClassId) (adr : Nat → Nat) (A : Nat → Prop) (hA : gx_A A adr) (N : Nat) (o0 : Nat) (p0 : Int32) (σ : gx_M) (r : Option Nat) (σ' : gx_M) (hf : fn_Ro_nextDue N o0 p0 σ = some (r, σ')) : Met l y_Ro_nextDue w_Ro_nextDue rm_Ro_nextDue (gx_Pc D dA adr σ [.ref (adr o0), .int p0]) (gx_Q D dA adr A (some (va_rf (Option.map adr r))) σ') 0 0 A := by
  refine Met.ofW (cc := b_Ro_nextDue) (maxL := 5) (ret := some (.object R_Jb)) (by decide) rfl ?_
  intro p e s m args below meth c s₁ B hml hv
  obtain ⟨rfl, hP, hK⟩ := hv
  have hx := B.exec
  have hb := B.bytes
  have hr := B.returns
  have hlocks := B.notSynchronized
  have ht : ∀ w ∈ gx_tb, w.before _ s = true := fun w h => atoms_spec (ws := w_Ro_nextDue) B.pre w (List.mem_cons_of_mem _ h)
  have hown : s.vm.findClass R_Ro = some m.cls := findClass_of_methodNamed B.named
  have G : gx_G p m c b_Ro_nextDue 5 s _ gx_tb R_Ro D dA := ⟨⟨hx, hb, hml, hown, ht⟩, hK⟩
  have hI : gx_I D dA adr A s.heap σ s.heap [] := ⟨hP, va_S.rf⟩
  have hl := lv_entry ([.ref (adr o0), .int p0]) (n := 5) (Nat.le_of_ble_eq_true rfl)
  rw [lg_entry_eq]
  generalize (lg_sl ([.ref (adr o0), .int p0]) ++ List.replicate (5 - (lg_sl ([.ref (adr o0), .int p0])).length) Slot.unset).toArray = ls at hl ⊢
  have hl : lv_has ls 5 [(0, .ref (adr o0)), (1, .int p0)] := hl
  rw [fn_Ro_nextDue] at hf
  obtain ⟨ho0, hf⟩ := gx_gd hf
  refine lv_null hx hb d_Ro_nextDue_0 ?_
  refine lv_astore_nN (i := 2) (lv' := [(2, .null), (0, .ref (adr o0)), (1, .int p0)]) hx hb d_Ro_nextDue_1 rfl hl (by decide) rfl (fun ls hl => ?_)
  refine lv_iconst (v := 0) hx hb d_Ro_nextDue_2 (by decide) ?_
  refine lv_istore_n (i := 3) (lv' := [(3, .int ((0 : Int32))), (2, .null), (0, .ref (adr o0)), (1, .int p0)]) hx hb d_Ro_nextDue_3 rfl hl (by decide) rfl (fun ls hl => ?_)
  exact wl_Ro_nextDue_L4 G hr hlocks hA N _ o0 p0 ho0 N ((0 : Int32)) none σ _ _ ls hf hI (lv_sub hl [0, 1, 2, 3] rfl)
def fn_Ro_settleDue_L2 (N : Nat) (u0 : Nat) (u1 : Int32) : Nat → Int32 → gx_M → Option (Int32 × gx_M)
  | 0, _, _ => none
  | n + 1, v2, σ => if (σ u0 1) ≤ v2 then (some (σ u0 1, σ)) else (gx_bd (fn_Ro_nextDue N u0 u1 σ) (fun x_4 σ_2 => gx_mt x_4 (some (v2, σ_2)) (fun o_5 => if 42 ≤ o_5 ∧ o_5 < 722 then (if (σ_2 o_5 10) = ((2 : Int32)) then (gx_bv (fn_Ro_failReserved N u0 o_5 u1 σ_2) (fun σ_10 => fn_Ro_settleDue_L2 N u0 u1 n (v2 + 1) σ_10)) else (gx_bv (fn_Ro_enter N u0 o_5 ((1 : Int32)) σ_2) (fun σ_8 => fn_Ro_settleDue_L2 N u0 u1 n (v2 + 1) σ_8))) else none)))
def fn_Ro_settleDue (N : Nat) (o0 : Nat) (p0 : Int32) (σ : gx_M) : Option (Int32 × gx_M) := if 8 ≤ o0 ∧ o0 < 25 then (fn_Ro_settleDue_L2 N o0 p0 N ((0 : Int32)) σ) else none
set_option maxHeartbeats 4000000 in
set_option maxRecDepth 100000 in
theorem wl_Ro_settleDue_L2 {p : Program} {l : Launch} {e : Env} {s : State} {m : MethodId} {args : Array Value} {below : List Frame} {meth : Method} {c : Code} {D : va_G} {dA : Nat → ClassId} {adr : Nat → Nat} {A : Nat → Prop} (G : gx_G p m c b_Ro_settleDue 4 s args gx_tb R_Ro D dA) (hr : meth.sig.returnType = some .int) (hlocks : meth.locks = false) (hA : gx_A A adr) (N : Nat) (res : Int32 × gx_M) (u0 : Nat) (u1 : Int32) (hu0 : 8 ≤ u0 ∧ u0 < 25) : ∀ (n : Nat) (v2 : Int32) (σ : gx_M) (H : Heap) (locs : List Loc) (ls : Array Slot), fn_Ro_settleDue_L2 N u0 u1 n v2 σ = some res → gx_I D dA adr A s.heap σ H locs → lv_has ls 4 [(2, .int v2), (0, .ref (adr u0)), (1, .int u1)] → W p l e (headSpec w_Ro_settleDue rm_Ro_settleDue).room s m args below meth c H locs 0 0 (MQ below (gx_Q D dA adr A (some (.int res.1)) res.2) args s 0 0 A) (F0 m 2 ls []) := by
  obtain ⟨⟨hx, hb, hml, hown, ht⟩, hK⟩ := id G
  intro n
  induction n with
  | zero =>
    intro v2 σ H locs ls hf
    cases hf
  | succ n ih =>
    intro v2 σ H locs ls hf hI hl
    rw [fn_Ro_settleDue_L2] at hf
    refine lv_iload_n hx hb d_Ro_settleDue_2 rfl (lv_at hl 0 rfl) ?_
    refine lv_aload_n hx hb d_Ro_settleDue_3 rfl (lv_at hl 1 rfl) ?_
    refine gx_getI G hI cl_Ro (gx_ci_r hu0) 1 (by decide) (gx_rf_r hu0 (by decide)) fl_Ro_20 d_Ro_settleDue_4 ?_
    refine lv_icmp_ge (tgt := 51) hx hb d_Ro_settleDue_7 (by decide) (fun c_1 => ?_) (fun c_1 => ?_)
    · replace hf := (if_pos c_1).symm.trans hf
      refine lv_aload_n hx hb d_Ro_settleDue_51 rfl (lv_at hl 1 rfl) ?_
      refine gx_getI G hI cl_Ro (gx_ci_r hu0) 1 (by decide) (gx_rf_r hu0 (by decide)) fl_Ro_20 d_Ro_settleDue_52 ?_
      cases hf
      exact W.iret hx hb hr (gx_F hI) hI.2.2.2 d_Ro_settleDue_55
    · replace hf := (if_neg c_1).symm.trans hf
      refine lv_aload_n hx hb d_Ro_settleDue_10 rfl (lv_at hl 1 rfl) ?_
      refine lv_iload_n hx hb d_Ro_settleDue_11 rfl (lv_at hl 2 rfl) ?_
      obtain ⟨x_4, σ_2, hc_3, hf⟩ := gx_bde hf
      rcases x_4 with _ | o_5
      · replace hf := gx_mtn hf
        refine gx_go (va_runV (As := [.int u1]) (rest := []) G.1 (ct_Ro_nextDue l D dA adr A hA N u0 u1 σ none σ_2 hc_3) (cwV 1 ht gi_Ro_76 rfl rfl rfl (by decide +kernel) ⟨Nat.le_of_ble_eq_true rfl, Nat.le_of_ble_eq_true rfl⟩) (gx_preV G hI cl_Ro (gx_ci_r hu0)) rfl rfl hl.1 rfl (lv_room (Nat.le_of_ble_eq_true rfl)) d_Ro_settleDue_12 ⟨Nat.zero_le _, Nat.zero_le _⟩) hI (st1 := [.null]) rfl (fun H locs hI => ?_)
        refine lv_astore_nN (i := 3) (lv' := [(3, .null), (2, .int v2), (0, .ref (adr u0)), (1, .int u1)]) hx hb d_Ro_settleDue_15 rfl hl (by decide) rfl (fun ls hl => ?_)
        refine lv_aload_nN hx hb d_Ro_settleDue_16 rfl (lv_at hl 0 rfl) ?_
        refine lv_ifnonnullN hx hb d_Ro_settleDue_17 ?_
        refine lv_iload_n hx hb d_Ro_settleDue_20 rfl (lv_at hl 1 rfl) ?_
        cases hf
        exact W.iret hx hb hr (gx_F hI) hI.2.2.2 d_Ro_settleDue_21
      · replace hf := gx_mts hf
        obtain ⟨hg_6, hf⟩ := gx_gd hf
        refine gx_go (va_runV (As := [.int u1]) (rest := []) G.1 (ct_Ro_nextDue l D dA adr A hA N u0 u1 σ (some o_5) σ_2 hc_3) (cwV 1 ht gi_Ro_76 rfl rfl rfl (by decide +kernel) ⟨Nat.le_of_ble_eq_true rfl, Nat.le_of_ble_eq_true rfl⟩) (gx_preV G hI cl_Ro (gx_ci_r hu0)) rfl rfl hl.1 rfl (lv_room (Nat.le_of_ble_eq_true rfl)) d_Ro_settleDue_12 ⟨Nat.zero_le _, Nat.zero_le _⟩) hI (st1 := [.ref (adr o_5)]) rfl (fun H locs hI => ?_)
        refine lv_astore_n (i := 3) (lv' := [(3, .ref (adr o_5)), (2, .int v2), (0, .ref (adr u0)), (1, .int u1)]) hx hb d_Ro_settleDue_15 rfl hl (by decide) rfl (fun ls hl => ?_)
        refine lv_aload_n hx hb d_Ro_settleDue_16 rfl (lv_at hl 0 rfl) ?_
        refine lv_ifnonnull (tgt := 22) hx hb d_Ro_settleDue_17 (by decide) ?_
        refine lv_aload_n hx hb d_Ro_settleDue_22 rfl (lv_at hl 0 rfl) ?_
        refine gx_getI G hI cl_Jb (gx_ci_j hg_6) 10 (by decide) (gx_rf_j hg_6 10) fl_Ro_35 d_Ro_settleDue_23 ?_
        refine lv_iconst (v := 2) hx hb d_Ro_settleDue_26 (by decide) ?_
        refine lv_icmp_ne (tgt := 39) hx hb d_Ro_settleDue_27 (by decide) (fun c_7 => ?_) (fun c_7 => ?_)
        · replace hf := (if_neg c_7).symm.trans hf
          refine lv_aload_n hx hb d_Ro_settleDue_39 rfl (lv_at hl 2 rfl) ?_
          refine lv_aload_n hx hb d_Ro_settleDue_40 rfl (lv_at hl 0 rfl) ?_
          refine lv_iconst (v := 1) hx hb d_Ro_settleDue_41 (by decide) ?_
          obtain ⟨σ_8, hc_9, hf⟩ := gx_bve hf
          refine gx_go (va_runV (As := [.ref (adr o_5), .int ((1 : Int32))]) (rest := []) G.1 (ct_Ro_enter l D dA adr A hA N u0 o_5 ((1 : Int32)) σ_2 σ_8 hc_9) (cwV 2 ht gi_Ro_48 rfl rfl rfl (by decide +kernel) ⟨Nat.le_of_ble_eq_true rfl, Nat.le_of_ble_eq_true rfl⟩) (gx_preV G hI cl_Ro (gx_ci_r hu0)) rfl rfl hl.1 rfl (lv_room (Nat.le_of_ble_eq_true rfl)) d_Ro_settleDue_42 ⟨Nat.zero_le _, Nat.zero_le _⟩) hI (st1 := []) rfl (fun H locs hI => ?_)
          refine lv_iinc (v := v2 + 1) (lv' := [(2, .int (v2 + 1)), (3, .ref (adr o_5)), (0, .ref (adr u0)), (1, .int u1)]) hx hb d_Ro_settleDue_45 hl (k := 1) rfl rfl (by decide) rfl (fun ls hl => ?_)
          refine lv_goto (tgt := 2) hx hb d_Ro_settleDue_48 (by decide) ?_
          exact ih (v2 + 1) σ_8 H locs ls hf hI (lv_sub hl [0, 2, 3] rfl)
        · replace hf := (if_pos c_7).symm.trans hf
          refine lv_aload_n hx hb d_Ro_settleDue_30 rfl (lv_at hl 2 rfl) ?_
          refine lv_aload_n hx hb d_Ro_settleDue_31 rfl (lv_at hl 0 rfl) ?_
          refine lv_iload_n hx hb d_Ro_settleDue_32 rfl (lv_at hl 3 rfl) ?_
          obtain ⟨σ_10, hc_11, hf⟩ := gx_bve hf
          refine gx_go (va_runV (As := [.ref (adr o_5), .int u1]) (rest := []) G.1 (ct_Ro_failReserved l D dA adr A hA N u0 o_5 u1 σ_2 σ_10 hc_11) (cwV 2 ht gi_Ro_80 rfl rfl rfl (by decide +kernel) ⟨Nat.le_of_ble_eq_true rfl, Nat.le_of_ble_eq_true rfl⟩) (gx_preV G hI cl_Ro (gx_ci_r hu0)) rfl rfl hl.1 rfl (lv_room (Nat.le_of_ble_eq_true rfl)) d_Ro_settleDue_33 ⟨Nat.zero_le _, Nat.zero_le _⟩) hI (st1 := []) rfl (fun H locs hI => ?_)
          refine lv_goto (tgt := 45) hx hb d_Ro_settleDue_36 (by decide) ?_
          refine lv_iinc (v := v2 + 1) (lv' := [(2, .int (v2 + 1)), (3, .ref (adr o_5)), (0, .ref (adr u0)), (1, .int u1)]) hx hb d_Ro_settleDue_45 hl (k := 1) rfl rfl (by decide) rfl (fun ls hl => ?_)
          refine lv_goto (tgt := 2) hx hb d_Ro_settleDue_48 (by decide) ?_
          exact ih (v2 + 1) σ_10 H locs ls hf hI (lv_sub hl [0, 2, 3] rfl)
set_option maxHeartbeats 4000000 in
set_option maxRecDepth 100000 in
theorem ct_Ro_settleDue (l : Launch) (D : va_G) (dA : Nat → ClassId) (adr : Nat → Nat) (A : Nat → Prop) (hA : gx_A A adr) (N : Nat) (o0 : Nat) (p0 : Int32) (σ : gx_M) (r : Int32) (σ' : gx_M) (hf : fn_Ro_settleDue N o0 p0 σ = some (r, σ')) : Met l y_Ro_settleDue w_Ro_settleDue rm_Ro_settleDue (gx_Pc D dA adr σ [.ref (adr o0), .int p0]) (gx_Q D dA adr A (some (.int r)) σ') 0 0 A := by
  refine Met.ofW (cc := b_Ro_settleDue) (maxL := 4) (ret := some .int) (by decide) rfl ?_
  intro p e s m args below meth c s₁ B hml hv
  obtain ⟨rfl, hP, hK⟩ := hv
  have hx := B.exec
  have hb := B.bytes
  have hr := B.returns
  have hlocks := B.notSynchronized
  have ht : ∀ w ∈ gx_tb, w.before _ s = true := fun w h => atoms_spec (ws := w_Ro_settleDue) B.pre w (List.mem_cons_of_mem _ h)
  have hown : s.vm.findClass R_Ro = some m.cls := findClass_of_methodNamed B.named
  have G : gx_G p m c b_Ro_settleDue 4 s _ gx_tb R_Ro D dA := ⟨⟨hx, hb, hml, hown, ht⟩, hK⟩
  have hI : gx_I D dA adr A s.heap σ s.heap [] := ⟨hP, va_S.rf⟩
  have hl := lv_entry ([.ref (adr o0), .int p0]) (n := 4) (Nat.le_of_ble_eq_true rfl)
  rw [lg_entry_eq]
  generalize (lg_sl ([.ref (adr o0), .int p0]) ++ List.replicate (4 - (lg_sl ([.ref (adr o0), .int p0])).length) Slot.unset).toArray = ls at hl ⊢
  have hl : lv_has ls 4 [(0, .ref (adr o0)), (1, .int p0)] := hl
  rw [fn_Ro_settleDue] at hf
  obtain ⟨ho0, hf⟩ := gx_gd hf
  refine lv_iconst (v := 0) hx hb d_Ro_settleDue_0 (by decide) ?_
  refine lv_istore_n (i := 2) (lv' := [(2, .int ((0 : Int32))), (0, .ref (adr o0)), (1, .int p0)]) hx hb d_Ro_settleDue_1 rfl hl (by decide) rfl (fun ls hl => ?_)
  exact wl_Ro_settleDue_L2 G hr hlocks hA N _ o0 p0 ho0 N ((0 : Int32)) σ _ _ ls hf hI (lv_sub hl [0, 1, 2] rfl)
def fn_Ro_hasLiveKey_L9 (N : Nat) (u0 : Nat) (u1 : Int32) : Nat → Int32 → gx_M → Option (Int32 × gx_M)
  | 0, _, _ => none
  | n + 1, v2, σ => if (σ u0 1) ≤ v2 then (some ((0 : Int32), σ)) else (if 0 ≤ v2 ∧ v2 < 40 then (if (σ (gx_el (u0 + 17) v2.toNatClampNeg) 5) = u1 then (if 0 ≤ v2 ∧ v2 < 40 then (gx_bd (fn_Jb_isLive N (gx_el (u0 + 17) v2.toNatClampNeg) σ) (fun r_8 σ_6 => if r_8 = 0 then (fn_Ro_hasLiveKey_L9 N u0 u1 n (v2 + 1) σ_6) else (some ((1 : Int32), σ_6)))) else none) else (fn_Ro_hasLiveKey_L9 N u0 u1 n (v2 + 1) σ)) else none)
def fn_Ro_hasLiveKey (N : Nat) (o0 : Nat) (p0 : Int32) (σ : gx_M) : Option (Int32 × gx_M) := if 8 ≤ o0 ∧ o0 < 25 then (if p0 = ((-1 : Int32)) then (some ((0 : Int32), σ)) else (fn_Ro_hasLiveKey_L9 N o0 p0 N ((0 : Int32)) σ)) else none
set_option maxHeartbeats 4000000 in
set_option maxRecDepth 100000 in
theorem wl_Ro_hasLiveKey_L9 {p : Program} {l : Launch} {e : Env} {s : State} {m : MethodId} {args : Array Value} {below : List Frame} {meth : Method} {c : Code} {D : va_G} {dA : Nat → ClassId} {adr : Nat → Nat} {A : Nat → Prop} (G : gx_G p m c b_Ro_hasLiveKey 3 s args gx_tb R_Ro D dA) (hr : meth.sig.returnType = some .boolean) (hlocks : meth.locks = false) (hA : gx_A A adr) (N : Nat) (res : Int32 × gx_M) (u0 : Nat) (u1 : Int32) (hu0 : 8 ≤ u0 ∧ u0 < 25) : ∀ (n : Nat) (v2 : Int32) (σ : gx_M) (H : Heap) (locs : List Loc) (ls : Array Slot), fn_Ro_hasLiveKey_L9 N u0 u1 n v2 σ = some res → gx_I D dA adr A s.heap σ H locs → lv_has ls 3 [(2, .int v2), (0, .ref (adr u0)), (1, .int u1)] → W p l e (headSpec w_Ro_hasLiveKey rm_Ro_hasLiveKey).room s m args below meth c H locs 0 0 (MQ below (gx_Q D dA adr A (some (.int res.1)) res.2) args s 0 0 A) (F0 m 9 ls []) := by
  obtain ⟨⟨hx, hb, hml, hown, ht⟩, hK⟩ := id G
  intro n
  induction n with
  | zero =>
    intro v2 σ H locs ls hf
    cases hf
  | succ n ih =>
    intro v2 σ H locs ls hf hI hl
    rw [fn_Ro_hasLiveKey_L9] at hf
    refine lv_iload_n hx hb d_Ro_hasLiveKey_9 rfl (lv_at hl 0 rfl) ?_
    refine lv_aload_n hx hb d_Ro_hasLiveKey_10 rfl (lv_at hl 1 rfl) ?_
    refine gx_getI G hI cl_Ro (gx_ci_r hu0) 1 (by decide) (gx_rf_r hu0 (by decide)) fl_Ro_20 d_Ro_hasLiveKey_11 ?_
    refine lv_icmp_ge (tgt := 50) hx hb d_Ro_hasLiveKey_14 (by decide) (fun c_2 => ?_) (fun c_2 => ?_)
    · replace hf := (if_pos c_2).symm.trans hf
      refine lv_iconst (v := 0) hx hb d_Ro_hasLiveKey_50 (by decide) ?_
      cases hf
      exact W.zret (v := (0 : Int32)) hx hb hr (by decide) (gx_F hI) hI.2.2.2 d_Ro_hasLiveKey_51
    · replace hf := (if_neg c_2).symm.trans hf
      refine lv_aload_n hx hb d_Ro_hasLiveKey_17 rfl (lv_at hl 1 rfl) ?_
      refine gx_getR (o' := u0 + 17) G hI cl_Ro (gx_ci_r hu0) 0 (by decide) (gx_rf_r0 hu0) fl_Ro_11 d_Ro_hasLiveKey_18 ?_
      refine lv_iload_n hx hb d_Ro_hasLiveKey_21 rfl (lv_at hl 0 rfl) ?_
      obtain ⟨hi_3, hf⟩ := gx_gd hf
      refine gx_aldJ G hI hu0 hi_3 d_Ro_hasLiveKey_22 ?_
      refine gx_getI G hI cl_Jb (gx_ci_j (gx_el_j hu0 hi_3)) 5 (by decide) (gx_rf_j (gx_el_j hu0 hi_3) 5) fl_Ro_90 d_Ro_hasLiveKey_23 ?_
      refine lv_iload_n hx hb d_Ro_hasLiveKey_26 rfl (lv_at hl 2 rfl) ?_
      refine lv_icmp_ne (tgt := 44) hx hb d_Ro_hasLiveKey_27 (by decide) (fun c_4 => ?_) (fun c_4 => ?_)
      · replace hf := (if_neg c_4).symm.trans hf
        refine lv_iinc (v := v2 + 1) (lv' := [(2, .int (v2 + 1)), (0, .ref (adr u0)), (1, .int u1)]) hx hb d_Ro_hasLiveKey_44 hl (k := 0) rfl rfl (by decide) rfl (fun ls hl => ?_)
        refine lv_goto (tgt := 9) hx hb d_Ro_hasLiveKey_47 (by decide) ?_
        exact ih (v2 + 1) σ H locs ls hf hI (lv_sub hl [0, 1, 2] rfl)
      · replace hf := (if_pos c_4).symm.trans hf
        refine lv_aload_n hx hb d_Ro_hasLiveKey_30 rfl (lv_at hl 1 rfl) ?_
        refine gx_getR (o' := u0 + 17) G hI cl_Ro (gx_ci_r hu0) 0 (by decide) (gx_rf_r0 hu0) fl_Ro_11 d_Ro_hasLiveKey_31 ?_
        refine lv_iload_n hx hb d_Ro_hasLiveKey_34 rfl (lv_at hl 0 rfl) ?_
        obtain ⟨hi_5, hf⟩ := gx_gd hf
        refine gx_aldJ G hI hu0 hi_5 d_Ro_hasLiveKey_35 ?_
        obtain ⟨r_8, σ_6, hc_7, hf⟩ := gx_bde hf
        refine gx_go (va_runV (As := []) (rest := []) G.1 (ct_Jb_isLive l D dA adr A hA N (gx_el (u0 + 17) v2.toNatClampNeg) σ r_8 σ_6 hc_7) (cwV 0 ht gi_Ro_93 rfl rfl rfl (by decide +kernel) ⟨Nat.le_of_ble_eq_true rfl, Nat.le_of_ble_eq_true rfl⟩) (gx_preV G hI cl_Jb (gx_ci_j (gx_el_j hu0 hi_5))) rfl rfl hl.1 rfl (lv_room (Nat.le_of_ble_eq_true rfl)) d_Ro_hasLiveKey_36 ⟨Nat.zero_le _, Nat.zero_le _⟩) hI (st1 := [.int r_8]) rfl (fun H locs hI => ?_)
        refine lv_if_eq (tgt := 44) hx hb d_Ro_hasLiveKey_39 (by decide) (fun c_9 => ?_) (fun c_9 => ?_)
        · replace hf := (if_pos c_9).symm.trans hf
          refine lv_iinc (v := v2 + 1) (lv' := [(2, .int (v2 + 1)), (0, .ref (adr u0)), (1, .int u1)]) hx hb d_Ro_hasLiveKey_44 hl (k := 0) rfl rfl (by decide) rfl (fun ls hl => ?_)
          refine lv_goto (tgt := 9) hx hb d_Ro_hasLiveKey_47 (by decide) ?_
          exact ih (v2 + 1) σ_6 H locs ls hf hI (lv_sub hl [0, 1, 2] rfl)
        · replace hf := (if_neg c_9).symm.trans hf
          refine lv_iconst (v := 1) hx hb d_Ro_hasLiveKey_42 (by decide) ?_
          cases hf
          exact W.zret (v := (1 : Int32)) hx hb hr (by decide) (gx_F hI) hI.2.2.2 d_Ro_hasLiveKey_43
set_option maxHeartbeats 4000000 in
set_option maxRecDepth 100000 in
theorem ct_Ro_hasLiveKey (l : Launch) (D : va_G) (dA : Nat → ClassId) (adr : Nat → Nat) (A : Nat → Prop) (hA : gx_A A adr) (N : Nat) (o0 : Nat) (p0 : Int32) (σ : gx_M) (r : Int32) (σ' : gx_M) (hf : fn_Ro_hasLiveKey N o0 p0 σ = some (r, σ')) : Met l y_Ro_hasLiveKey w_Ro_hasLiveKey rm_Ro_hasLiveKey (gx_Pc D dA adr σ [.ref (adr o0), .int p0]) (gx_Q D dA adr A (some (.int r)) σ') 0 0 A := by
  refine Met.ofW (cc := b_Ro_hasLiveKey) (maxL := 3) (ret := some .boolean) (by decide) rfl ?_
  intro p e s m args below meth c s₁ B hml hv
  obtain ⟨rfl, hP, hK⟩ := hv
  have hx := B.exec
  have hb := B.bytes
  have hr := B.returns
  have hlocks := B.notSynchronized
  have ht : ∀ w ∈ gx_tb, w.before _ s = true := fun w h => atoms_spec (ws := w_Ro_hasLiveKey) B.pre w (List.mem_cons_of_mem _ h)
  have hown : s.vm.findClass R_Ro = some m.cls := findClass_of_methodNamed B.named
  have G : gx_G p m c b_Ro_hasLiveKey 3 s _ gx_tb R_Ro D dA := ⟨⟨hx, hb, hml, hown, ht⟩, hK⟩
  have hI : gx_I D dA adr A s.heap σ s.heap [] := ⟨hP, va_S.rf⟩
  have hl := lv_entry ([.ref (adr o0), .int p0]) (n := 3) (Nat.le_of_ble_eq_true rfl)
  rw [lg_entry_eq]
  generalize (lg_sl ([.ref (adr o0), .int p0]) ++ List.replicate (3 - (lg_sl ([.ref (adr o0), .int p0])).length) Slot.unset).toArray = ls at hl ⊢
  have hl : lv_has ls 3 [(0, .ref (adr o0)), (1, .int p0)] := hl
  rw [fn_Ro_hasLiveKey] at hf
  obtain ⟨ho0, hf⟩ := gx_gd hf
  refine lv_iload_n hx hb d_Ro_hasLiveKey_0 rfl (lv_at hl 1 rfl) ?_
  refine lv_iconst (v := (-1)) hx hb d_Ro_hasLiveKey_1 (by decide) ?_
  refine lv_icmp_ne (tgt := 7) hx hb d_Ro_hasLiveKey_2 (by decide) (fun c_1 => ?_) (fun c_1 => ?_)
  · replace hf := (if_neg c_1).symm.trans hf
    refine lv_iconst (v := 0) hx hb d_Ro_hasLiveKey_7 (by decide) ?_
    refine lv_istore_n (i := 2) (lv' := [(2, .int ((0 : Int32))), (0, .ref (adr o0)), (1, .int p0)]) hx hb d_Ro_hasLiveKey_8 rfl hl (by decide) rfl (fun ls hl => ?_)
    exact wl_Ro_hasLiveKey_L9 G hr hlocks hA N _ o0 p0 ho0 N ((0 : Int32)) σ _ _ ls hf hI (lv_sub hl [0, 1, 2] rfl)
  · replace hf := (if_pos c_1).symm.trans hf
    refine lv_iconst (v := 0) hx hb d_Ro_hasLiveKey_5 (by decide) ?_
    cases hf
    exact W.zret (v := (0 : Int32)) hx hb hr (by decide) (gx_F hI) hI.2.2.2 d_Ro_hasLiveKey_6
def fn_Ro_reservedBy_L2 (N : Nat) (u0 : Nat) (u1 : Int32) : Nat → Int32 → gx_M → Option (Option Nat × gx_M)
  | 0, _, _ => none
  | n + 1, v2, σ => if (σ u0 1) ≤ v2 then (some (none, σ)) else (if 0 ≤ v2 ∧ v2 < 40 then (if (σ (gx_el (u0 + 17) v2.toNatClampNeg) 10) = ((2 : Int32)) then (if 0 ≤ v2 ∧ v2 < 40 then (if (σ (gx_el (u0 + 17) v2.toNatClampNeg) 12) = u1 then (if 0 ≤ v2 ∧ v2 < 40 then (some (some (gx_el (u0 + 17) v2.toNatClampNeg), σ)) else none) else (fn_Ro_reservedBy_L2 N u0 u1 n (v2 + 1) σ)) else none) else (fn_Ro_reservedBy_L2 N u0 u1 n (v2 + 1) σ)) else none)
def fn_Ro_reservedBy (N : Nat) (o0 : Nat) (p0 : Int32) (σ : gx_M) : Option (Option Nat × gx_M) := if 8 ≤ o0 ∧ o0 < 25 then (fn_Ro_reservedBy_L2 N o0 p0 N ((0 : Int32)) σ) else none
set_option maxHeartbeats 4000000 in
set_option maxRecDepth 100000 in
theorem wl_Ro_reservedBy_L2 {p : Program} {l : Launch} {e : Env} {s : State} {m : MethodId} {args : Array Value} {below : List Frame} {meth : Method} {c : Code} {D : va_G} {dA : Nat → ClassId} {adr : Nat → Nat} {A : Nat → Prop} (G : gx_G p m c b_Ro_reservedBy 3 s args gx_tb R_Ro D dA) (hr : meth.sig.returnType = some (.object R_Jb)) (hlocks : meth.locks = false) (hA : gx_A A adr) (N : Nat) (res : Option Nat × gx_M) (u0 : Nat) (u1 : Int32) (hu0 : 8 ≤ u0 ∧ u0 < 25) : ∀ (n : Nat) (v2 : Int32) (σ : gx_M) (H : Heap) (locs : List Loc) (ls : Array Slot), fn_Ro_reservedBy_L2 N u0 u1 n v2 σ = some res → gx_I D dA adr A s.heap σ H locs → lv_has ls 3 [(2, .int v2), (0, .ref (adr u0)), (1, .int u1)] → W p l e (headSpec w_Ro_reservedBy rm_Ro_reservedBy).room s m args below meth c H locs 0 0 (MQ below (gx_Q D dA adr A (some (va_rf (Option.map adr res.1))) res.2) args s 0 0 A) (F0 m 2 ls []) := by
  obtain ⟨⟨hx, hb, hml, hown, ht⟩, hK⟩ := id G
  intro n
  induction n with
  | zero =>
    intro v2 σ H locs ls hf
    cases hf
  | succ n ih =>
    intro v2 σ H locs ls hf hI hl
    rw [fn_Ro_reservedBy_L2] at hf
    refine lv_iload_n hx hb d_Ro_reservedBy_2 rfl (lv_at hl 0 rfl) ?_
    refine lv_aload_n hx hb d_Ro_reservedBy_3 rfl (lv_at hl 1 rfl) ?_
    refine gx_getI G hI cl_Ro (gx_ci_r hu0) 1 (by decide) (gx_rf_r hu0 (by decide)) fl_Ro_20 d_Ro_reservedBy_4 ?_
    refine lv_icmp_ge (tgt := 49) hx hb d_Ro_reservedBy_7 (by decide) (fun c_1 => ?_) (fun c_1 => ?_)
    · replace hf := (if_pos c_1).symm.trans hf
      refine lv_null hx hb d_Ro_reservedBy_49 ?_
      cases hf
      exact W.aret (v := .null) hx hb hr (Or.inl ⟨_, rfl⟩) (Or.inl rfl) (gx_F hI) hI.2.2.2 d_Ro_reservedBy_50
    · replace hf := (if_neg c_1).symm.trans hf
      refine lv_aload_n hx hb d_Ro_reservedBy_10 rfl (lv_at hl 1 rfl) ?_
      refine gx_getR (o' := u0 + 17) G hI cl_Ro (gx_ci_r hu0) 0 (by decide) (gx_rf_r0 hu0) fl_Ro_11 d_Ro_reservedBy_11 ?_
      refine lv_iload_n hx hb d_Ro_reservedBy_14 rfl (lv_at hl 0 rfl) ?_
      obtain ⟨hi_2, hf⟩ := gx_gd hf
      refine gx_aldJ G hI hu0 hi_2 d_Ro_reservedBy_15 ?_
      refine gx_getI G hI cl_Jb (gx_ci_j (gx_el_j hu0 hi_2)) 10 (by decide) (gx_rf_j (gx_el_j hu0 hi_2) 10) fl_Ro_35 d_Ro_reservedBy_16 ?_
      refine lv_iconst (v := 2) hx hb d_Ro_reservedBy_19 (by decide) ?_
      refine lv_icmp_ne (tgt := 43) hx hb d_Ro_reservedBy_20 (by decide) (fun c_3 => ?_) (fun c_3 => ?_)
      · replace hf := (if_neg c_3).symm.trans hf
        refine lv_iinc (v := v2 + 1) (lv' := [(2, .int (v2 + 1)), (0, .ref (adr u0)), (1, .int u1)]) hx hb d_Ro_reservedBy_43 hl (k := 0) rfl rfl (by decide) rfl (fun ls hl => ?_)
        refine lv_goto (tgt := 2) hx hb d_Ro_reservedBy_46 (by decide) ?_
        exact ih (v2 + 1) σ H locs ls hf hI (lv_sub hl [0, 1, 2] rfl)
      · replace hf := (if_pos c_3).symm.trans hf
        refine lv_aload_n hx hb d_Ro_reservedBy_23 rfl (lv_at hl 1 rfl) ?_
        refine gx_getR (o' := u0 + 17) G hI cl_Ro (gx_ci_r hu0) 0 (by decide) (gx_rf_r0 hu0) fl_Ro_11 d_Ro_reservedBy_24 ?_
        refine lv_iload_n hx hb d_Ro_reservedBy_27 rfl (lv_at hl 0 rfl) ?_
        obtain ⟨hi_4, hf⟩ := gx_gd hf
        refine gx_aldJ G hI hu0 hi_4 d_Ro_reservedBy_28 ?_
        refine gx_getI G hI cl_Jb (gx_ci_j (gx_el_j hu0 hi_4)) 12 (by decide) (gx_rf_j (gx_el_j hu0 hi_4) 12) fl_Ro_96 d_Ro_reservedBy_29 ?_
        refine lv_iload_n hx hb d_Ro_reservedBy_32 rfl (lv_at hl 2 rfl) ?_
        refine lv_icmp_ne (tgt := 43) hx hb d_Ro_reservedBy_33 (by decide) (fun c_5 => ?_) (fun c_5 => ?_)
        · replace hf := (if_neg c_5).symm.trans hf
          refine lv_iinc (v := v2 + 1) (lv' := [(2, .int (v2 + 1)), (0, .ref (adr u0)), (1, .int u1)]) hx hb d_Ro_reservedBy_43 hl (k := 0) rfl rfl (by decide) rfl (fun ls hl => ?_)
          refine lv_goto (tgt := 2) hx hb d_Ro_reservedBy_46 (by decide) ?_
          exact ih (v2 + 1) σ H locs ls hf hI (lv_sub hl [0, 1, 2] rfl)
        · replace hf := (if_pos c_5).symm.trans hf
          refine lv_aload_n hx hb d_Ro_reservedBy_36 rfl (lv_at hl 1 rfl) ?_
          refine gx_getR (o' := u0 + 17) G hI cl_Ro (gx_ci_r hu0) 0 (by decide) (gx_rf_r0 hu0) fl_Ro_11 d_Ro_reservedBy_37 ?_
          refine lv_iload_n hx hb d_Ro_reservedBy_40 rfl (lv_at hl 0 rfl) ?_
          obtain ⟨hi_6, hf⟩ := gx_gd hf
          refine gx_aldJ G hI hu0 hi_6 d_Ro_reservedBy_41 ?_
          cases hf
          exact W.aret hx hb hr (Or.inl ⟨_, rfl⟩) (Or.inr ⟨_, rfl⟩) (gx_F hI) hI.2.2.2 d_Ro_reservedBy_42
set_option maxHeartbeats 4000000 in
set_option maxRecDepth 100000 in
theorem ct_Ro_reservedBy (l : Launch) (D : va_G) (dA : Nat → ClassId) (adr : Nat → Nat) (A : Nat → Prop) (hA : gx_A A adr) (N : Nat) (o0 : Nat) (p0 : Int32) (σ : gx_M) (r : Option Nat) (σ' : gx_M) (hf : fn_Ro_reservedBy N o0 p0 σ = some (r, σ')) : Met l y_Ro_reservedBy w_Ro_reservedBy rm_Ro_reservedBy (gx_Pc D dA adr σ [.ref (adr o0), .int p0]) (gx_Q D dA adr A (some (va_rf (Option.map adr r))) σ') 0 0 A := by
  refine Met.ofW (cc := b_Ro_reservedBy) (maxL := 3) (ret := some (.object R_Jb)) (by decide) rfl ?_
  intro p e s m args below meth c s₁ B hml hv
  obtain ⟨rfl, hP, hK⟩ := hv
  have hx := B.exec
  have hb := B.bytes
  have hr := B.returns
  have hlocks := B.notSynchronized
  have ht : ∀ w ∈ gx_tb, w.before _ s = true := fun w h => atoms_spec (ws := w_Ro_reservedBy) B.pre w (List.mem_cons_of_mem _ h)
  have hown : s.vm.findClass R_Ro = some m.cls := findClass_of_methodNamed B.named
  have G : gx_G p m c b_Ro_reservedBy 3 s _ gx_tb R_Ro D dA := ⟨⟨hx, hb, hml, hown, ht⟩, hK⟩
  have hI : gx_I D dA adr A s.heap σ s.heap [] := ⟨hP, va_S.rf⟩
  have hl := lv_entry ([.ref (adr o0), .int p0]) (n := 3) (Nat.le_of_ble_eq_true rfl)
  rw [lg_entry_eq]
  generalize (lg_sl ([.ref (adr o0), .int p0]) ++ List.replicate (3 - (lg_sl ([.ref (adr o0), .int p0])).length) Slot.unset).toArray = ls at hl ⊢
  have hl : lv_has ls 3 [(0, .ref (adr o0)), (1, .int p0)] := hl
  rw [fn_Ro_reservedBy] at hf
  obtain ⟨ho0, hf⟩ := gx_gd hf
  refine lv_iconst (v := 0) hx hb d_Ro_reservedBy_0 (by decide) ?_
  refine lv_istore_n (i := 2) (lv' := [(2, .int ((0 : Int32))), (0, .ref (adr o0)), (1, .int p0)]) hx hb d_Ro_reservedBy_1 rfl hl (by decide) rfl (fun ls hl => ?_)
  exact wl_Ro_reservedBy_L2 G hr hlocks hA N _ o0 p0 ho0 N ((0 : Int32)) σ _ _ ls hf hI (lv_sub hl [0, 1, 2] rfl)
def fn_Ro_nextInLine_L5 (N : Nat) (u0 : Nat) (u1 : Int32) (u2 : Option Nat) : Nat → Int32 → Option Nat → gx_M → Option (Option Nat × gx_M)
  | 0, _, _, _ => none
  | n + 1, v4, v3, σ => if (σ u0 1) ≤ v4 then (gx_mt v3 (some (none, σ)) (fun o_2 => if 42 ≤ o_2 ∧ o_2 < 722 then (some (some o_2, σ)) else none)) else (if 0 ≤ v4 ∧ v4 < 40 then (if (σ (gx_el (u0 + 17) v4.toNatClampNeg) 10) = ((1 : Int32)) then (if (σ (gx_el (u0 + 17) v4.toNatClampNeg) 1) = u1 then (gx_mt u2 (gx_mt v3 (fn_Ro_nextInLine_L5 N u0 u1 u2 n (v4 + 1) (some (gx_el (u0 + 17) v4.toNatClampNeg)) σ) (fun o_9 => if 42 ≤ o_9 ∧ o_9 < 722 then (gx_bd (fn_Jb_standsBefore N (gx_el (u0 + 17) v4.toNatClampNeg) o_9 σ) (fun r_13 σ_11 => if r_13 = 0 then (fn_Ro_nextInLine_L5 N u0 u1 u2 n (v4 + 1) (some o_9) σ_11) else (fn_Ro_nextInLine_L5 N u0 u1 u2 n (v4 + 1) (some (gx_el (u0 + 17) v4.toNatClampNeg)) σ_11))) else none)) (fun o_7 => if 42 ≤ o_7 ∧ o_7 < 722 then (gx_bd (fn_Jb_standsBefore N o_7 (gx_el (u0 + 17) v4.toNatClampNeg) σ) (fun r_17 σ_15 => if r_17 = 0 then (fn_Ro_nextInLine_L5 N u0 u1 u2 n (v4 + 1) v3 σ_15) else (gx_mt v3 (fn_Ro_nextInLine_L5 N u0 u1 u2 n (v4 + 1) (some (gx_el (u0 + 17) v4.toNatClampNeg)) σ_15) (fun o_19 => if 42 ≤ o_19 ∧ o_19 < 722 then (gx_bd (fn_Jb_standsBefore N (gx_el (u0 + 17) v4.toNatClampNeg) o_19 σ_15) (fun r_23 σ_21 => if r_23 = 0 then (fn_Ro_nextInLine_L5 N u0 u1 u2 n (v4 + 1) (some o_19) σ_21) else (fn_Ro_nextInLine_L5 N u0 u1 u2 n (v4 + 1) (some (gx_el (u0 + 17) v4.toNatClampNeg)) σ_21))) else none)))) else none)) else (fn_Ro_nextInLine_L5 N u0 u1 u2 n (v4 + 1) v3 σ)) else (fn_Ro_nextInLine_L5 N u0 u1 u2 n (v4 + 1) v3 σ)) else none)
def fn_Ro_nextInLine (N : Nat) (o0 : Nat) (p0 : Int32) (x1 : Option Nat) (σ : gx_M) : Option (Option Nat × gx_M) := if 8 ≤ o0 ∧ o0 < 25 then (fn_Ro_nextInLine_L5 N o0 p0 x1 N ((0 : Int32)) none σ) else none
set_option maxHeartbeats 4000000 in
set_option maxRecDepth 100000 in
theorem wl_Ro_nextInLine_L5 {p : Program} {l : Launch} {e : Env} {s : State} {m : MethodId} {args : Array Value} {below : List Frame} {meth : Method} {c : Code} {D : va_G} {dA : Nat → ClassId} {adr : Nat → Nat} {A : Nat → Prop} (G : gx_G p m c b_Ro_nextInLine 6 s args gx_tb R_Ro D dA) (hr : meth.sig.returnType = some (.object R_Jb)) (hlocks : meth.locks = false) (hA : gx_A A adr) (N : Nat) (res : Option Nat × gx_M) (u0 : Nat) (u1 : Int32) (u2 : Option Nat) (hu0 : 8 ≤ u0 ∧ u0 < 25) : ∀ (n : Nat) (v4 : Int32) (v3 : Option Nat) (σ : gx_M) (H : Heap) (locs : List Loc) (ls : Array Slot), fn_Ro_nextInLine_L5 N u0 u1 u2 n v4 v3 σ = some res → gx_I D dA adr A s.heap σ H locs → lv_has ls 6 [(4, .int v4), (3, va_rf (Option.map adr v3)), (0, .ref (adr u0)), (1, .int u1), (2, va_rf (Option.map adr u2))] → W p l e (headSpec w_Ro_nextInLine rm_Ro_nextInLine).room s m args below meth c H locs 0 0 (MQ below (gx_Q D dA adr A (some (va_rf (Option.map adr res.1))) res.2) args s 0 0 A) (F0 m 5 ls []) := by
  obtain ⟨⟨hx, hb, hml, hown, ht⟩, hK⟩ := id G
  intro n
  induction n with
  | zero =>
    intro v4 v3 σ H locs ls hf
    cases hf
  | succ n ih =>
    intro v4 v3 σ H locs ls hf hI hl
    rw [fn_Ro_nextInLine_L5] at hf
    refine lv_iload hx hb d_Ro_nextInLine_5 (lv_at hl 0 rfl) ?_
    refine lv_aload_n hx hb d_Ro_nextInLine_7 rfl (lv_at hl 2 rfl) ?_
    refine gx_getI G hI cl_Ro (gx_ci_r hu0) 1 (by decide) (gx_rf_r hu0 (by decide)) fl_Ro_20 d_Ro_nextInLine_8 ?_
    refine lv_icmp_ge (tgt := 76) hx hb d_Ro_nextInLine_11 (by decide) (fun c_1 => ?_) (fun c_1 => ?_)
    · replace hf := (if_pos c_1).symm.trans hf
      rcases v3 with _ | o_2
      · replace hf := gx_mtn hf
        refine lv_aload_nN hx hb d_Ro_nextInLine_76 rfl (lv_at hl 1 rfl) ?_
        cases hf
        exact W.aret (v := .null) hx hb hr (Or.inl ⟨_, rfl⟩) (Or.inl rfl) (gx_F hI) hI.2.2.2 d_Ro_nextInLine_77
      · replace hf := gx_mts hf
        obtain ⟨hg_3, hf⟩ := gx_gd hf
        refine lv_aload_n hx hb d_Ro_nextInLine_76 rfl (lv_at hl 1 rfl) ?_
        cases hf
        exact W.aret hx hb hr (Or.inl ⟨_, rfl⟩) (Or.inr ⟨_, rfl⟩) (gx_F hI) hI.2.2.2 d_Ro_nextInLine_77
    · replace hf := (if_neg c_1).symm.trans hf
      refine lv_aload_n hx hb d_Ro_nextInLine_14 rfl (lv_at hl 2 rfl) ?_
      refine gx_getR (o' := u0 + 17) G hI cl_Ro (gx_ci_r hu0) 0 (by decide) (gx_rf_r0 hu0) fl_Ro_11 d_Ro_nextInLine_15 ?_
      refine lv_iload hx hb d_Ro_nextInLine_18 (lv_at hl 0 rfl) ?_
      obtain ⟨hi_4, hf⟩ := gx_gd hf
      refine gx_aldJ G hI hu0 hi_4 d_Ro_nextInLine_20 ?_
      refine lv_astore (i := 5) (lv' := [(5, .ref (adr (gx_el (u0 + 17) v4.toNatClampNeg))), (4, .int v4), (3, va_rf (Option.map adr v3)), (0, .ref (adr u0)), (1, .int u1), (2, va_rf (Option.map adr u2))]) hx hb d_Ro_nextInLine_21 hl (by decide) rfl (fun ls hl => ?_)
      refine lv_aload hx hb d_Ro_nextInLine_23 (lv_at hl 0 rfl) ?_
      refine gx_getI G hI cl_Jb (gx_ci_j (gx_el_j hu0 hi_4)) 10 (by decide) (gx_rf_j (gx_el_j hu0 hi_4) 10) fl_Ro_35 d_Ro_nextInLine_25 ?_
      refine lv_iconst (v := 1) hx hb d_Ro_nextInLine_28 (by decide) ?_
      refine lv_icmp_ne (tgt := 70) hx hb d_Ro_nextInLine_29 (by decide) (fun c_5 => ?_) (fun c_5 => ?_)
      · replace hf := (if_neg c_5).symm.trans hf
        refine lv_iinc (v := v4 + 1) (lv' := [(4, .int (v4 + 1)), (5, .ref (adr (gx_el (u0 + 17) v4.toNatClampNeg))), (3, va_rf (Option.map adr v3)), (0, .ref (adr u0)), (1, .int u1), (2, va_rf (Option.map adr u2))]) hx hb d_Ro_nextInLine_70 hl (k := 1) rfl rfl (by decide) (by simp [gx_cat, gx_rfs, gx_rfn]) (fun ls hl => ?_)
        refine lv_goto (tgt := 5) hx hb d_Ro_nextInLine_73 (by decide) ?_
        exact ih (v4 + 1) v3 σ H locs ls hf hI (lv_sub hl [0, 2, 3, 4, 5] rfl)
      · replace hf := (if_pos c_5).symm.trans hf
        refine lv_aload hx hb d_Ro_nextInLine_32 (lv_at hl 0 rfl) ?_
        refine gx_getI G hI cl_Jb (gx_ci_j (gx_el_j hu0 hi_4)) 1 (by decide) (gx_rf_j (gx_el_j hu0 hi_4) 1) fl_Ro_103 d_Ro_nextInLine_34 ?_
        refine lv_iload_n hx hb d_Ro_nextInLine_37 rfl (lv_at hl 4 rfl) ?_
        refine lv_icmp_ne (tgt := 70) hx hb d_Ro_nextInLine_38 (by decide) (fun c_6 => ?_) (fun c_6 => ?_)
        · replace hf := (if_neg c_6).symm.trans hf
          refine lv_iinc (v := v4 + 1) (lv' := [(4, .int (v4 + 1)), (5, .ref (adr (gx_el (u0 + 17) v4.toNatClampNeg))), (3, va_rf (Option.map adr v3)), (0, .ref (adr u0)), (1, .int u1), (2, va_rf (Option.map adr u2))]) hx hb d_Ro_nextInLine_70 hl (k := 1) rfl rfl (by decide) (by simp [gx_cat, gx_rfs, gx_rfn]) (fun ls hl => ?_)
          refine lv_goto (tgt := 5) hx hb d_Ro_nextInLine_73 (by decide) ?_
          exact ih (v4 + 1) v3 σ H locs ls hf hI (lv_sub hl [0, 2, 3, 4, 5] rfl)
        · replace hf := (if_pos c_6).symm.trans hf
          rcases u2 with _ | o_7
          · replace hf := gx_mtn hf
            refine lv_aload_nN hx hb d_Ro_nextInLine_41 rfl (lv_at hl 5 rfl) ?_
            refine lv_ifnullN (tgt := 54) hx hb d_Ro_nextInLine_42 (by decide) ?_
            rcases v3 with _ | o_9
            · replace hf := gx_mtn hf
              refine lv_aload_nN hx hb d_Ro_nextInLine_54 rfl (lv_at hl 2 rfl) ?_
              refine lv_ifnullN (tgt := 67) hx hb d_Ro_nextInLine_55 (by decide) ?_
              refine lv_aload hx hb d_Ro_nextInLine_67 (lv_at hl 0 rfl) ?_
              refine lv_astore_n (i := 3) (lv' := [(3, .ref (adr (gx_el (u0 + 17) v4.toNatClampNeg))), (5, .ref (adr (gx_el (u0 + 17) v4.toNatClampNeg))), (4, .int v4), (0, .ref (adr u0)), (1, .int u1), (2, .null)]) hx hb d_Ro_nextInLine_69 rfl hl (by decide) rfl (fun ls hl => ?_)
              refine lv_iinc (v := v4 + 1) (lv' := [(4, .int (v4 + 1)), (3, .ref (adr (gx_el (u0 + 17) v4.toNatClampNeg))), (5, .ref (adr (gx_el (u0 + 17) v4.toNatClampNeg))), (0, .ref (adr u0)), (1, .int u1), (2, .null)]) hx hb d_Ro_nextInLine_70 hl (k := 2) rfl rfl (by decide) rfl (fun ls hl => ?_)
              refine lv_goto (tgt := 5) hx hb d_Ro_nextInLine_73 (by decide) ?_
              exact ih (v4 + 1) (some (gx_el (u0 + 17) v4.toNatClampNeg)) σ H locs ls hf hI (lv_sub hl [0, 1, 3, 4, 5] rfl)
            · replace hf := gx_mts hf
              obtain ⟨hg_10, hf⟩ := gx_gd hf
              refine lv_aload_n hx hb d_Ro_nextInLine_54 rfl (lv_at hl 2 rfl) ?_
              refine lv_ifnull hx hb d_Ro_nextInLine_55 ?_
              refine lv_aload hx hb d_Ro_nextInLine_58 (lv_at hl 0 rfl) ?_
              refine lv_aload_n hx hb d_Ro_nextInLine_60 rfl (lv_at hl 2 rfl) ?_
              obtain ⟨r_13, σ_11, hc_12, hf⟩ := gx_bde hf
              refine gx_go (va_runV (As := [.ref (adr o_9)]) (rest := []) G.1 (ct_Jb_standsBefore l D dA adr A hA N (gx_el (u0 + 17) v4.toNatClampNeg) o_9 σ r_13 σ_11 hc_12) (cwV 1 ht gi_Ro_106 rfl rfl rfl (by decide +kernel) ⟨Nat.le_of_ble_eq_true rfl, Nat.le_of_ble_eq_true rfl⟩) (gx_preV G hI cl_Jb (gx_ci_j (gx_el_j hu0 hi_4))) rfl rfl hl.1 rfl (lv_room (Nat.le_of_ble_eq_true rfl)) d_Ro_nextInLine_61 ⟨Nat.zero_le _, Nat.zero_le _⟩) hI (st1 := [.int r_13]) rfl (fun H locs hI => ?_)
              refine lv_if_eq (tgt := 70) hx hb d_Ro_nextInLine_64 (by decide) (fun c_14 => ?_) (fun c_14 => ?_)
              · replace hf := (if_pos c_14).symm.trans hf
                refine lv_iinc (v := v4 + 1) (lv' := [(4, .int (v4 + 1)), (5, .ref (adr (gx_el (u0 + 17) v4.toNatClampNeg))), (3, .ref (adr o_9)), (0, .ref (adr u0)), (1, .int u1), (2, .null)]) hx hb d_Ro_nextInLine_70 hl (k := 1) rfl rfl (by decide) rfl (fun ls hl => ?_)
                refine lv_goto (tgt := 5) hx hb d_Ro_nextInLine_73 (by decide) ?_
                exact ih (v4 + 1) (some o_9) σ_11 H locs ls hf hI (lv_sub hl [0, 2, 3, 4, 5] rfl)
              · replace hf := (if_neg c_14).symm.trans hf
                refine lv_aload hx hb d_Ro_nextInLine_67 (lv_at hl 0 rfl) ?_
                refine lv_astore_n (i := 3) (lv' := [(3, .ref (adr (gx_el (u0 + 17) v4.toNatClampNeg))), (5, .ref (adr (gx_el (u0 + 17) v4.toNatClampNeg))), (4, .int v4), (0, .ref (adr u0)), (1, .int u1), (2, .null)]) hx hb d_Ro_nextInLine_69 rfl hl (by decide) rfl (fun ls hl => ?_)
                refine lv_iinc (v := v4 + 1) (lv' := [(4, .int (v4 + 1)), (3, .ref (adr (gx_el (u0 + 17) v4.toNatClampNeg))), (5, .ref (adr (gx_el (u0 + 17) v4.toNatClampNeg))), (0, .ref (adr u0)), (1, .int u1), (2, .null)]) hx hb d_Ro_nextInLine_70 hl (k := 2) rfl rfl (by decide) rfl (fun ls hl => ?_)
                refine lv_goto (tgt := 5) hx hb d_Ro_nextInLine_73 (by decide) ?_
                exact ih (v4 + 1) (some (gx_el (u0 + 17) v4.toNatClampNeg)) σ_11 H locs ls hf hI (lv_sub hl [0, 1, 3, 4, 5] rfl)
          · replace hf := gx_mts hf
            obtain ⟨hg_8, hf⟩ := gx_gd hf
            refine lv_aload_n hx hb d_Ro_nextInLine_41 rfl (lv_at hl 5 rfl) ?_
            refine lv_ifnull hx hb d_Ro_nextInLine_42 ?_
            refine lv_aload_n hx hb d_Ro_nextInLine_45 rfl (lv_at hl 5 rfl) ?_
            refine lv_aload hx hb d_Ro_nextInLine_46 (lv_at hl 0 rfl) ?_
            obtain ⟨r_17, σ_15, hc_16, hf⟩ := gx_bde hf
            refine gx_go (va_runV (As := [.ref (adr (gx_el (u0 + 17) v4.toNatClampNeg))]) (rest := []) G.1 (ct_Jb_standsBefore l D dA adr A hA N o_7 (gx_el (u0 + 17) v4.toNatClampNeg) σ r_17 σ_15 hc_16) (cwV 1 ht gi_Ro_106 rfl rfl rfl (by decide +kernel) ⟨Nat.le_of_ble_eq_true rfl, Nat.le_of_ble_eq_true rfl⟩) (gx_preV G hI cl_Jb (gx_ci_j hg_8)) rfl rfl hl.1 rfl (lv_room (Nat.le_of_ble_eq_true rfl)) d_Ro_nextInLine_48 ⟨Nat.zero_le _, Nat.zero_le _⟩) hI (st1 := [.int r_17]) rfl (fun H locs hI => ?_)
            refine lv_if_eq (tgt := 70) hx hb d_Ro_nextInLine_51 (by decide) (fun c_18 => ?_) (fun c_18 => ?_)
            · replace hf := (if_pos c_18).symm.trans hf
              refine lv_iinc (v := v4 + 1) (lv' := [(4, .int (v4 + 1)), (5, .ref (adr (gx_el (u0 + 17) v4.toNatClampNeg))), (3, va_rf (Option.map adr v3)), (0, .ref (adr u0)), (1, .int u1), (2, .ref (adr o_7))]) hx hb d_Ro_nextInLine_70 hl (k := 1) rfl rfl (by decide) (by simp [gx_cat, gx_rfs, gx_rfn]) (fun ls hl => ?_)
              refine lv_goto (tgt := 5) hx hb d_Ro_nextInLine_73 (by decide) ?_
              exact ih (v4 + 1) v3 σ_15 H locs ls hf hI (lv_sub hl [0, 2, 3, 4, 5] rfl)
            · replace hf := (if_neg c_18).symm.trans hf
              rcases v3 with _ | o_19
              · replace hf := gx_mtn hf
                refine lv_aload_nN hx hb d_Ro_nextInLine_54 rfl (lv_at hl 2 rfl) ?_
                refine lv_ifnullN (tgt := 67) hx hb d_Ro_nextInLine_55 (by decide) ?_
                refine lv_aload hx hb d_Ro_nextInLine_67 (lv_at hl 0 rfl) ?_
                refine lv_astore_n (i := 3) (lv' := [(3, .ref (adr (gx_el (u0 + 17) v4.toNatClampNeg))), (5, .ref (adr (gx_el (u0 + 17) v4.toNatClampNeg))), (4, .int v4), (0, .ref (adr u0)), (1, .int u1), (2, .ref (adr o_7))]) hx hb d_Ro_nextInLine_69 rfl hl (by decide) rfl (fun ls hl => ?_)
                refine lv_iinc (v := v4 + 1) (lv' := [(4, .int (v4 + 1)), (3, .ref (adr (gx_el (u0 + 17) v4.toNatClampNeg))), (5, .ref (adr (gx_el (u0 + 17) v4.toNatClampNeg))), (0, .ref (adr u0)), (1, .int u1), (2, .ref (adr o_7))]) hx hb d_Ro_nextInLine_70 hl (k := 2) rfl rfl (by decide) rfl (fun ls hl => ?_)
                refine lv_goto (tgt := 5) hx hb d_Ro_nextInLine_73 (by decide) ?_
                exact ih (v4 + 1) (some (gx_el (u0 + 17) v4.toNatClampNeg)) σ_15 H locs ls hf hI (lv_sub hl [0, 1, 3, 4, 5] rfl)
              · replace hf := gx_mts hf
                obtain ⟨hg_20, hf⟩ := gx_gd hf
                refine lv_aload_n hx hb d_Ro_nextInLine_54 rfl (lv_at hl 2 rfl) ?_
                refine lv_ifnull hx hb d_Ro_nextInLine_55 ?_
                refine lv_aload hx hb d_Ro_nextInLine_58 (lv_at hl 0 rfl) ?_
                refine lv_aload_n hx hb d_Ro_nextInLine_60 rfl (lv_at hl 2 rfl) ?_
                obtain ⟨r_23, σ_21, hc_22, hf⟩ := gx_bde hf
                refine gx_go (va_runV (As := [.ref (adr o_19)]) (rest := []) G.1 (ct_Jb_standsBefore l D dA adr A hA N (gx_el (u0 + 17) v4.toNatClampNeg) o_19 σ_15 r_23 σ_21 hc_22) (cwV 1 ht gi_Ro_106 rfl rfl rfl (by decide +kernel) ⟨Nat.le_of_ble_eq_true rfl, Nat.le_of_ble_eq_true rfl⟩) (gx_preV G hI cl_Jb (gx_ci_j (gx_el_j hu0 hi_4))) rfl rfl hl.1 rfl (lv_room (Nat.le_of_ble_eq_true rfl)) d_Ro_nextInLine_61 ⟨Nat.zero_le _, Nat.zero_le _⟩) hI (st1 := [.int r_23]) rfl (fun H locs hI => ?_)
                refine lv_if_eq (tgt := 70) hx hb d_Ro_nextInLine_64 (by decide) (fun c_24 => ?_) (fun c_24 => ?_)
                · replace hf := (if_pos c_24).symm.trans hf
                  refine lv_iinc (v := v4 + 1) (lv' := [(4, .int (v4 + 1)), (5, .ref (adr (gx_el (u0 + 17) v4.toNatClampNeg))), (3, .ref (adr o_19)), (0, .ref (adr u0)), (1, .int u1), (2, .ref (adr o_7))]) hx hb d_Ro_nextInLine_70 hl (k := 1) rfl rfl (by decide) rfl (fun ls hl => ?_)
                  refine lv_goto (tgt := 5) hx hb d_Ro_nextInLine_73 (by decide) ?_
                  exact ih (v4 + 1) (some o_19) σ_21 H locs ls hf hI (lv_sub hl [0, 2, 3, 4, 5] rfl)
                · replace hf := (if_neg c_24).symm.trans hf
                  refine lv_aload hx hb d_Ro_nextInLine_67 (lv_at hl 0 rfl) ?_
                  refine lv_astore_n (i := 3) (lv' := [(3, .ref (adr (gx_el (u0 + 17) v4.toNatClampNeg))), (5, .ref (adr (gx_el (u0 + 17) v4.toNatClampNeg))), (4, .int v4), (0, .ref (adr u0)), (1, .int u1), (2, .ref (adr o_7))]) hx hb d_Ro_nextInLine_69 rfl hl (by decide) rfl (fun ls hl => ?_)
                  refine lv_iinc (v := v4 + 1) (lv' := [(4, .int (v4 + 1)), (3, .ref (adr (gx_el (u0 + 17) v4.toNatClampNeg))), (5, .ref (adr (gx_el (u0 + 17) v4.toNatClampNeg))), (0, .ref (adr u0)), (1, .int u1), (2, .ref (adr o_7))]) hx hb d_Ro_nextInLine_70 hl (k := 2) rfl rfl (by decide) rfl (fun ls hl => ?_)
                  refine lv_goto (tgt := 5) hx hb d_Ro_nextInLine_73 (by decide) ?_
                  exact ih (v4 + 1) (some (gx_el (u0 + 17) v4.toNatClampNeg)) σ_21 H locs ls hf hI (lv_sub hl [0, 1, 3, 4, 5] rfl)
set_option maxHeartbeats 4000000 in
set_option maxRecDepth 100000 in
theorem ct_Ro_nextInLine (l : Launch) (D : va_G) (dA : Nat → ClassId) (adr : Nat → Nat) (A : Nat → Prop) (hA : gx_A A adr) (N : Nat) (o0 : Nat) (p0 : Int32) (x1 : Option Nat) (σ : gx_M) (r : Option Nat) (σ' : gx_M) (hf : fn_Ro_nextInLine N o0 p0 x1 σ = some (r, σ')) : Met l y_Ro_nextInLine w_Ro_nextInLine rm_Ro_nextInLine (gx_Pc D dA adr σ [.ref (adr o0), .int p0, va_rf (Option.map adr x1)]) (gx_Q D dA adr A (some (va_rf (Option.map adr r))) σ') 0 0 A := by
  refine Met.ofW (cc := b_Ro_nextInLine) (maxL := 6) (ret := some (.object R_Jb)) (by decide) rfl ?_
  intro p e s m args below meth c s₁ B hml hv
  obtain ⟨rfl, hP, hK⟩ := hv
  have hx := B.exec
  have hb := B.bytes
  have hr := B.returns
  have hlocks := B.notSynchronized
  have ht : ∀ w ∈ gx_tb, w.before _ s = true := fun w h => atoms_spec (ws := w_Ro_nextInLine) B.pre w (List.mem_cons_of_mem _ h)
  have hown : s.vm.findClass R_Ro = some m.cls := findClass_of_methodNamed B.named
  have G : gx_G p m c b_Ro_nextInLine 6 s _ gx_tb R_Ro D dA := ⟨⟨hx, hb, hml, hown, ht⟩, hK⟩
  have hI : gx_I D dA adr A s.heap σ s.heap [] := ⟨hP, va_S.rf⟩
  have hl := lv_entry ([.ref (adr o0), .int p0, va_rf (Option.map adr x1)]) (n := 6) (by cases x1 <;> exact Nat.le_of_ble_eq_true rfl)
  rw [lg_entry_eq]
  generalize (lg_sl ([.ref (adr o0), .int p0, va_rf (Option.map adr x1)]) ++ List.replicate (6 - (lg_sl ([.ref (adr o0), .int p0, va_rf (Option.map adr x1)])).length) Slot.unset).toArray = ls at hl ⊢
  have hl : lv_has ls 6 [(0, .ref (adr o0)), (1, .int p0), (2, va_rf (Option.map adr x1))] := hl
  rw [fn_Ro_nextInLine] at hf
  obtain ⟨ho0, hf⟩ := gx_gd hf
  refine lv_null hx hb d_Ro_nextInLine_0 ?_
  refine lv_astore_nN (i := 3) (lv' := [(3, .null), (0, .ref (adr o0)), (1, .int p0), (2, va_rf (Option.map adr x1))]) hx hb d_Ro_nextInLine_1 rfl hl (by decide) (by simp [gx_cat, gx_rfs, gx_rfn]) (fun ls hl => ?_)
  refine lv_iconst (v := 0) hx hb d_Ro_nextInLine_2 (by decide) ?_
  refine lv_istore (i := 4) (lv' := [(4, .int ((0 : Int32))), (3, .null), (0, .ref (adr o0)), (1, .int p0), (2, va_rf (Option.map adr x1))]) hx hb d_Ro_nextInLine_3 hl (by decide) rfl (fun ls hl => ?_)
  exact wl_Ro_nextInLine_L5 G hr hlocks hA N _ o0 p0 x1 ho0 N ((0 : Int32)) none σ _ _ ls hf hI (lv_sub hl [0, 1, 2, 3, 4] rfl)
def fn_Ro_inLine_L10 (N : Nat) (u0 : Nat) (u1 : Int32) (u2 : Int32) : Nat → Int32 → Option Nat → gx_M → Option (Option Nat × gx_M)
  | 0, _, _, _ => none
  | n + 1, v4, v3, σ => if u2 ≤ v4 then (gx_mt v3 (some (none, σ)) (fun o_7 => if 42 ≤ o_7 ∧ o_7 < 722 then (some (some o_7, σ)) else none)) else (gx_mt v3 (some (none, σ)) (fun o_9 => if 42 ≤ o_9 ∧ o_9 < 722 then (gx_bd (fn_Ro_nextInLine N u0 u1 (some o_9) σ) (fun x_13 σ_11 => gx_mt x_13 (fn_Ro_inLine_L10 N u0 u1 u2 n (v4 + 1) none σ_11) (fun o_14 => if 42 ≤ o_14 ∧ o_14 < 722 then (fn_Ro_inLine_L10 N u0 u1 u2 n (v4 + 1) (some o_14) σ_11) else none))) else none))
def fn_Ro_inLine (N : Nat) (o0 : Nat) (p0 : Int32) (p1 : Int32) (σ : gx_M) : Option (Option Nat × gx_M) := if 8 ≤ o0 ∧ o0 < 25 then (gx_bd (fn_Ro_nextInLine N o0 p0 none σ) (fun x_3 σ_1 => gx_mt x_3 (fn_Ro_inLine_L10 N o0 p0 p1 N ((0 : Int32)) none σ_1) (fun o_4 => if 42 ≤ o_4 ∧ o_4 < 722 then (fn_Ro_inLine_L10 N o0 p0 p1 N ((0 : Int32)) (some o_4) σ_1) else none))) else none
set_option maxHeartbeats 4000000 in
set_option maxRecDepth 100000 in
theorem wl_Ro_inLine_L10 {p : Program} {l : Launch} {e : Env} {s : State} {m : MethodId} {args : Array Value} {below : List Frame} {meth : Method} {c : Code} {D : va_G} {dA : Nat → ClassId} {adr : Nat → Nat} {A : Nat → Prop} (G : gx_G p m c b_Ro_inLine 5 s args gx_tb R_Ro D dA) (hr : meth.sig.returnType = some (.object R_Jb)) (hlocks : meth.locks = false) (hA : gx_A A adr) (N : Nat) (res : Option Nat × gx_M) (u0 : Nat) (u1 : Int32) (u2 : Int32) (hu0 : 8 ≤ u0 ∧ u0 < 25) : ∀ (n : Nat) (v4 : Int32) (v3 : Option Nat) (σ : gx_M) (H : Heap) (locs : List Loc) (ls : Array Slot), fn_Ro_inLine_L10 N u0 u1 u2 n v4 v3 σ = some res → gx_I D dA adr A s.heap σ H locs → lv_has ls 5 [(4, .int v4), (3, va_rf (Option.map adr v3)), (0, .ref (adr u0)), (1, .int u1), (2, .int u2)] → W p l e (headSpec w_Ro_inLine rm_Ro_inLine).room s m args below meth c H locs 0 0 (MQ below (gx_Q D dA adr A (some (va_rf (Option.map adr res.1))) res.2) args s 0 0 A) (F0 m 10 ls []) := by
  obtain ⟨⟨hx, hb, hml, hown, ht⟩, hK⟩ := id G
  intro n
  induction n with
  | zero =>
    intro v4 v3 σ H locs ls hf
    cases hf
  | succ n ih =>
    intro v4 v3 σ H locs ls hf hI hl
    rw [fn_Ro_inLine_L10] at hf
    refine lv_iload hx hb d_Ro_inLine_10 (lv_at hl 0 rfl) ?_
    refine lv_iload_n hx hb d_Ro_inLine_12 rfl (lv_at hl 4 rfl) ?_
    refine lv_icmp_ge (tgt := 33) hx hb d_Ro_inLine_13 (by decide) (fun c_6 => ?_) (fun c_6 => ?_)
    · replace hf := (if_pos c_6).symm.trans hf
      rcases v3 with _ | o_7
      · replace hf := gx_mtn hf
        refine lv_aload_nN hx hb d_Ro_inLine_33 rfl (lv_at hl 1 rfl) ?_
        cases hf
        exact W.aret (v := .null) hx hb hr (Or.inl ⟨_, rfl⟩) (Or.inl rfl) (gx_F hI) hI.2.2.2 d_Ro_inLine_34
      · replace hf := gx_mts hf
        obtain ⟨hg_8, hf⟩ := gx_gd hf
        refine lv_aload_n hx hb d_Ro_inLine_33 rfl (lv_at hl 1 rfl) ?_
        cases hf
        exact W.aret hx hb hr (Or.inl ⟨_, rfl⟩) (Or.inr ⟨_, rfl⟩) (gx_F hI) hI.2.2.2 d_Ro_inLine_34
    · replace hf := (if_neg c_6).symm.trans hf
      rcases v3 with _ | o_9
      · replace hf := gx_mtn hf
        refine lv_aload_nN hx hb d_Ro_inLine_16 rfl (lv_at hl 1 rfl) ?_
        refine lv_ifnullN (tgt := 33) hx hb d_Ro_inLine_17 (by decide) ?_
        refine lv_aload_nN hx hb d_Ro_inLine_33 rfl (lv_at hl 1 rfl) ?_
        cases hf
        exact W.aret (v := .null) hx hb hr (Or.inl ⟨_, rfl⟩) (Or.inl rfl) (gx_F hI) hI.2.2.2 d_Ro_inLine_34
      · replace hf := gx_mts hf
        obtain ⟨hg_10, hf⟩ := gx_gd hf
        refine lv_aload_n hx hb d_Ro_inLine_16 rfl (lv_at hl 1 rfl) ?_
        refine lv_ifnull hx hb d_Ro_inLine_17 ?_
        refine lv_aload_n hx hb d_Ro_inLine_20 rfl (lv_at hl 2 rfl) ?_
        refine lv_iload_n hx hb d_Ro_inLine_21 rfl (lv_at hl 3 rfl) ?_
        refine lv_aload_n hx hb d_Ro_inLine_22 rfl (lv_at hl 1 rfl) ?_
        obtain ⟨x_13, σ_11, hc_12, hf⟩ := gx_bde hf
        rcases x_13 with _ | o_14
        · replace hf := gx_mtn hf
          refine gx_go (va_runV (As := [.int u1, .ref (adr o_9)]) (rest := []) G.1 (ct_Ro_nextInLine l D dA adr A hA N u0 u1 (some o_9) σ none σ_11 hc_12) (cwV 2 ht gi_Ro_99 rfl rfl rfl (by decide +kernel) ⟨Nat.le_of_ble_eq_true rfl, Nat.le_of_ble_eq_true rfl⟩) (gx_preV G hI cl_Ro (gx_ci_r hu0)) rfl rfl hl.1 rfl (lv_room (Nat.le_of_ble_eq_true rfl)) d_Ro_inLine_23 ⟨Nat.zero_le _, Nat.zero_le _⟩) hI (st1 := [.null]) rfl (fun H locs hI => ?_)
          refine lv_astore_nN (i := 3) (lv' := [(3, .null), (4, .int v4), (0, .ref (adr u0)), (1, .int u1), (2, .int u2)]) hx hb d_Ro_inLine_26 rfl hl (by decide) rfl (fun ls hl => ?_)
          refine lv_iinc (v := v4 + 1) (lv' := [(4, .int (v4 + 1)), (3, .null), (0, .ref (adr u0)), (1, .int u1), (2, .int u2)]) hx hb d_Ro_inLine_27 hl (k := 1) rfl rfl (by decide) rfl (fun ls hl => ?_)
          refine lv_goto (tgt := 10) hx hb d_Ro_inLine_30 (by decide) ?_
          exact ih (v4 + 1) none σ_11 H locs ls hf hI (lv_sub hl [0, 1, 2, 3, 4] rfl)
        · replace hf := gx_mts hf
          obtain ⟨hg_15, hf⟩ := gx_gd hf
          refine gx_go (va_runV (As := [.int u1, .ref (adr o_9)]) (rest := []) G.1 (ct_Ro_nextInLine l D dA adr A hA N u0 u1 (some o_9) σ (some o_14) σ_11 hc_12) (cwV 2 ht gi_Ro_99 rfl rfl rfl (by decide +kernel) ⟨Nat.le_of_ble_eq_true rfl, Nat.le_of_ble_eq_true rfl⟩) (gx_preV G hI cl_Ro (gx_ci_r hu0)) rfl rfl hl.1 rfl (lv_room (Nat.le_of_ble_eq_true rfl)) d_Ro_inLine_23 ⟨Nat.zero_le _, Nat.zero_le _⟩) hI (st1 := [.ref (adr o_14)]) rfl (fun H locs hI => ?_)
          refine lv_astore_n (i := 3) (lv' := [(3, .ref (adr o_14)), (4, .int v4), (0, .ref (adr u0)), (1, .int u1), (2, .int u2)]) hx hb d_Ro_inLine_26 rfl hl (by decide) rfl (fun ls hl => ?_)
          refine lv_iinc (v := v4 + 1) (lv' := [(4, .int (v4 + 1)), (3, .ref (adr o_14)), (0, .ref (adr u0)), (1, .int u1), (2, .int u2)]) hx hb d_Ro_inLine_27 hl (k := 1) rfl rfl (by decide) rfl (fun ls hl => ?_)
          refine lv_goto (tgt := 10) hx hb d_Ro_inLine_30 (by decide) ?_
          exact ih (v4 + 1) (some o_14) σ_11 H locs ls hf hI (lv_sub hl [0, 1, 2, 3, 4] rfl)
set_option maxHeartbeats 4000000 in
set_option maxRecDepth 100000 in
theorem ct_Ro_inLine (l : Launch) (D : va_G) (dA : Nat → ClassId) (adr : Nat → Nat) (A : Nat → Prop) (hA : gx_A A adr) (N : Nat) (o0 : Nat) (p0 : Int32) (p1 : Int32) (σ : gx_M) (r : Option Nat) (σ' : gx_M) (hf : fn_Ro_inLine N o0 p0 p1 σ = some (r, σ')) : Met l y_Ro_inLine w_Ro_inLine rm_Ro_inLine (gx_Pc D dA adr σ [.ref (adr o0), .int p0, .int p1]) (gx_Q D dA adr A (some (va_rf (Option.map adr r))) σ') 0 0 A := by
  refine Met.ofW (cc := b_Ro_inLine) (maxL := 5) (ret := some (.object R_Jb)) (by decide) rfl ?_
  intro p e s m args below meth c s₁ B hml hv
  obtain ⟨rfl, hP, hK⟩ := hv
  have hx := B.exec
  have hb := B.bytes
  have hr := B.returns
  have hlocks := B.notSynchronized
  have ht : ∀ w ∈ gx_tb, w.before _ s = true := fun w h => atoms_spec (ws := w_Ro_inLine) B.pre w (List.mem_cons_of_mem _ h)
  have hown : s.vm.findClass R_Ro = some m.cls := findClass_of_methodNamed B.named
  have G : gx_G p m c b_Ro_inLine 5 s _ gx_tb R_Ro D dA := ⟨⟨hx, hb, hml, hown, ht⟩, hK⟩
  have hI : gx_I D dA adr A s.heap σ s.heap [] := ⟨hP, va_S.rf⟩
  have hl := lv_entry ([.ref (adr o0), .int p0, .int p1]) (n := 5) (Nat.le_of_ble_eq_true rfl)
  rw [lg_entry_eq]
  generalize (lg_sl ([.ref (adr o0), .int p0, .int p1]) ++ List.replicate (5 - (lg_sl ([.ref (adr o0), .int p0, .int p1])).length) Slot.unset).toArray = ls at hl ⊢
  have hl : lv_has ls 5 [(0, .ref (adr o0)), (1, .int p0), (2, .int p1)] := hl
  rw [fn_Ro_inLine] at hf
  obtain ⟨ho0, hf⟩ := gx_gd hf
  refine lv_aload_n hx hb d_Ro_inLine_0 rfl (lv_at hl 0 rfl) ?_
  refine lv_iload_n hx hb d_Ro_inLine_1 rfl (lv_at hl 1 rfl) ?_
  refine lv_null hx hb d_Ro_inLine_2 ?_
  obtain ⟨x_3, σ_1, hc_2, hf⟩ := gx_bde hf
  rcases x_3 with _ | o_4
  · replace hf := gx_mtn hf
    refine gx_go (va_runV (As := [.int p0, .null]) (rest := []) G.1 (ct_Ro_nextInLine l D dA adr A hA N o0 p0 none σ none σ_1 hc_2) (cwV 2 ht gi_Ro_99 rfl rfl rfl (by decide +kernel) ⟨Nat.le_of_ble_eq_true rfl, Nat.le_of_ble_eq_true rfl⟩) (gx_preV G hI cl_Ro (gx_ci_r ho0)) rfl rfl hl.1 rfl (lv_room (Nat.le_of_ble_eq_true rfl)) d_Ro_inLine_3 ⟨Nat.zero_le _, Nat.zero_le _⟩) hI (st1 := [.null]) rfl (fun H locs hI => ?_)
    refine lv_astore_nN (i := 3) (lv' := [(3, .null), (0, .ref (adr o0)), (1, .int p0), (2, .int p1)]) hx hb d_Ro_inLine_6 rfl hl (by decide) rfl (fun ls hl => ?_)
    refine lv_iconst (v := 0) hx hb d_Ro_inLine_7 (by decide) ?_
    refine lv_istore (i := 4) (lv' := [(4, .int ((0 : Int32))), (3, .null), (0, .ref (adr o0)), (1, .int p0), (2, .int p1)]) hx hb d_Ro_inLine_8 hl (by decide) rfl (fun ls hl => ?_)
    exact wl_Ro_inLine_L10 G hr hlocks hA N _ o0 p0 p1 ho0 N ((0 : Int32)) none σ_1 _ _ ls hf hI (lv_sub hl [0, 1, 2, 3, 4] rfl)
  · replace hf := gx_mts hf
    obtain ⟨hg_5, hf⟩ := gx_gd hf
    refine gx_go (va_runV (As := [.int p0, .null]) (rest := []) G.1 (ct_Ro_nextInLine l D dA adr A hA N o0 p0 none σ (some o_4) σ_1 hc_2) (cwV 2 ht gi_Ro_99 rfl rfl rfl (by decide +kernel) ⟨Nat.le_of_ble_eq_true rfl, Nat.le_of_ble_eq_true rfl⟩) (gx_preV G hI cl_Ro (gx_ci_r ho0)) rfl rfl hl.1 rfl (lv_room (Nat.le_of_ble_eq_true rfl)) d_Ro_inLine_3 ⟨Nat.zero_le _, Nat.zero_le _⟩) hI (st1 := [.ref (adr o_4)]) rfl (fun H locs hI => ?_)
    refine lv_astore_n (i := 3) (lv' := [(3, .ref (adr o_4)), (0, .ref (adr o0)), (1, .int p0), (2, .int p1)]) hx hb d_Ro_inLine_6 rfl hl (by decide) rfl (fun ls hl => ?_)
    refine lv_iconst (v := 0) hx hb d_Ro_inLine_7 (by decide) ?_
    refine lv_istore (i := 4) (lv' := [(4, .int ((0 : Int32))), (3, .ref (adr o_4)), (0, .ref (adr o0)), (1, .int p0), (2, .int p1)]) hx hb d_Ro_inLine_8 hl (by decide) rfl (fun ls hl => ?_)
    exact wl_Ro_inLine_L10 G hr hlocks hA N _ o0 p0 p1 ho0 N ((0 : Int32)) (some o_4) σ_1 _ _ ls hf hI (lv_sub hl [0, 1, 2, 3, 4] rfl)
end
section
theorem d_Jn_flushAll_0 : decode b_Jn_flushAll 0 = .ok (.aload_n 0, 1) := by decide +kernel
theorem d_Jn_flushAll_1 : decode b_Jn_flushAll 1 = .ok (.getfield 18, 3) := by decide +kernel
theorem d_Jn_flushAll_4 : decode b_Jn_flushAll 4 = .ok (.istore_n 2, 1) := by decide +kernel
theorem d_Jn_flushAll_5 : decode b_Jn_flushAll 5 = .ok (.aload_n 0, 1) := by decide +kernel
theorem d_Jn_flushAll_6 : decode b_Jn_flushAll 6 = .ok (.iconst 0, 1) := by decide +kernel
theorem d_Jn_flushAll_7 : decode b_Jn_flushAll 7 = .ok (.putfield 18, 3) := by decide +kernel
theorem d_Jn_flushAll_10 : decode b_Jn_flushAll 10 = .ok (.aload_n 0, 1) := by decide +kernel
theorem d_Jn_flushAll_11 : decode b_Jn_flushAll 11 = .ok (.getfield 11, 3) := by decide +kernel
theorem d_Jn_flushAll_14 : decode b_Jn_flushAll 14 = .ok (.iconst 0, 1) := by decide +kernel
theorem d_Jn_flushAll_15 : decode b_Jn_flushAll 15 = .ok (.aaload, 1) := by decide +kernel
theorem d_Jn_flushAll_16 : decode b_Jn_flushAll 16 = .ok (.aload_n 1, 1) := by decide +kernel
theorem d_Jn_flushAll_17 : decode b_Jn_flushAll 17 = .ok (.invokevirtual 26, 3) := by decide +kernel
theorem d_Jn_flushAll_20 : decode b_Jn_flushAll 20 = .ok (.iload_n 2, 1) := by decide +kernel
theorem d_Jn_flushAll_21 : decode b_Jn_flushAll 21 = .ok (.ireturn, 1) := by decide +kernel
theorem d_Jn_write_0 : decode b_Jn_write 0 = .ok (.aload_n 0, 1) := by decide +kernel
theorem d_Jn_write_1 : decode b_Jn_write 1 = .ok (.getfield 18, 3) := by decide +kernel
theorem d_Jn_write_4 : decode b_Jn_write 4 = .ok (.iconst 1, 1) := by decide +kernel
theorem d_Jn_write_5 : decode b_Jn_write 5 = .ok (.iadd, 1) := by decide +kernel
theorem d_Jn_write_6 : decode b_Jn_write 6 = .ok (.bipush 16, 2) := by decide +kernel
theorem d_Jn_write_8 : decode b_Jn_write 8 = .ok (.if_icmp .lt 12, 3) := by decide +kernel
theorem d_Jn_write_11 : decode b_Jn_write 11 = .ok (.aload_n 0, 1) := by decide +kernel
theorem d_Jn_write_12 : decode b_Jn_write 12 = .ok (.aload_n 1, 1) := by decide +kernel
theorem d_Jn_write_13 : decode b_Jn_write 13 = .ok (.invokevirtual 22, 3) := by decide +kernel
theorem d_Jn_write_16 : decode b_Jn_write 16 = .ok (.pop, 1) := by decide +kernel
theorem d_Jn_write_17 : decode b_Jn_write 17 = .ok (.goto 26, 3) := by decide +kernel
theorem d_Jn_write_20 : decode b_Jn_write 20 = .ok (.aload_n 0, 1) := by decide +kernel
theorem d_Jn_write_21 : decode b_Jn_write 21 = .ok (.dup, 1) := by decide +kernel
theorem d_Jn_write_22 : decode b_Jn_write 22 = .ok (.getfield 18, 3) := by decide +kernel
theorem d_Jn_write_25 : decode b_Jn_write 25 = .ok (.iconst 1, 1) := by decide +kernel
theorem d_Jn_write_26 : decode b_Jn_write 26 = .ok (.iadd, 1) := by decide +kernel
theorem d_Jn_write_27 : decode b_Jn_write 27 = .ok (.putfield 18, 3) := by decide +kernel
theorem d_Jn_write_30 : decode b_Jn_write 30 = .ok (.aload_n 0, 1) := by decide +kernel
theorem d_Jn_write_31 : decode b_Jn_write 31 = .ok (.getfield 11, 3) := by decide +kernel
theorem d_Jn_write_34 : decode b_Jn_write 34 = .ok (.aload_n 0, 1) := by decide +kernel
theorem d_Jn_write_35 : decode b_Jn_write 35 = .ok (.getfield 18, 3) := by decide +kernel
theorem d_Jn_write_38 : decode b_Jn_write 38 = .ok (.aaload, 1) := by decide +kernel
theorem d_Jn_write_39 : decode b_Jn_write 39 = .ok (.aload_n 1, 1) := by decide +kernel
theorem d_Jn_write_40 : decode b_Jn_write 40 = .ok (.invokevirtual 26, 3) := by decide +kernel
theorem d_Jn_write_43 : decode b_Jn_write 43 = .ok (.return_, 1) := by decide +kernel
theorem d_Jn_restore_0 : decode b_Jn_restore 0 = .ok (.iload_n 2, 1) := by decide +kernel
theorem d_Jn_restore_1 : decode b_Jn_restore 1 = .ok (.iconst 0, 1) := by decide +kernel
theorem d_Jn_restore_2 : decode b_Jn_restore 2 = .ok (.invokestatic 30, 3) := by decide +kernel
theorem d_Jn_restore_5 : decode b_Jn_restore 5 = .ok (.aload_n 0, 1) := by decide +kernel
theorem d_Jn_restore_6 : decode b_Jn_restore 6 = .ok (.getfield 18, 3) := by decide +kernel
theorem d_Jn_restore_9 : decode b_Jn_restore 9 = .ok (.invokestatic 36, 3) := by decide +kernel
theorem d_Jn_restore_12 : decode b_Jn_restore 12 = .ok (.istore_n 3, 1) := by decide +kernel
theorem d_Jn_restore_13 : decode b_Jn_restore 13 = .ok (.aload_n 1, 1) := by decide +kernel
theorem d_Jn_restore_14 : decode b_Jn_restore 14 = .ok (.aload_n 0, 1) := by decide +kernel
theorem d_Jn_restore_15 : decode b_Jn_restore 15 = .ok (.getfield 11, 3) := by decide +kernel
theorem d_Jn_restore_18 : decode b_Jn_restore 18 = .ok (.iload_n 3, 1) := by decide +kernel
theorem d_Jn_restore_19 : decode b_Jn_restore 19 = .ok (.aaload, 1) := by decide +kernel
theorem d_Jn_restore_20 : decode b_Jn_restore 20 = .ok (.invokevirtual 26, 3) := by decide +kernel
theorem d_Jn_restore_23 : decode b_Jn_restore 23 = .ok (.aload_n 0, 1) := by decide +kernel
theorem d_Jn_restore_24 : decode b_Jn_restore 24 = .ok (.getfield 18, 3) := by decide +kernel
theorem d_Jn_restore_27 : decode b_Jn_restore 27 = .ok (.iload_n 3, 1) := by decide +kernel
theorem d_Jn_restore_28 : decode b_Jn_restore 28 = .ok (.isub, 1) := by decide +kernel
theorem d_Jn_restore_29 : decode b_Jn_restore 29 = .ok (.ireturn, 1) := by decide +kernel
def fn_Jn_flushAll (N : Nat) (q0 : Nat) (σ : gx_M) : Option (Int32 × gx_M) := if 8 ≤ q0 ∧ q0 < 25 then (gx_lt (gx_up σ 6 1 ((0 : Int32))) (fun σ_1 => if 0 ≤ ((0 : Int32)) ∧ ((0 : Int32)) < 16 then (gx_bv (fn_Ro_copyFrom N (gx_el 7 ((0 : Int32)).toNatClampNeg) q0 σ_1) (fun σ_3 => some (σ 6 1, σ_3))) else none)) else none
set_option maxHeartbeats 4000000 in
set_option maxRecDepth 100000 in
theorem ct_Jn_flushAll (l : Launch) (D : va_G) (dA : Nat → ClassId) (adr : Nat → Nat) (A : Nat → Prop) (hA : gx_A A adr) (N : Nat) (q0 : Nat) (σ : gx_M) (r : Int32) (σ' : gx_M) (hf : fn_Jn_flushAll N q0 σ = some (r, σ')) : Met l y_Jn_flushAll w_Jn_flushAll rm_Jn_flushAll (gx_Pc D dA adr σ [.ref (adr 6), .ref (adr q0)]) (gx_Q D dA adr A (some (.int r)) σ') 0 0 A := by
  refine Met.ofW (cc := b_Jn_flushAll) (maxL := 3) (ret := some .int) (by decide) rfl ?_
  intro p e s m args below meth c s₁ B hml hv
  obtain ⟨rfl, hP, hK⟩ := hv
  have hx := B.exec
  have hb := B.bytes
  have hr := B.returns
  have hlocks := B.notSynchronized
  have ht : ∀ w ∈ gx_tb, w.before _ s = true := fun w h => atoms_spec (ws := w_Jn_flushAll) B.pre w (List.mem_cons_of_mem _ h)
  have hown : s.vm.findClass R_Jn = some m.cls := findClass_of_methodNamed B.named
  have G : gx_G p m c b_Jn_flushAll 3 s _ gx_tb R_Jn D dA := ⟨⟨hx, hb, hml, hown, ht⟩, hK⟩
  have hI : gx_I D dA adr A s.heap σ s.heap [] := ⟨hP, va_S.rf⟩
  have hl := lv_entry ([.ref (adr 6), .ref (adr q0)]) (n := 3) (Nat.le_of_ble_eq_true rfl)
  rw [lg_entry_eq]
  generalize (lg_sl ([.ref (adr 6), .ref (adr q0)]) ++ List.replicate (3 - (lg_sl ([.ref (adr 6), .ref (adr q0)])).length) Slot.unset).toArray = ls at hl ⊢
  have hl : lv_has ls 3 [(0, .ref (adr 6)), (1, .ref (adr q0))] := hl
  rw [fn_Jn_flushAll] at hf
  obtain ⟨hq0, hf⟩ := gx_gd hf
  refine lv_aload_n hx hb d_Jn_flushAll_0 rfl (lv_at hl 0 rfl) ?_
  refine gx_getI G hI cl_Jn (by decide) 1 (by decide) (by decide) fl_Jn_18 d_Jn_flushAll_1 ?_
  refine lv_istore_n (i := 2) (lv' := [(2, .int (σ 6 1)), (0, .ref (adr 6)), (1, .ref (adr q0))]) hx hb d_Jn_flushAll_4 rfl hl (by decide) rfl (fun ls hl => ?_)
  refine lv_aload_n hx hb d_Jn_flushAll_5 rfl (lv_at hl 1 rfl) ?_
  refine lv_iconst (v := 0) hx hb d_Jn_flushAll_6 (by decide) ?_
  obtain ⟨σ_1, eσ_1, hf⟩ := gx_lte hf
  refine gx_put G hI hA cl_Jn (by decide) 1 (by decide) (by decide) fl_Jn_18 rfl rfl rfl eσ_1 d_Jn_flushAll_7 (fun H locs hI => ?_)
  refine lv_aload_n hx hb d_Jn_flushAll_10 rfl (lv_at hl 1 rfl) ?_
  refine gx_getR (o' := 7) G hI cl_Jn (by decide) 0 (by decide) (by decide) fl_Jn_11 d_Jn_flushAll_11 ?_
  refine lv_iconst (v := 0) hx hb d_Jn_flushAll_14 (by decide) ?_
  obtain ⟨hi_2, hf⟩ := gx_gd hf
  refine gx_aldP G hI hi_2 d_Jn_flushAll_15 ?_
  refine lv_aload_n hx hb d_Jn_flushAll_16 rfl (lv_at hl 2 rfl) ?_
  obtain ⟨σ_3, hc_4, hf⟩ := gx_bve hf
  refine gx_go (va_runV (As := [.ref (adr q0)]) (rest := []) G.1 (ct_Ro_copyFrom l D dA adr A hA N (gx_el 7 ((0 : Int32)).toNatClampNeg) q0 σ_1 σ_3 hc_4) (cwV 1 ht gi_Jn_26 rfl rfl rfl (by decide +kernel) ⟨Nat.le_of_ble_eq_true rfl, Nat.le_of_ble_eq_true rfl⟩) (gx_preV G hI cl_Ro (gx_ci_r (gx_el_p hi_2))) rfl rfl hl.1 rfl (lv_room (Nat.le_of_ble_eq_true rfl)) d_Jn_flushAll_17 ⟨Nat.zero_le _, Nat.zero_le _⟩) hI (st1 := []) rfl (fun H locs hI => ?_)
  refine lv_iload_n hx hb d_Jn_flushAll_20 rfl (lv_at hl 0 rfl) ?_
  cases hf
  exact W.iret hx hb hr (gx_F hI) hI.2.2.2 d_Jn_flushAll_21
def fn_Jn_write (N : Nat) (q0 : Nat) (σ : gx_M) : Option gx_M := if 8 ≤ q0 ∧ q0 < 25 then (if ((σ 6 1) + ((1 : Int32))) < ((16 : Int32)) then (gx_lt (gx_up σ 6 1 ((σ 6 1) + ((1 : Int32)))) (fun σ_2 => if 0 ≤ (σ_2 6 1) ∧ (σ_2 6 1) < 16 then (gx_bv (fn_Ro_copyFrom N (gx_el 7 (σ_2 6 1).toNatClampNeg) q0 σ_2) (fun σ_4 => some σ_4)) else none)) else (gx_bd (fn_Jn_flushAll N q0 σ) (fun r_8 σ_6 => some σ_6))) else none
set_option maxHeartbeats 4000000 in
set_option maxRecDepth 100000 in
theorem ct_Jn_write (l : Launch) (D : va_G) (dA : Nat → ClassId) (adr : Nat → Nat) (A : Nat → Prop) (hA : gx_A A adr) (N : Nat) (q0 : Nat) (σ : gx_M) (σ' : gx_M) (hf : fn_Jn_write N q0 σ = some σ') : Met l y_Jn_write w_Jn_write rm_Jn_write (gx_Pc D dA adr σ [.ref (adr 6), .ref (adr q0)]) (gx_Q D dA adr A none σ') 0 0 A := by
  refine Met.ofW (cc := b_Jn_write) (maxL := 2) (ret := none) (by decide) rfl ?_
  intro p e s m args below meth c s₁ B hml hv
  obtain ⟨rfl, hP, hK⟩ := hv
  have hx := B.exec
  have hb := B.bytes
  have hr := B.returns
  have hlocks := B.notSynchronized
  have ht : ∀ w ∈ gx_tb, w.before _ s = true := fun w h => atoms_spec (ws := w_Jn_write) B.pre w (List.mem_cons_of_mem _ h)
  have hown : s.vm.findClass R_Jn = some m.cls := findClass_of_methodNamed B.named
  have G : gx_G p m c b_Jn_write 2 s _ gx_tb R_Jn D dA := ⟨⟨hx, hb, hml, hown, ht⟩, hK⟩
  have hI : gx_I D dA adr A s.heap σ s.heap [] := ⟨hP, va_S.rf⟩
  have hl := lv_entry ([.ref (adr 6), .ref (adr q0)]) (n := 2) (Nat.le_of_ble_eq_true rfl)
  rw [lg_entry_eq]
  generalize (lg_sl ([.ref (adr 6), .ref (adr q0)]) ++ List.replicate (2 - (lg_sl ([.ref (adr 6), .ref (adr q0)])).length) Slot.unset).toArray = ls at hl ⊢
  have hl : lv_has ls 2 [(0, .ref (adr 6)), (1, .ref (adr q0))] := hl
  rw [fn_Jn_write] at hf
  obtain ⟨hq0, hf⟩ := gx_gd hf
  refine lv_aload_n hx hb d_Jn_write_0 rfl (lv_at hl 0 rfl) ?_
  refine gx_getI G hI cl_Jn (by decide) 1 (by decide) (by decide) fl_Jn_18 d_Jn_write_1 ?_
  refine lv_iconst (v := 1) hx hb d_Jn_write_4 (by decide) ?_
  refine lv_iadd hx hb d_Jn_write_5 ?_
  refine lv_bipush (v := 16) hx hb d_Jn_write_6 (by decide) ?_
  refine lv_icmp_lt (tgt := 20) hx hb d_Jn_write_8 (by decide) (fun c_1 => ?_) (fun c_1 => ?_)
  · replace hf := (if_pos c_1).symm.trans hf
    refine lv_aload_n hx hb d_Jn_write_20 rfl (lv_at hl 0 rfl) ?_
    refine lv_dup hx hb d_Jn_write_21 rfl ?_
    refine gx_getI G hI cl_Jn (by decide) 1 (by decide) (by decide) fl_Jn_18 d_Jn_write_22 ?_
    refine lv_iconst (v := 1) hx hb d_Jn_write_25 (by decide) ?_
    refine lv_iadd hx hb d_Jn_write_26 ?_
    obtain ⟨σ_2, eσ_2, hf⟩ := gx_lte hf
    refine gx_put G hI hA cl_Jn (by decide) 1 (by decide) (by decide) fl_Jn_18 rfl rfl rfl eσ_2 d_Jn_write_27 (fun H locs hI => ?_)
    refine lv_aload_n hx hb d_Jn_write_30 rfl (lv_at hl 0 rfl) ?_
    refine gx_getR (o' := 7) G hI cl_Jn (by decide) 0 (by decide) (by decide) fl_Jn_11 d_Jn_write_31 ?_
    refine lv_aload_n hx hb d_Jn_write_34 rfl (lv_at hl 0 rfl) ?_
    refine gx_getI G hI cl_Jn (by decide) 1 (by decide) (by decide) fl_Jn_18 d_Jn_write_35 ?_
    obtain ⟨hi_3, hf⟩ := gx_gd hf
    refine gx_aldP G hI hi_3 d_Jn_write_38 ?_
    refine lv_aload_n hx hb d_Jn_write_39 rfl (lv_at hl 1 rfl) ?_
    obtain ⟨σ_4, hc_5, hf⟩ := gx_bve hf
    refine gx_go (va_runV (As := [.ref (adr q0)]) (rest := []) G.1 (ct_Ro_copyFrom l D dA adr A hA N (gx_el 7 (σ_2 6 1).toNatClampNeg) q0 σ_2 σ_4 hc_5) (cwV 1 ht gi_Jn_26 rfl rfl rfl (by decide +kernel) ⟨Nat.le_of_ble_eq_true rfl, Nat.le_of_ble_eq_true rfl⟩) (gx_preV G hI cl_Ro (gx_ci_r (gx_el_p hi_3))) rfl rfl hl.1 rfl (lv_room (Nat.le_of_ble_eq_true rfl)) d_Jn_write_40 ⟨Nat.zero_le _, Nat.zero_le _⟩) hI (st1 := []) rfl (fun H locs hI => ?_)
    cases hf
    exact W.vret hx hb hr (gx_F hI) hI.2.2.2 d_Jn_write_43
  · replace hf := (if_neg c_1).symm.trans hf
    refine lv_aload_n hx hb d_Jn_write_11 rfl (lv_at hl 0 rfl) ?_
    refine lv_aload_n hx hb d_Jn_write_12 rfl (lv_at hl 1 rfl) ?_
    obtain ⟨r_8, σ_6, hc_7, hf⟩ := gx_bde hf
    refine gx_go (va_runV (As := [.ref (adr q0)]) (rest := []) G.1 (ct_Jn_flushAll l D dA adr A hA N q0 σ r_8 σ_6 hc_7) (cwV 1 ht gi_Jn_22 rfl rfl rfl (by decide +kernel) ⟨Nat.le_of_ble_eq_true rfl, Nat.le_of_ble_eq_true rfl⟩) (gx_preV G hI cl_Jn (by decide)) rfl rfl hl.1 rfl (lv_room (Nat.le_of_ble_eq_true rfl)) d_Jn_write_13 ⟨Nat.zero_le _, Nat.zero_le _⟩) hI (st1 := [.int r_8]) rfl (fun H locs hI => ?_)
    refine lv_pop hx hb d_Jn_write_16 rfl ?_
    refine lv_goto (tgt := 43) hx hb d_Jn_write_17 (by decide) ?_
    cases hf
    exact W.vret hx hb hr (gx_F hI) hI.2.2.2 d_Jn_write_43
def fn_Jn_restore (N : Nat) (q0 : Nat) (p1 : Int32) (σ : gx_M) : Option (Int32 × gx_M) := if 8 ≤ q0 ∧ q0 < 25 then (gx_lt (if (σ 6 1) < (if p1 < ((0 : Int32)) then ((0 : Int32)) else p1) then (σ 6 1) else (if p1 < ((0 : Int32)) then ((0 : Int32)) else p1)) (fun x_1 => if 0 ≤ x_1 ∧ x_1 < 16 then (gx_bv (fn_Ro_copyFrom N q0 (gx_el 7 x_1.toNatClampNeg) σ) (fun σ_3 => some ((σ_3 6 1) - x_1, σ_3))) else none)) else none
set_option maxHeartbeats 4000000 in
set_option maxRecDepth 100000 in
theorem ct_Jn_restore (l : Launch) (D : va_G) (dA : Nat → ClassId) (adr : Nat → Nat) (A : Nat → Prop) (hA : gx_A A adr) (N : Nat) (q0 : Nat) (p1 : Int32) (σ : gx_M) (r : Int32) (σ' : gx_M) (hf : fn_Jn_restore N q0 p1 σ = some (r, σ')) : Met l y_Jn_restore w_Jn_restore rm_Jn_restore (gx_Pc D dA adr σ [.ref (adr 6), .ref (adr q0), .int p1]) (gx_Q D dA adr A (some (.int r)) σ') 0 0 A := by
  refine Met.ofW (cc := b_Jn_restore) (maxL := 4) (ret := some .int) (by decide) rfl ?_
  intro p e s m args below meth c s₁ B hml hv
  obtain ⟨rfl, hP, hK⟩ := hv
  have hx := B.exec
  have hb := B.bytes
  have hr := B.returns
  have hlocks := B.notSynchronized
  have ht : ∀ w ∈ gx_tb, w.before _ s = true := fun w h => atoms_spec (ws := w_Jn_restore) B.pre w (List.mem_cons_of_mem _ h)
  have hown : s.vm.findClass R_Jn = some m.cls := findClass_of_methodNamed B.named
  have G : gx_G p m c b_Jn_restore 4 s _ gx_tb R_Jn D dA := ⟨⟨hx, hb, hml, hown, ht⟩, hK⟩
  have hI : gx_I D dA adr A s.heap σ s.heap [] := ⟨hP, va_S.rf⟩
  have hl := lv_entry ([.ref (adr 6), .ref (adr q0), .int p1]) (n := 4) (Nat.le_of_ble_eq_true rfl)
  rw [lg_entry_eq]
  generalize (lg_sl ([.ref (adr 6), .ref (adr q0), .int p1]) ++ List.replicate (4 - (lg_sl ([.ref (adr 6), .ref (adr q0), .int p1])).length) Slot.unset).toArray = ls at hl ⊢
  have hl : lv_has ls 4 [(0, .ref (adr 6)), (1, .ref (adr q0)), (2, .int p1)] := hl
  rw [fn_Jn_restore] at hf
  obtain ⟨hq0, hf⟩ := gx_gd hf
  refine lv_iload_n hx hb d_Jn_restore_0 rfl (lv_at hl 2 rfl) ?_
  refine lv_iconst (v := 0) hx hb d_Jn_restore_1 (by decide) ?_
  refine va_mmax hx hb (hml.trans hl.1.symm) hown (ht _ ml_Jn_30) (ht _ st_Math_max) (ht _ in_Math) (ht _ co_Math_max) (Nat.le_of_ble_eq_true rfl) (Nat.le_of_ble_eq_true rfl) (Nat.zero_le _) (Nat.zero_le _) d_Jn_restore_2 ?_
  refine lv_aload_n hx hb d_Jn_restore_5 rfl (lv_at hl 0 rfl) ?_
  refine gx_getI G hI cl_Jn (by decide) 1 (by decide) (by decide) fl_Jn_18 d_Jn_restore_6 ?_
  refine va_mmin hx hb (hml.trans hl.1.symm) hown (ht _ ml_Jn_36) (ht _ st_Math_min) (ht _ in_Math) (ht _ co_Math_min) (Nat.le_of_ble_eq_true rfl) (Nat.le_of_ble_eq_true rfl) (Nat.zero_le _) (Nat.zero_le _) d_Jn_restore_9 ?_
  obtain ⟨x_1, ex_1, hf⟩ := gx_lte hf
  refine gx_top ex_1 ?_
  refine lv_istore_n (i := 3) (lv' := [(3, .int x_1), (0, .ref (adr 6)), (1, .ref (adr q0)), (2, .int p1)]) hx hb d_Jn_restore_12 rfl hl (by decide) rfl (fun ls hl => ?_)
  refine lv_aload_n hx hb d_Jn_restore_13 rfl (lv_at hl 2 rfl) ?_
  refine lv_aload_n hx hb d_Jn_restore_14 rfl (lv_at hl 1 rfl) ?_
  refine gx_getR (o' := 7) G hI cl_Jn (by decide) 0 (by decide) (by decide) fl_Jn_11 d_Jn_restore_15 ?_
  refine lv_iload_n hx hb d_Jn_restore_18 rfl (lv_at hl 0 rfl) ?_
  obtain ⟨hi_2, hf⟩ := gx_gd hf
  refine gx_aldP G hI hi_2 d_Jn_restore_19 ?_
  obtain ⟨σ_3, hc_4, hf⟩ := gx_bve hf
  refine gx_go (va_runV (As := [.ref (adr (gx_el 7 x_1.toNatClampNeg))]) (rest := []) G.1 (ct_Ro_copyFrom l D dA adr A hA N q0 (gx_el 7 x_1.toNatClampNeg) σ σ_3 hc_4) (cwV 1 ht gi_Jn_26 rfl rfl rfl (by decide +kernel) ⟨Nat.le_of_ble_eq_true rfl, Nat.le_of_ble_eq_true rfl⟩) (gx_preV G hI cl_Ro (gx_ci_r hq0)) rfl rfl hl.1 rfl (lv_room (Nat.le_of_ble_eq_true rfl)) d_Jn_restore_20 ⟨Nat.zero_le _, Nat.zero_le _⟩) hI (st1 := []) rfl (fun H locs hI => ?_)
  refine lv_aload_n hx hb d_Jn_restore_23 rfl (lv_at hl 1 rfl) ?_
  refine gx_getI G hI cl_Jn (by decide) 1 (by decide) (by decide) fl_Jn_18 d_Jn_restore_24 ?_
  refine lv_iload_n hx hb d_Jn_restore_27 rfl (lv_at hl 0 rfl) ?_
  refine lv_isub hx hb d_Jn_restore_28 ?_
  cases hf
  exact W.iret hx hb hr (gx_F hI) hI.2.2.2 d_Jn_restore_29
end
section
theorem d_Bo_within_0 : decode b_Bo_within 0 = .ok (.iload_n 0, 1) := by decide +kernel
theorem d_Bo_within_1 : decode b_Bo_within 1 = .ok (.iload_n 1, 1) := by decide +kernel
theorem d_Bo_within_2 : decode b_Bo_within 2 = .ok (.if_icmp .lt 12, 3) := by decide +kernel
theorem d_Bo_within_5 : decode b_Bo_within 5 = .ok (.iload_n 0, 1) := by decide +kernel
theorem d_Bo_within_6 : decode b_Bo_within 6 = .ok (.iload_n 2, 1) := by decide +kernel
theorem d_Bo_within_7 : decode b_Bo_within 7 = .ok (.if_icmp .gt 7, 3) := by decide +kernel
theorem d_Bo_within_10 : decode b_Bo_within 10 = .ok (.iconst 1, 1) := by decide +kernel
theorem d_Bo_within_11 : decode b_Bo_within 11 = .ok (.goto 4, 3) := by decide +kernel
theorem d_Bo_within_14 : decode b_Bo_within 14 = .ok (.iconst 0, 1) := by decide +kernel
theorem d_Bo_within_15 : decode b_Bo_within 15 = .ok (.ireturn, 1) := by decide +kernel
theorem d_Bo_isQueue_0 : decode b_Bo_isQueue 0 = .ok (.iload_n 0, 1) := by decide +kernel
theorem d_Bo_isQueue_1 : decode b_Bo_isQueue 1 = .ok (.iconst 0, 1) := by decide +kernel
theorem d_Bo_isQueue_2 : decode b_Bo_isQueue 2 = .ok (.iconst 3, 1) := by decide +kernel
theorem d_Bo_isQueue_3 : decode b_Bo_isQueue 3 = .ok (.invokestatic 45, 3) := by decide +kernel
theorem d_Bo_isQueue_6 : decode b_Bo_isQueue 6 = .ok (.ireturn, 1) := by decide +kernel
theorem d_Bo_isWorker_0 : decode b_Bo_isWorker 0 = .ok (.iload_n 0, 1) := by decide +kernel
theorem d_Bo_isWorker_1 : decode b_Bo_isWorker 1 = .ok (.iconst 0, 1) := by decide +kernel
theorem d_Bo_isWorker_2 : decode b_Bo_isWorker 2 = .ok (.iconst 5, 1) := by decide +kernel
theorem d_Bo_isWorker_3 : decode b_Bo_isWorker 3 = .ok (.invokestatic 45, 3) := by decide +kernel
theorem d_Bo_isWorker_6 : decode b_Bo_isWorker 6 = .ok (.ireturn, 1) := by decide +kernel
theorem d_Bo_numberOrNone_0 : decode b_Bo_numberOrNone 0 = .ok (.aload_n 0, 1) := by decide +kernel
theorem d_Bo_numberOrNone_1 : decode b_Bo_numberOrNone 1 = .ok (.ifnonnull 8, 3) := by decide +kernel
theorem d_Bo_numberOrNone_4 : decode b_Bo_numberOrNone 4 = .ok (.bipush (-4), 2) := by decide +kernel
theorem d_Bo_numberOrNone_6 : decode b_Bo_numberOrNone 6 = .ok (.goto 7, 3) := by decide +kernel
theorem d_Bo_numberOrNone_9 : decode b_Bo_numberOrNone 9 = .ok (.aload_n 0, 1) := by decide +kernel
theorem d_Bo_numberOrNone_10 : decode b_Bo_numberOrNone 10 = .ok (.getfield 83, 3) := by decide +kernel
theorem d_Bo_numberOrNone_13 : decode b_Bo_numberOrNone 13 = .ok (.ireturn, 1) := by decide +kernel
theorem d_Bo_isOpen_0 : decode b_Bo_isOpen 0 = .ok (.aload_n 0, 1) := by decide +kernel
theorem d_Bo_isOpen_1 : decode b_Bo_isOpen 1 = .ok (.getfield 15, 3) := by decide +kernel
theorem d_Bo_isOpen_4 : decode b_Bo_isOpen 4 = .ok (.iload_n 1, 1) := by decide +kernel
theorem d_Bo_isOpen_5 : decode b_Bo_isOpen 5 = .ok (.aaload, 1) := by decide +kernel
theorem d_Bo_isOpen_6 : decode b_Bo_isOpen 6 = .ok (.invokevirtual 188, 3) := by decide +kernel
theorem d_Bo_isOpen_9 : decode b_Bo_isOpen 9 = .ok (.ifCond .eq 19, 3) := by decide +kernel
theorem d_Bo_isOpen_12 : decode b_Bo_isOpen 12 = .ok (.aload_n 0, 1) := by decide +kernel
theorem d_Bo_isOpen_13 : decode b_Bo_isOpen 13 = .ok (.getfield 23, 3) := by decide +kernel
theorem d_Bo_isOpen_16 : decode b_Bo_isOpen 16 = .ok (.iload_n 1, 1) := by decide +kernel
theorem d_Bo_isOpen_17 : decode b_Bo_isOpen 17 = .ok (.aconst_null, 1) := by decide +kernel
theorem d_Bo_isOpen_18 : decode b_Bo_isOpen 18 = .ok (.invokevirtual 123, 3) := by decide +kernel
theorem d_Bo_isOpen_21 : decode b_Bo_isOpen 21 = .ok (.ifnull 7, 3) := by decide +kernel
theorem d_Bo_isOpen_24 : decode b_Bo_isOpen 24 = .ok (.iconst 1, 1) := by decide +kernel
theorem d_Bo_isOpen_25 : decode b_Bo_isOpen 25 = .ok (.goto 4, 3) := by decide +kernel
theorem d_Bo_isOpen_28 : decode b_Bo_isOpen 28 = .ok (.iconst 0, 1) := by decide +kernel
theorem d_Bo_isOpen_29 : decode b_Bo_isOpen 29 = .ok (.ireturn, 1) := by decide +kernel
theorem d_Bo_firstOpenQueue_0 : decode b_Bo_firstOpenQueue 0 = .ok (.iconst 0, 1) := by decide +kernel
theorem d_Bo_firstOpenQueue_1 : decode b_Bo_firstOpenQueue 1 = .ok (.istore_n 1, 1) := by decide +kernel
theorem d_Bo_firstOpenQueue_2 : decode b_Bo_firstOpenQueue 2 = .ok (.iload_n 1, 1) := by decide +kernel
theorem d_Bo_firstOpenQueue_3 : decode b_Bo_firstOpenQueue 3 = .ok (.iconst 4, 1) := by decide +kernel
theorem d_Bo_firstOpenQueue_4 : decode b_Bo_firstOpenQueue 4 = .ok (.if_icmp .ge 19, 3) := by decide +kernel
theorem d_Bo_firstOpenQueue_7 : decode b_Bo_firstOpenQueue 7 = .ok (.aload_n 0, 1) := by decide +kernel
theorem d_Bo_firstOpenQueue_8 : decode b_Bo_firstOpenQueue 8 = .ok (.iload_n 1, 1) := by decide +kernel
theorem d_Bo_firstOpenQueue_9 : decode b_Bo_firstOpenQueue 9 = .ok (.invokevirtual 191, 3) := by decide +kernel
theorem d_Bo_firstOpenQueue_12 : decode b_Bo_firstOpenQueue 12 = .ok (.ifCond .eq 5, 3) := by decide +kernel
theorem d_Bo_firstOpenQueue_15 : decode b_Bo_firstOpenQueue 15 = .ok (.iload_n 1, 1) := by decide +kernel
theorem d_Bo_firstOpenQueue_16 : decode b_Bo_firstOpenQueue 16 = .ok (.ireturn, 1) := by decide +kernel
theorem d_Bo_firstOpenQueue_17 : decode b_Bo_firstOpenQueue 17 = .ok (.iinc 1 1, 3) := by decide +kernel
theorem d_Bo_firstOpenQueue_20 : decode b_Bo_firstOpenQueue 20 = .ok (.goto (-18), 3) := by decide +kernel
theorem d_Bo_firstOpenQueue_23 : decode b_Bo_firstOpenQueue 23 = .ok (.bipush (-4), 2) := by decide +kernel
theorem d_Bo_firstOpenQueue_25 : decode b_Bo_firstOpenQueue 25 = .ok (.ireturn, 1) := by decide +kernel
theorem d_Bo_openQueueByCredit_0 : decode b_Bo_openQueueByCredit 0 = .ok (.bipush (-4), 2) := by decide +kernel
theorem d_Bo_openQueueByCredit_2 : decode b_Bo_openQueueByCredit 2 = .ok (.istore_n 1, 1) := by decide +kernel
theorem d_Bo_openQueueByCredit_3 : decode b_Bo_openQueueByCredit 3 = .ok (.iconst 0, 1) := by decide +kernel
theorem d_Bo_openQueueByCredit_4 : decode b_Bo_openQueueByCredit 4 = .ok (.istore_n 2, 1) := by decide +kernel
theorem d_Bo_openQueueByCredit_5 : decode b_Bo_openQueueByCredit 5 = .ok (.iconst 0, 1) := by decide +kernel
theorem d_Bo_openQueueByCredit_6 : decode b_Bo_openQueueByCredit 6 = .ok (.istore_n 3, 1) := by decide +kernel
theorem d_Bo_openQueueByCredit_7 : decode b_Bo_openQueueByCredit 7 = .ok (.iload_n 3, 1) := by decide +kernel
theorem d_Bo_openQueueByCredit_8 : decode b_Bo_openQueueByCredit 8 = .ok (.iconst 4, 1) := by decide +kernel
theorem d_Bo_openQueueByCredit_9 : decode b_Bo_openQueueByCredit 9 = .ok (.if_icmp .ge 81, 3) := by decide +kernel
theorem d_Bo_openQueueByCredit_12 : decode b_Bo_openQueueByCredit 12 = .ok (.aload_n 0, 1) := by decide +kernel
theorem d_Bo_openQueueByCredit_13 : decode b_Bo_openQueueByCredit 13 = .ok (.iload_n 3, 1) := by decide +kernel
theorem d_Bo_openQueueByCredit_14 : decode b_Bo_openQueueByCredit 14 = .ok (.invokevirtual 191, 3) := by decide +kernel
theorem d_Bo_openQueueByCredit_17 : decode b_Bo_openQueueByCredit 17 = .ok (.ifCond .eq 67, 3) := by decide +kernel
theorem d_Bo_openQueueByCredit_20 : decode b_Bo_openQueueByCredit 20 = .ok (.aload_n 0, 1) := by decide +kernel
theorem d_Bo_openQueueByCredit_21 : decode b_Bo_openQueueByCredit 21 = .ok (.getfield 15, 3) := by decide +kernel
theorem d_Bo_openQueueByCredit_24 : decode b_Bo_openQueueByCredit 24 = .ok (.iload_n 3, 1) := by decide +kernel
theorem d_Bo_openQueueByCredit_25 : decode b_Bo_openQueueByCredit 25 = .ok (.aaload, 1) := by decide +kernel
theorem d_Bo_openQueueByCredit_26 : decode b_Bo_openQueueByCredit 26 = .ok (.dup, 1) := by decide +kernel
theorem d_Bo_openQueueByCredit_27 : decode b_Bo_openQueueByCredit 27 = .ok (.getfield 194, 3) := by decide +kernel
theorem d_Bo_openQueueByCredit_30 : decode b_Bo_openQueueByCredit 30 = .ok (.aload_n 0, 1) := by decide +kernel
theorem d_Bo_openQueueByCredit_31 : decode b_Bo_openQueueByCredit 31 = .ok (.getfield 15, 3) := by decide +kernel
theorem d_Bo_openQueueByCredit_34 : decode b_Bo_openQueueByCredit 34 = .ok (.iload_n 3, 1) := by decide +kernel
theorem d_Bo_openQueueByCredit_35 : decode b_Bo_openQueueByCredit 35 = .ok (.aaload, 1) := by decide +kernel
theorem d_Bo_openQueueByCredit_36 : decode b_Bo_openQueueByCredit 36 = .ok (.getfield 197, 3) := by decide +kernel
theorem d_Bo_openQueueByCredit_39 : decode b_Bo_openQueueByCredit 39 = .ok (.iadd, 1) := by decide +kernel
theorem d_Bo_openQueueByCredit_40 : decode b_Bo_openQueueByCredit 40 = .ok (.putfield 194, 3) := by decide +kernel
theorem d_Bo_openQueueByCredit_43 : decode b_Bo_openQueueByCredit 43 = .ok (.iload_n 2, 1) := by decide +kernel
theorem d_Bo_openQueueByCredit_44 : decode b_Bo_openQueueByCredit 44 = .ok (.aload_n 0, 1) := by decide +kernel
theorem d_Bo_openQueueByCredit_45 : decode b_Bo_openQueueByCredit 45 = .ok (.getfield 15, 3) := by decide +kernel
theorem d_Bo_openQueueByCredit_48 : decode b_Bo_openQueueByCredit 48 = .ok (.iload_n 3, 1) := by decide +kernel
theorem d_Bo_openQueueByCredit_49 : decode b_Bo_openQueueByCredit 49 = .ok (.aaload, 1) := by decide +kernel
theorem d_Bo_openQueueByCredit_50 : decode b_Bo_openQueueByCredit 50 = .ok (.getfield 197, 3) := by decide +kernel
theorem d_Bo_openQueueByCredit_53 : decode b_Bo_openQueueByCredit 53 = .ok (.iadd, 1) := by decide +kernel
theorem d_Bo_openQueueByCredit_54 : decode b_Bo_openQueueByCredit 54 = .ok (.istore_n 2, 1) := by decide +kernel
theorem d_Bo_openQueueByCredit_55 : decode b_Bo_openQueueByCredit 55 = .ok (.iload_n 1, 1) := by decide +kernel
theorem d_Bo_openQueueByCredit_56 : decode b_Bo_openQueueByCredit 56 = .ok (.bipush (-4), 2) := by decide +kernel
theorem d_Bo_openQueueByCredit_58 : decode b_Bo_openQueueByCredit 58 = .ok (.if_icmp .eq 24, 3) := by decide +kernel
theorem d_Bo_openQueueByCredit_61 : decode b_Bo_openQueueByCredit 61 = .ok (.aload_n 0, 1) := by decide +kernel
theorem d_Bo_openQueueByCredit_62 : decode b_Bo_openQueueByCredit 62 = .ok (.getfield 15, 3) := by decide +kernel
theorem d_Bo_openQueueByCredit_65 : decode b_Bo_openQueueByCredit 65 = .ok (.iload_n 3, 1) := by decide +kernel
theorem d_Bo_openQueueByCredit_66 : decode b_Bo_openQueueByCredit 66 = .ok (.aaload, 1) := by decide +kernel
theorem d_Bo_openQueueByCredit_67 : decode b_Bo_openQueueByCredit 67 = .ok (.getfield 194, 3) := by decide +kernel
theorem d_Bo_openQueueByCredit_70 : decode b_Bo_openQueueByCredit 70 = .ok (.aload_n 0, 1) := by decide +kernel
theorem d_Bo_openQueueByCredit_71 : decode b_Bo_openQueueByCredit 71 = .ok (.getfield 15, 3) := by decide +kernel
theorem d_Bo_openQueueByCredit_74 : decode b_Bo_openQueueByCredit 74 = .ok (.iload_n 1, 1) := by decide +kernel
theorem d_Bo_openQueueByCredit_75 : decode b_Bo_openQueueByCredit 75 = .ok (.aaload, 1) := by decide +kernel
theorem d_Bo_openQueueByCredit_76 : decode b_Bo_openQueueByCredit 76 = .ok (.getfield 194, 3) := by decide +kernel
theorem d_Bo_openQueueByCredit_79 : decode b_Bo_openQueueByCredit 79 = .ok (.if_icmp .le 5, 3) := by decide +kernel
theorem d_Bo_openQueueByCredit_82 : decode b_Bo_openQueueByCredit 82 = .ok (.iload_n 3, 1) := by decide +kernel
theorem d_Bo_openQueueByCredit_83 : decode b_Bo_openQueueByCredit 83 = .ok (.istore_n 1, 1) := by decide +kernel
theorem d_Bo_openQueueByCredit_84 : decode b_Bo_openQueueByCredit 84 = .ok (.iinc 3 1, 3) := by decide +kernel
theorem d_Bo_openQueueByCredit_87 : decode b_Bo_openQueueByCredit 87 = .ok (.goto (-80), 3) := by decide +kernel
theorem d_Bo_openQueueByCredit_90 : decode b_Bo_openQueueByCredit 90 = .ok (.iload_n 1, 1) := by decide +kernel
theorem d_Bo_openQueueByCredit_91 : decode b_Bo_openQueueByCredit 91 = .ok (.bipush (-4), 2) := by decide +kernel
theorem d_Bo_openQueueByCredit_93 : decode b_Bo_openQueueByCredit 93 = .ok (.if_icmp .eq 18, 3) := by decide +kernel
theorem d_Bo_openQueueByCredit_96 : decode b_Bo_openQueueByCredit 96 = .ok (.aload_n 0, 1) := by decide +kernel
theorem d_Bo_openQueueByCredit_97 : decode b_Bo_openQueueByCredit 97 = .ok (.getfield 15, 3) := by decide +kernel
theorem d_Bo_openQueueByCredit_100 : decode b_Bo_openQueueByCredit 100 = .ok (.iload_n 1, 1) := by decide +kernel
theorem d_Bo_openQueueByCredit_101 : decode b_Bo_openQueueByCredit 101 = .ok (.aaload, 1) := by decide +kernel
theorem d_Bo_openQueueByCredit_102 : decode b_Bo_openQueueByCredit 102 = .ok (.dup, 1) := by decide +kernel
theorem d_Bo_openQueueByCredit_103 : decode b_Bo_openQueueByCredit 103 = .ok (.getfield 194, 3) := by decide +kernel
theorem d_Bo_openQueueByCredit_106 : decode b_Bo_openQueueByCredit 106 = .ok (.iload_n 2, 1) := by decide +kernel
theorem d_Bo_openQueueByCredit_107 : decode b_Bo_openQueueByCredit 107 = .ok (.isub, 1) := by decide +kernel
theorem d_Bo_openQueueByCredit_108 : decode b_Bo_openQueueByCredit 108 = .ok (.putfield 194, 3) := by decide +kernel
theorem d_Bo_openQueueByCredit_111 : decode b_Bo_openQueueByCredit 111 = .ok (.iload_n 1, 1) := by decide +kernel
theorem d_Bo_openQueueByCredit_112 : decode b_Bo_openQueueByCredit 112 = .ok (.ireturn, 1) := by decide +kernel
theorem d_Bo_queue_0 : decode b_Bo_queue 0 = .ok (.iload_n 1, 1) := by decide +kernel
theorem d_Bo_queue_1 : decode b_Bo_queue 1 = .ok (.invokestatic 41, 3) := by decide +kernel
theorem d_Bo_queue_4 : decode b_Bo_queue 4 = .ok (.ifCond .eq 34, 3) := by decide +kernel
theorem d_Bo_queue_7 : decode b_Bo_queue 7 = .ok (.iload_n 2, 1) := by decide +kernel
theorem d_Bo_queue_8 : decode b_Bo_queue 8 = .ok (.iconst 0, 1) := by decide +kernel
theorem d_Bo_queue_9 : decode b_Bo_queue 9 = .ok (.bipush 8, 2) := by decide +kernel
theorem d_Bo_queue_11 : decode b_Bo_queue 11 = .ok (.invokestatic 45, 3) := by decide +kernel
theorem d_Bo_queue_14 : decode b_Bo_queue 14 = .ok (.ifCond .eq 24, 3) := by decide +kernel
theorem d_Bo_queue_17 : decode b_Bo_queue 17 = .ok (.iload_n 3, 1) := by decide +kernel
theorem d_Bo_queue_18 : decode b_Bo_queue 18 = .ok (.iconst 0, 1) := by decide +kernel
theorem d_Bo_queue_19 : decode b_Bo_queue 19 = .ok (.bipush 20, 2) := by decide +kernel
theorem d_Bo_queue_21 : decode b_Bo_queue 21 = .ok (.invokestatic 45, 3) := by decide +kernel
theorem d_Bo_queue_24 : decode b_Bo_queue 24 = .ok (.ifCond .eq 14, 3) := by decide +kernel
theorem d_Bo_queue_27 : decode b_Bo_queue 27 = .ok (.iload 4, 2) := by decide +kernel
theorem d_Bo_queue_29 : decode b_Bo_queue 29 = .ok (.iconst 1, 1) := by decide +kernel
theorem d_Bo_queue_30 : decode b_Bo_queue 30 = .ok (.bipush 50, 2) := by decide +kernel
theorem d_Bo_queue_32 : decode b_Bo_queue 32 = .ok (.invokestatic 45, 3) := by decide +kernel
theorem d_Bo_queue_35 : decode b_Bo_queue 35 = .ok (.ifCond .ne 5, 3) := by decide +kernel
theorem d_Bo_queue_38 : decode b_Bo_queue 38 = .ok (.iconst (-1), 1) := by decide +kernel
theorem d_Bo_queue_39 : decode b_Bo_queue 39 = .ok (.ireturn, 1) := by decide +kernel
theorem d_Bo_queue_40 : decode b_Bo_queue 40 = .ok (.aload_n 0, 1) := by decide +kernel
theorem d_Bo_queue_41 : decode b_Bo_queue 41 = .ok (.getfield 15, 3) := by decide +kernel
theorem d_Bo_queue_44 : decode b_Bo_queue 44 = .ok (.iload_n 1, 1) := by decide +kernel
theorem d_Bo_queue_45 : decode b_Bo_queue 45 = .ok (.aaload, 1) := by decide +kernel
theorem d_Bo_queue_46 : decode b_Bo_queue 46 = .ok (.iload_n 2, 1) := by decide +kernel
theorem d_Bo_queue_47 : decode b_Bo_queue 47 = .ok (.iload_n 3, 1) := by decide +kernel
theorem d_Bo_queue_48 : decode b_Bo_queue 48 = .ok (.iload 4, 2) := by decide +kernel
theorem d_Bo_queue_50 : decode b_Bo_queue 50 = .ok (.aload_n 0, 1) := by decide +kernel
theorem d_Bo_queue_51 : decode b_Bo_queue 51 = .ok (.getfield 34, 3) := by decide +kernel
theorem d_Bo_queue_54 : decode b_Bo_queue 54 = .ok (.invokevirtual 49, 3) := by decide +kernel
theorem d_Bo_queue_57 : decode b_Bo_queue 57 = .ok (.iconst 0, 1) := by decide +kernel
theorem d_Bo_queue_58 : decode b_Bo_queue 58 = .ok (.ireturn, 1) := by decide +kernel
theorem d_Bo_key_0 : decode b_Bo_key 0 = .ok (.iload_n 1, 1) := by decide +kernel
theorem d_Bo_key_1 : decode b_Bo_key 1 = .ok (.iconst (-1), 1) := by decide +kernel
theorem d_Bo_key_2 : decode b_Bo_key 2 = .ok (.if_icmp .eq 15, 3) := by decide +kernel
theorem d_Bo_key_5 : decode b_Bo_key 5 = .ok (.iload_n 1, 1) := by decide +kernel
theorem d_Bo_key_6 : decode b_Bo_key 6 = .ok (.iconst 0, 1) := by decide +kernel
theorem d_Bo_key_7 : decode b_Bo_key 7 = .ok (.bipush 31, 2) := by decide +kernel
theorem d_Bo_key_9 : decode b_Bo_key 9 = .ok (.invokestatic 45, 3) := by decide +kernel
theorem d_Bo_key_12 : decode b_Bo_key 12 = .ok (.ifCond .ne 5, 3) := by decide +kernel
theorem d_Bo_key_15 : decode b_Bo_key 15 = .ok (.iconst (-1), 1) := by decide +kernel
theorem d_Bo_key_16 : decode b_Bo_key 16 = .ok (.ireturn, 1) := by decide +kernel
theorem d_Bo_key_17 : decode b_Bo_key 17 = .ok (.aload_n 0, 1) := by decide +kernel
theorem d_Bo_key_18 : decode b_Bo_key 18 = .ok (.iload_n 1, 1) := by decide +kernel
theorem d_Bo_key_19 : decode b_Bo_key 19 = .ok (.putfield 38, 3) := by decide +kernel
theorem d_Bo_key_22 : decode b_Bo_key 22 = .ok (.iconst 0, 1) := by decide +kernel
theorem d_Bo_key_23 : decode b_Bo_key 23 = .ok (.ireturn, 1) := by decide +kernel
theorem d_Bo_submit_0 : decode b_Bo_submit 0 = .ok (.iload_n 1, 1) := by decide +kernel
theorem d_Bo_submit_1 : decode b_Bo_submit 1 = .ok (.invokestatic 41, 3) := by decide +kernel
theorem d_Bo_submit_4 : decode b_Bo_submit 4 = .ok (.ifCond .eq 45, 3) := by decide +kernel
theorem d_Bo_submit_7 : decode b_Bo_submit 7 = .ok (.iload_n 2, 1) := by decide +kernel
theorem d_Bo_submit_8 : decode b_Bo_submit 8 = .ok (.iconst 0, 1) := by decide +kernel
theorem d_Bo_submit_9 : decode b_Bo_submit 9 = .ok (.bipush 9, 2) := by decide +kernel
theorem d_Bo_submit_11 : decode b_Bo_submit 11 = .ok (.invokestatic 45, 3) := by decide +kernel
theorem d_Bo_submit_14 : decode b_Bo_submit 14 = .ok (.ifCond .eq 35, 3) := by decide +kernel
theorem d_Bo_submit_17 : decode b_Bo_submit 17 = .ok (.iload_n 3, 1) := by decide +kernel
theorem d_Bo_submit_18 : decode b_Bo_submit 18 = .ok (.iconst 0, 1) := by decide +kernel
theorem d_Bo_submit_19 : decode b_Bo_submit 19 = .ok (.sipush 1000, 3) := by decide +kernel
theorem d_Bo_submit_22 : decode b_Bo_submit 22 = .ok (.invokestatic 45, 3) := by decide +kernel
theorem d_Bo_submit_25 : decode b_Bo_submit 25 = .ok (.ifCond .eq 24, 3) := by decide +kernel
theorem d_Bo_submit_28 : decode b_Bo_submit 28 = .ok (.iload 4, 2) := by decide +kernel
theorem d_Bo_submit_30 : decode b_Bo_submit 30 = .ok (.iconst 0, 1) := by decide +kernel
theorem d_Bo_submit_31 : decode b_Bo_submit 31 = .ok (.iconst 5, 1) := by decide +kernel
theorem d_Bo_submit_32 : decode b_Bo_submit 32 = .ok (.invokestatic 45, 3) := by decide +kernel
theorem d_Bo_submit_35 : decode b_Bo_submit 35 = .ok (.ifCond .eq 14, 3) := by decide +kernel
theorem d_Bo_submit_38 : decode b_Bo_submit 38 = .ok (.iload 5, 2) := by decide +kernel
theorem d_Bo_submit_40 : decode b_Bo_submit 40 = .ok (.iconst 1, 1) := by decide +kernel
theorem d_Bo_submit_41 : decode b_Bo_submit 41 = .ok (.bipush 50, 2) := by decide +kernel
theorem d_Bo_submit_43 : decode b_Bo_submit 43 = .ok (.invokestatic 45, 3) := by decide +kernel
theorem d_Bo_submit_46 : decode b_Bo_submit 46 = .ok (.ifCond .ne 5, 3) := by decide +kernel
theorem d_Bo_submit_49 : decode b_Bo_submit 49 = .ok (.iconst (-1), 1) := by decide +kernel
theorem d_Bo_submit_50 : decode b_Bo_submit 50 = .ok (.ireturn, 1) := by decide +kernel
theorem d_Bo_submit_51 : decode b_Bo_submit 51 = .ok (.aload_n 0, 1) := by decide +kernel
theorem d_Bo_submit_52 : decode b_Bo_submit 52 = .ok (.getfield 23, 3) := by decide +kernel
theorem d_Bo_submit_55 : decode b_Bo_submit 55 = .ok (.aload_n 0, 1) := by decide +kernel
theorem d_Bo_submit_56 : decode b_Bo_submit 56 = .ok (.getfield 38, 3) := by decide +kernel
theorem d_Bo_submit_59 : decode b_Bo_submit 59 = .ok (.invokevirtual 53, 3) := by decide +kernel
theorem d_Bo_submit_62 : decode b_Bo_submit 62 = .ok (.ifCond .eq 6, 3) := by decide +kernel
theorem d_Bo_submit_65 : decode b_Bo_submit 65 = .ok (.bipush (-3), 2) := by decide +kernel
theorem d_Bo_submit_67 : decode b_Bo_submit 67 = .ok (.ireturn, 1) := by decide +kernel
theorem d_Bo_submit_68 : decode b_Bo_submit 68 = .ok (.aload_n 0, 1) := by decide +kernel
theorem d_Bo_submit_69 : decode b_Bo_submit 69 = .ok (.getfield 23, 3) := by decide +kernel
theorem d_Bo_submit_72 : decode b_Bo_submit 72 = .ok (.iload_n 1, 1) := by decide +kernel
theorem d_Bo_submit_73 : decode b_Bo_submit 73 = .ok (.iload_n 2, 1) := by decide +kernel
theorem d_Bo_submit_74 : decode b_Bo_submit 74 = .ok (.invokevirtual 56, 3) := by decide +kernel
theorem d_Bo_submit_77 : decode b_Bo_submit 77 = .ok (.astore 6, 2) := by decide +kernel
theorem d_Bo_submit_79 : decode b_Bo_submit 79 = .ok (.aload 6, 2) := by decide +kernel
theorem d_Bo_submit_81 : decode b_Bo_submit 81 = .ok (.ifnonnull 6, 3) := by decide +kernel
theorem d_Bo_submit_84 : decode b_Bo_submit 84 = .ok (.bipush (-2), 2) := by decide +kernel
theorem d_Bo_submit_86 : decode b_Bo_submit 86 = .ok (.ireturn, 1) := by decide +kernel
theorem d_Bo_submit_87 : decode b_Bo_submit 87 = .ok (.aload 6, 2) := by decide +kernel
theorem d_Bo_submit_89 : decode b_Bo_submit 89 = .ok (.iload 4, 2) := by decide +kernel
theorem d_Bo_submit_91 : decode b_Bo_submit 91 = .ok (.putfield 60, 3) := by decide +kernel
theorem d_Bo_submit_94 : decode b_Bo_submit 94 = .ok (.aload 6, 2) := by decide +kernel
theorem d_Bo_submit_96 : decode b_Bo_submit 96 = .ok (.iload 5, 2) := by decide +kernel
theorem d_Bo_submit_98 : decode b_Bo_submit 98 = .ok (.putfield 65, 3) := by decide +kernel
theorem d_Bo_submit_101 : decode b_Bo_submit 101 = .ok (.aload 6, 2) := by decide +kernel
theorem d_Bo_submit_103 : decode b_Bo_submit 103 = .ok (.aload_n 0, 1) := by decide +kernel
theorem d_Bo_submit_104 : decode b_Bo_submit 104 = .ok (.getfield 38, 3) := by decide +kernel
theorem d_Bo_submit_107 : decode b_Bo_submit 107 = .ok (.putfield 68, 3) := by decide +kernel
theorem d_Bo_submit_110 : decode b_Bo_submit 110 = .ok (.aload_n 0, 1) := by decide +kernel
theorem d_Bo_submit_111 : decode b_Bo_submit 111 = .ok (.iconst (-1), 1) := by decide +kernel
theorem d_Bo_submit_112 : decode b_Bo_submit 112 = .ok (.putfield 38, 3) := by decide +kernel
theorem d_Bo_submit_115 : decode b_Bo_submit 115 = .ok (.iload_n 3, 1) := by decide +kernel
theorem d_Bo_submit_116 : decode b_Bo_submit 116 = .ok (.ifCond .ne 16, 3) := by decide +kernel
theorem d_Bo_submit_119 : decode b_Bo_submit 119 = .ok (.aload_n 0, 1) := by decide +kernel
theorem d_Bo_submit_120 : decode b_Bo_submit 120 = .ok (.getfield 23, 3) := by decide +kernel
theorem d_Bo_submit_123 : decode b_Bo_submit 123 = .ok (.aload 6, 2) := by decide +kernel
theorem d_Bo_submit_125 : decode b_Bo_submit 125 = .ok (.iconst 1, 1) := by decide +kernel
theorem d_Bo_submit_126 : decode b_Bo_submit 126 = .ok (.invokevirtual 71, 3) := by decide +kernel
theorem d_Bo_submit_129 : decode b_Bo_submit 129 = .ok (.goto 15, 3) := by decide +kernel
theorem d_Bo_submit_132 : decode b_Bo_submit 132 = .ok (.aload 6, 2) := by decide +kernel
theorem d_Bo_submit_134 : decode b_Bo_submit 134 = .ok (.iconst 0, 1) := by decide +kernel
theorem d_Bo_submit_135 : decode b_Bo_submit 135 = .ok (.aload_n 0, 1) := by decide +kernel
theorem d_Bo_submit_136 : decode b_Bo_submit 136 = .ok (.getfield 34, 3) := by decide +kernel
theorem d_Bo_submit_139 : decode b_Bo_submit 139 = .ok (.iload_n 3, 1) := by decide +kernel
theorem d_Bo_submit_140 : decode b_Bo_submit 140 = .ok (.iadd, 1) := by decide +kernel
theorem d_Bo_submit_141 : decode b_Bo_submit 141 = .ok (.invokevirtual 75, 3) := by decide +kernel
theorem d_Bo_submit_144 : decode b_Bo_submit 144 = .ok (.aload_n 0, 1) := by decide +kernel
theorem d_Bo_submit_145 : decode b_Bo_submit 145 = .ok (.getfield 30, 3) := by decide +kernel
theorem d_Bo_submit_148 : decode b_Bo_submit 148 = .ok (.aload_n 0, 1) := by decide +kernel
theorem d_Bo_submit_149 : decode b_Bo_submit 149 = .ok (.getfield 23, 3) := by decide +kernel
theorem d_Bo_submit_152 : decode b_Bo_submit 152 = .ok (.invokevirtual 79, 3) := by decide +kernel
theorem d_Bo_submit_155 : decode b_Bo_submit 155 = .ok (.aload 6, 2) := by decide +kernel
theorem d_Bo_submit_157 : decode b_Bo_submit 157 = .ok (.getfield 83, 3) := by decide +kernel
theorem d_Bo_submit_160 : decode b_Bo_submit 160 = .ok (.ireturn, 1) := by decide +kernel
theorem d_Bo_hold_0 : decode b_Bo_hold 0 = .ok (.iload_n 1, 1) := by decide +kernel
theorem d_Bo_hold_1 : decode b_Bo_hold 1 = .ok (.invokestatic 41, 3) := by decide +kernel
theorem d_Bo_hold_4 : decode b_Bo_hold 4 = .ok (.ifCond .eq 13, 3) := by decide +kernel
theorem d_Bo_hold_7 : decode b_Bo_hold 7 = .ok (.iload_n 2, 1) := by decide +kernel
theorem d_Bo_hold_8 : decode b_Bo_hold 8 = .ok (.iconst 0, 1) := by decide +kernel
theorem d_Bo_hold_9 : decode b_Bo_hold 9 = .ok (.bipush 9, 2) := by decide +kernel
theorem d_Bo_hold_11 : decode b_Bo_hold 11 = .ok (.invokestatic 45, 3) := by decide +kernel
theorem d_Bo_hold_14 : decode b_Bo_hold 14 = .ok (.ifCond .ne 5, 3) := by decide +kernel
theorem d_Bo_hold_17 : decode b_Bo_hold 17 = .ok (.iconst (-1), 1) := by decide +kernel
theorem d_Bo_hold_18 : decode b_Bo_hold 18 = .ok (.ireturn, 1) := by decide +kernel
theorem d_Bo_hold_19 : decode b_Bo_hold 19 = .ok (.aload_n 0, 1) := by decide +kernel
theorem d_Bo_hold_20 : decode b_Bo_hold 20 = .ok (.getfield 23, 3) := by decide +kernel
theorem d_Bo_hold_23 : decode b_Bo_hold 23 = .ok (.iload_n 1, 1) := by decide +kernel
theorem d_Bo_hold_24 : decode b_Bo_hold 24 = .ok (.iload_n 2, 1) := by decide +kernel
theorem d_Bo_hold_25 : decode b_Bo_hold 25 = .ok (.invokevirtual 56, 3) := by decide +kernel
theorem d_Bo_hold_28 : decode b_Bo_hold 28 = .ok (.astore_n 3, 1) := by decide +kernel
theorem d_Bo_hold_29 : decode b_Bo_hold 29 = .ok (.aload_n 3, 1) := by decide +kernel
theorem d_Bo_hold_30 : decode b_Bo_hold 30 = .ok (.ifnonnull 6, 3) := by decide +kernel
theorem d_Bo_hold_33 : decode b_Bo_hold 33 = .ok (.bipush (-2), 2) := by decide +kernel
theorem d_Bo_hold_35 : decode b_Bo_hold 35 = .ok (.ireturn, 1) := by decide +kernel
theorem d_Bo_hold_36 : decode b_Bo_hold 36 = .ok (.aload_n 0, 1) := by decide +kernel
theorem d_Bo_hold_37 : decode b_Bo_hold 37 = .ok (.getfield 30, 3) := by decide +kernel
theorem d_Bo_hold_40 : decode b_Bo_hold 40 = .ok (.aload_n 0, 1) := by decide +kernel
theorem d_Bo_hold_41 : decode b_Bo_hold 41 = .ok (.getfield 23, 3) := by decide +kernel
theorem d_Bo_hold_44 : decode b_Bo_hold 44 = .ok (.invokevirtual 79, 3) := by decide +kernel
theorem d_Bo_hold_47 : decode b_Bo_hold 47 = .ok (.aload_n 3, 1) := by decide +kernel
theorem d_Bo_hold_48 : decode b_Bo_hold 48 = .ok (.getfield 83, 3) := by decide +kernel
theorem d_Bo_hold_51 : decode b_Bo_hold 51 = .ok (.ireturn, 1) := by decide +kernel
theorem d_Bo_join_0 : decode b_Bo_join 0 = .ok (.aload_n 0, 1) := by decide +kernel
theorem d_Bo_join_1 : decode b_Bo_join 1 = .ok (.getfield 23, 3) := by decide +kernel
theorem d_Bo_join_4 : decode b_Bo_join 4 = .ok (.iload_n 1, 1) := by decide +kernel
theorem d_Bo_join_5 : decode b_Bo_join 5 = .ok (.invokevirtual 86, 3) := by decide +kernel
theorem d_Bo_join_8 : decode b_Bo_join 8 = .ok (.astore_n 3, 1) := by decide +kernel
theorem d_Bo_join_9 : decode b_Bo_join 9 = .ok (.aload_n 0, 1) := by decide +kernel
theorem d_Bo_join_10 : decode b_Bo_join 10 = .ok (.getfield 23, 3) := by decide +kernel
theorem d_Bo_join_13 : decode b_Bo_join 13 = .ok (.iload_n 2, 1) := by decide +kernel
theorem d_Bo_join_14 : decode b_Bo_join 14 = .ok (.invokevirtual 86, 3) := by decide +kernel
theorem d_Bo_join_17 : decode b_Bo_join 17 = .ok (.astore 4, 2) := by decide +kernel
theorem d_Bo_join_19 : decode b_Bo_join 19 = .ok (.aload_n 3, 1) := by decide +kernel
theorem d_Bo_join_20 : decode b_Bo_join 20 = .ok (.ifnull 13, 3) := by decide +kernel
theorem d_Bo_join_23 : decode b_Bo_join 23 = .ok (.aload 4, 2) := by decide +kernel
theorem d_Bo_join_25 : decode b_Bo_join 25 = .ok (.ifnull 8, 3) := by decide +kernel
theorem d_Bo_join_28 : decode b_Bo_join 28 = .ok (.iload_n 1, 1) := by decide +kernel
theorem d_Bo_join_29 : decode b_Bo_join 29 = .ok (.iload_n 2, 1) := by decide +kernel
theorem d_Bo_join_30 : decode b_Bo_join 30 = .ok (.if_icmp .ne 5, 3) := by decide +kernel
theorem d_Bo_join_33 : decode b_Bo_join 33 = .ok (.iconst (-1), 1) := by decide +kernel
theorem d_Bo_join_34 : decode b_Bo_join 34 = .ok (.ireturn, 1) := by decide +kernel
theorem d_Bo_join_35 : decode b_Bo_join 35 = .ok (.aload_n 3, 1) := by decide +kernel
theorem d_Bo_join_36 : decode b_Bo_join 36 = .ok (.invokevirtual 90, 3) := by decide +kernel
theorem d_Bo_join_39 : decode b_Bo_join 39 = .ok (.ifCond .eq 21, 3) := by decide +kernel
theorem d_Bo_join_42 : decode b_Bo_join 42 = .ok (.aload_n 3, 1) := by decide +kernel
theorem d_Bo_join_43 : decode b_Bo_join 43 = .ok (.getfield 94, 3) := by decide +kernel
theorem d_Bo_join_46 : decode b_Bo_join 46 = .ok (.iconst (-1), 1) := by decide +kernel
theorem d_Bo_join_47 : decode b_Bo_join 47 = .ok (.if_icmp .ne 13, 3) := by decide +kernel
theorem d_Bo_join_50 : decode b_Bo_join 50 = .ok (.aload 4, 2) := by decide +kernel
theorem d_Bo_join_52 : decode b_Bo_join 52 = .ok (.getfield 97, 3) := by decide +kernel
theorem d_Bo_join_55 : decode b_Bo_join 55 = .ok (.bipush 6, 2) := by decide +kernel
theorem d_Bo_join_57 : decode b_Bo_join 57 = .ok (.if_icmp .eq 5, 3) := by decide +kernel
theorem d_Bo_join_60 : decode b_Bo_join 60 = .ok (.iconst (-1), 1) := by decide +kernel
theorem d_Bo_join_61 : decode b_Bo_join 61 = .ok (.ireturn, 1) := by decide +kernel
theorem d_Bo_join_62 : decode b_Bo_join 62 = .ok (.aload_n 3, 1) := by decide +kernel
theorem d_Bo_join_63 : decode b_Bo_join 63 = .ok (.iload_n 2, 1) := by decide +kernel
theorem d_Bo_join_64 : decode b_Bo_join 64 = .ok (.putfield 94, 3) := by decide +kernel
theorem d_Bo_join_67 : decode b_Bo_join 67 = .ok (.aload 4, 2) := by decide +kernel
theorem d_Bo_join_69 : decode b_Bo_join 69 = .ok (.dup, 1) := by decide +kernel
theorem d_Bo_join_70 : decode b_Bo_join 70 = .ok (.getfield 100, 3) := by decide +kernel
theorem d_Bo_join_73 : decode b_Bo_join 73 = .ok (.iconst 1, 1) := by decide +kernel
theorem d_Bo_join_74 : decode b_Bo_join 74 = .ok (.iadd, 1) := by decide +kernel
theorem d_Bo_join_75 : decode b_Bo_join 75 = .ok (.putfield 100, 3) := by decide +kernel
theorem d_Bo_join_78 : decode b_Bo_join 78 = .ok (.aload_n 0, 1) := by decide +kernel
theorem d_Bo_join_79 : decode b_Bo_join 79 = .ok (.getfield 30, 3) := by decide +kernel
theorem d_Bo_join_82 : decode b_Bo_join 82 = .ok (.aload_n 0, 1) := by decide +kernel
theorem d_Bo_join_83 : decode b_Bo_join 83 = .ok (.getfield 23, 3) := by decide +kernel
theorem d_Bo_join_86 : decode b_Bo_join 86 = .ok (.invokevirtual 79, 3) := by decide +kernel
theorem d_Bo_join_89 : decode b_Bo_join 89 = .ok (.iconst 0, 1) := by decide +kernel
theorem d_Bo_join_90 : decode b_Bo_join 90 = .ok (.ireturn, 1) := by decide +kernel
def fn_Bo_within (N : Nat) (p0 : Int32) (p1 : Int32) (p2 : Int32) (σ : gx_M) : Option (Int32 × gx_M) := if p0 < p1 then (some ((0 : Int32), σ)) else (if p2 < p0 then (some ((0 : Int32), σ)) else (some ((1 : Int32), σ)))
set_option maxHeartbeats 4000000 in
set_option maxRecDepth 100000 in
theorem ct_Bo_within (l : Launch) (D : va_G) (dA : Nat → ClassId) (adr : Nat → Nat) (A : Nat → Prop) (hA : gx_A A adr) (N : Nat) (p0 : Int32) (p1 : Int32) (p2 : Int32) (σ : gx_M) (r : Int32) (σ' : gx_M) (hf : fn_Bo_within N p0 p1 p2 σ = some (r, σ')) : Met l y_Bo_within w_Bo_within rm_Bo_within (gx_Pc D dA adr σ [.int p0, .int p1, .int p2]) (gx_Q D dA adr A (some (.int r)) σ') 0 0 A := by
  refine Met.ofW (cc := b_Bo_within) (maxL := 3) (ret := some .boolean) (by decide) rfl ?_
  intro p e s m args below meth c s₁ B hml hv
  obtain ⟨rfl, hP, hK⟩ := hv
  have hx := B.exec
  have hb := B.bytes
  have hr := B.returns
  have hlocks := B.notSynchronized
  have ht : ∀ w ∈ gx_tb, w.before _ s = true := fun w h => atoms_spec (ws := w_Bo_within) B.pre w (List.mem_cons_of_mem _ h)
  have hown : s.vm.findClass R_Bo = some m.cls := findClass_of_methodNamed B.named
  have G : gx_G p m c b_Bo_within 3 s _ gx_tb R_Bo D dA := ⟨⟨hx, hb, hml, hown, ht⟩, hK⟩
  have hI : gx_I D dA adr A s.heap σ s.heap [] := ⟨hP, va_S.rf⟩
  have hl := lv_entry ([.int p0, .int p1, .int p2]) (n := 3) (Nat.le_of_ble_eq_true rfl)
  rw [lg_entry_eq]
  generalize (lg_sl ([.int p0, .int p1, .int p2]) ++ List.replicate (3 - (lg_sl ([.int p0, .int p1, .int p2])).length) Slot.unset).toArray = ls at hl ⊢
  have hl : lv_has ls 3 [(0, .int p0), (1, .int p1), (2, .int p2)] := hl
  rw [fn_Bo_within] at hf
  refine lv_iload_n hx hb d_Bo_within_0 rfl (lv_at hl 0 rfl) ?_
  refine lv_iload_n hx hb d_Bo_within_1 rfl (lv_at hl 1 rfl) ?_
  refine lv_icmp_lt (tgt := 14) hx hb d_Bo_within_2 (by decide) (fun c_1 => ?_) (fun c_1 => ?_)
  · replace hf := (if_pos c_1).symm.trans hf
    refine lv_iconst (v := 0) hx hb d_Bo_within_14 (by decide) ?_
    cases hf
    exact W.zret (v := (0 : Int32)) hx hb hr (by decide) (gx_F hI) hI.2.2.2 d_Bo_within_15
  · replace hf := (if_neg c_1).symm.trans hf
    refine lv_iload_n hx hb d_Bo_within_5 rfl (lv_at hl 0 rfl) ?_
    refine lv_iload_n hx hb d_Bo_within_6 rfl (lv_at hl 2 rfl) ?_
    refine lv_icmp_gt (tgt := 14) hx hb d_Bo_within_7 (by decide) (fun c_2 => ?_) (fun c_2 => ?_)
    · replace hf := (if_pos c_2).symm.trans hf
      refine lv_iconst (v := 0) hx hb d_Bo_within_14 (by decide) ?_
      cases hf
      exact W.zret (v := (0 : Int32)) hx hb hr (by decide) (gx_F hI) hI.2.2.2 d_Bo_within_15
    · replace hf := (if_neg c_2).symm.trans hf
      refine lv_iconst (v := 1) hx hb d_Bo_within_10 (by decide) ?_
      refine lv_goto (tgt := 15) hx hb d_Bo_within_11 (by decide) ?_
      cases hf
      exact W.zret (v := (1 : Int32)) hx hb hr (by decide) (gx_F hI) hI.2.2.2 d_Bo_within_15
def fn_Bo_isQueue (N : Nat) (p0 : Int32) (σ : gx_M) : Option (Int32 × gx_M) := gx_bd (fn_Bo_within N p0 ((0 : Int32)) ((3 : Int32)) σ) (fun r_3 σ_1 => if r_3 = 0 ∨ r_3 = 1 then (some (r_3, σ_1)) else none)
set_option maxHeartbeats 4000000 in
set_option maxRecDepth 100000 in
theorem ct_Bo_isQueue (l : Launch) (D : va_G) (dA : Nat → ClassId) (adr : Nat → Nat) (A : Nat → Prop) (hA : gx_A A adr) (N : Nat) (p0 : Int32) (σ : gx_M) (r : Int32) (σ' : gx_M) (hf : fn_Bo_isQueue N p0 σ = some (r, σ')) : Met l y_Bo_isQueue w_Bo_isQueue rm_Bo_isQueue (gx_Pc D dA adr σ [.int p0]) (gx_Q D dA adr A (some (.int r)) σ') 0 0 A := by
  refine Met.ofW (cc := b_Bo_isQueue) (maxL := 1) (ret := some .boolean) (by decide) rfl ?_
  intro p e s m args below meth c s₁ B hml hv
  obtain ⟨rfl, hP, hK⟩ := hv
  have hx := B.exec
  have hb := B.bytes
  have hr := B.returns
  have hlocks := B.notSynchronized
  have ht : ∀ w ∈ gx_tb, w.before _ s = true := fun w h => atoms_spec (ws := w_Bo_isQueue) B.pre w (List.mem_cons_of_mem _ h)
  have hown : s.vm.findClass R_Bo = some m.cls := findClass_of_methodNamed B.named
  have G : gx_G p m c b_Bo_isQueue 1 s _ gx_tb R_Bo D dA := ⟨⟨hx, hb, hml, hown, ht⟩, hK⟩
  have hI : gx_I D dA adr A s.heap σ s.heap [] := ⟨hP, va_S.rf⟩
  have hl := lv_entry ([.int p0]) (n := 1) (Nat.le_of_ble_eq_true rfl)
  rw [lg_entry_eq]
  generalize (lg_sl ([.int p0]) ++ List.replicate (1 - (lg_sl ([.int p0])).length) Slot.unset).toArray = ls at hl ⊢
  have hl : lv_has ls 1 [(0, .int p0)] := hl
  rw [fn_Bo_isQueue] at hf
  refine lv_iload_n hx hb d_Bo_isQueue_0 rfl (lv_at hl 0 rfl) ?_
  refine lv_iconst (v := 0) hx hb d_Bo_isQueue_1 (by decide) ?_
  refine lv_iconst (v := 3) hx hb d_Bo_isQueue_2 (by decide) ?_
  obtain ⟨r_3, σ_1, hc_2, hf⟩ := gx_bde hf
  refine gx_go (va_runS (As := [.int p0, .int ((0 : Int32)), .int ((3 : Int32))]) (rest := []) G.1 (ct_Bo_within l D dA adr A hA N p0 ((0 : Int32)) ((3 : Int32)) σ r_3 σ_1 hc_2) (cwS 3 ht gi_Bo_45 rfl rfl rfl (by decide +kernel) ⟨Nat.le_of_ble_eq_true rfl, Nat.le_of_ble_eq_true rfl⟩) (gx_pre G hI) rfl rfl hl.1 rfl (lv_room (Nat.le_of_ble_eq_true rfl)) d_Bo_isQueue_3 ⟨Nat.zero_le _, Nat.zero_le _⟩) hI (st1 := [.int r_3]) rfl (fun H locs hI => ?_)
  obtain ⟨hb_4, hf⟩ := gx_gd hf
  cases hf
  exact W.zret hx hb hr (gx_nb hb_4) (gx_F hI) hI.2.2.2 d_Bo_isQueue_6
def fn_Bo_isWorker (N : Nat) (p0 : Int32) (σ : gx_M) : Option (Int32 × gx_M) := gx_bd (fn_Bo_within N p0 ((0 : Int32)) ((5 : Int32)) σ) (fun r_3 σ_1 => if r_3 = 0 ∨ r_3 = 1 then (some (r_3, σ_1)) else none)
set_option maxHeartbeats 4000000 in
set_option maxRecDepth 100000 in
theorem ct_Bo_isWorker (l : Launch) (D : va_G) (dA : Nat → ClassId) (adr : Nat → Nat) (A : Nat → Prop) (hA : gx_A A adr) (N : Nat) (p0 : Int32) (σ : gx_M) (r : Int32) (σ' : gx_M) (hf : fn_Bo_isWorker N p0 σ = some (r, σ')) : Met l y_Bo_isWorker w_Bo_isWorker rm_Bo_isWorker (gx_Pc D dA adr σ [.int p0]) (gx_Q D dA adr A (some (.int r)) σ') 0 0 A := by
  refine Met.ofW (cc := b_Bo_isWorker) (maxL := 1) (ret := some .boolean) (by decide) rfl ?_
  intro p e s m args below meth c s₁ B hml hv
  obtain ⟨rfl, hP, hK⟩ := hv
  have hx := B.exec
  have hb := B.bytes
  have hr := B.returns
  have hlocks := B.notSynchronized
  have ht : ∀ w ∈ gx_tb, w.before _ s = true := fun w h => atoms_spec (ws := w_Bo_isWorker) B.pre w (List.mem_cons_of_mem _ h)
  have hown : s.vm.findClass R_Bo = some m.cls := findClass_of_methodNamed B.named
  have G : gx_G p m c b_Bo_isWorker 1 s _ gx_tb R_Bo D dA := ⟨⟨hx, hb, hml, hown, ht⟩, hK⟩
  have hI : gx_I D dA adr A s.heap σ s.heap [] := ⟨hP, va_S.rf⟩
  have hl := lv_entry ([.int p0]) (n := 1) (Nat.le_of_ble_eq_true rfl)
  rw [lg_entry_eq]
  generalize (lg_sl ([.int p0]) ++ List.replicate (1 - (lg_sl ([.int p0])).length) Slot.unset).toArray = ls at hl ⊢
  have hl : lv_has ls 1 [(0, .int p0)] := hl
  rw [fn_Bo_isWorker] at hf
  refine lv_iload_n hx hb d_Bo_isWorker_0 rfl (lv_at hl 0 rfl) ?_
  refine lv_iconst (v := 0) hx hb d_Bo_isWorker_1 (by decide) ?_
  refine lv_iconst (v := 5) hx hb d_Bo_isWorker_2 (by decide) ?_
  obtain ⟨r_3, σ_1, hc_2, hf⟩ := gx_bde hf
  refine gx_go (va_runS (As := [.int p0, .int ((0 : Int32)), .int ((5 : Int32))]) (rest := []) G.1 (ct_Bo_within l D dA adr A hA N p0 ((0 : Int32)) ((5 : Int32)) σ r_3 σ_1 hc_2) (cwS 3 ht gi_Bo_45 rfl rfl rfl (by decide +kernel) ⟨Nat.le_of_ble_eq_true rfl, Nat.le_of_ble_eq_true rfl⟩) (gx_pre G hI) rfl rfl hl.1 rfl (lv_room (Nat.le_of_ble_eq_true rfl)) d_Bo_isWorker_3 ⟨Nat.zero_le _, Nat.zero_le _⟩) hI (st1 := [.int r_3]) rfl (fun H locs hI => ?_)
  obtain ⟨hb_4, hf⟩ := gx_gd hf
  cases hf
  exact W.zret hx hb hr (gx_nb hb_4) (gx_F hI) hI.2.2.2 d_Bo_isWorker_6
def fn_Bo_numberOrNone (N : Nat) (x0 : Option Nat) (σ : gx_M) : Option (Int32 × gx_M) := gx_mt x0 (some ((-4 : Int32), σ)) (fun o_1 => if 42 ≤ o_1 ∧ o_1 < 722 then (some (σ o_1 0, σ)) else none)
set_option maxHeartbeats 4000000 in
set_option maxRecDepth 100000 in
theorem ct_Bo_numberOrNone (l : Launch) (D : va_G) (dA : Nat → ClassId) (adr : Nat → Nat) (A : Nat → Prop) (hA : gx_A A adr) (N : Nat) (x0 : Option Nat) (σ : gx_M) (r : Int32) (σ' : gx_M) (hf : fn_Bo_numberOrNone N x0 σ = some (r, σ')) : Met l y_Bo_numberOrNone w_Bo_numberOrNone rm_Bo_numberOrNone (gx_Pc D dA adr σ [va_rf (Option.map adr x0)]) (gx_Q D dA adr A (some (.int r)) σ') 0 0 A := by
  refine Met.ofW (cc := b_Bo_numberOrNone) (maxL := 1) (ret := some .int) (by decide) rfl ?_
  intro p e s m args below meth c s₁ B hml hv
  obtain ⟨rfl, hP, hK⟩ := hv
  have hx := B.exec
  have hb := B.bytes
  have hr := B.returns
  have hlocks := B.notSynchronized
  have ht : ∀ w ∈ gx_tb, w.before _ s = true := fun w h => atoms_spec (ws := w_Bo_numberOrNone) B.pre w (List.mem_cons_of_mem _ h)
  have hown : s.vm.findClass R_Bo = some m.cls := findClass_of_methodNamed B.named
  have G : gx_G p m c b_Bo_numberOrNone 1 s _ gx_tb R_Bo D dA := ⟨⟨hx, hb, hml, hown, ht⟩, hK⟩
  have hI : gx_I D dA adr A s.heap σ s.heap [] := ⟨hP, va_S.rf⟩
  have hl := lv_entry ([va_rf (Option.map adr x0)]) (n := 1) (by cases x0 <;> exact Nat.le_of_ble_eq_true rfl)
  rw [lg_entry_eq]
  generalize (lg_sl ([va_rf (Option.map adr x0)]) ++ List.replicate (1 - (lg_sl ([va_rf (Option.map adr x0)])).length) Slot.unset).toArray = ls at hl ⊢
  have hl : lv_has ls 1 [(0, va_rf (Option.map adr x0))] := hl
  rw [fn_Bo_numberOrNone] at hf
  rcases x0 with _ | o_1
  · replace hf := gx_mtn hf
    refine lv_aload_nN hx hb d_Bo_numberOrNone_0 rfl (lv_at hl 0 rfl) ?_
    refine lv_ifnonnullN hx hb d_Bo_numberOrNone_1 ?_
    refine lv_bipush (v := (-4)) hx hb d_Bo_numberOrNone_4 (by decide) ?_
    refine lv_goto (tgt := 13) hx hb d_Bo_numberOrNone_6 (by decide) ?_
    cases hf
    exact W.iret hx hb hr (gx_F hI) hI.2.2.2 d_Bo_numberOrNone_13
  · replace hf := gx_mts hf
    obtain ⟨hg_2, hf⟩ := gx_gd hf
    refine lv_aload_n hx hb d_Bo_numberOrNone_0 rfl (lv_at hl 0 rfl) ?_
    refine lv_ifnonnull (tgt := 9) hx hb d_Bo_numberOrNone_1 (by decide) ?_
    refine lv_aload_n hx hb d_Bo_numberOrNone_9 rfl (lv_at hl 0 rfl) ?_
    refine gx_getI G hI cl_Jb (gx_ci_j hg_2) 0 (by decide) (gx_rf_j hg_2 0) fl_Bo_83 d_Bo_numberOrNone_10 ?_
    cases hf
    exact W.iret hx hb hr (gx_F hI) hI.2.2.2 d_Bo_numberOrNone_13
def fn_Bo_isOpen (N : Nat) (p0 : Int32) (σ : gx_M) : Option (Int32 × gx_M) := if 0 ≤ p0 ∧ p0 < 4 then (gx_bd (fn_Qu_canGive N (gx_el 1 p0.toNatClampNeg) σ) (fun r_4 σ_2 => if r_4 = 0 then (some ((0 : Int32), σ_2)) else (gx_bd (fn_Ro_nextInLine N 24 p0 none σ_2) (fun x_8 σ_6 => gx_mt x_8 (some ((0 : Int32), σ_6)) (fun o_9 => if 42 ≤ o_9 ∧ o_9 < 722 then (some ((1 : Int32), σ_6)) else none))))) else none
set_option maxHeartbeats 4000000 in
set_option maxRecDepth 100000 in
theorem ct_Bo_isOpen (l : Launch) (D : va_G) (dA : Nat → ClassId) (adr : Nat → Nat) (A : Nat → Prop) (hA : gx_A A adr) (N : Nat) (p0 : Int32) (σ : gx_M) (r : Int32) (σ' : gx_M) (hf : fn_Bo_isOpen N p0 σ = some (r, σ')) : Met l y_Bo_isOpen w_Bo_isOpen rm_Bo_isOpen (gx_Pc D dA adr σ [.ref (adr 0), .int p0]) (gx_Q D dA adr A (some (.int r)) σ') 0 0 A := by
  refine Met.ofW (cc := b_Bo_isOpen) (maxL := 2) (ret := some .boolean) (by decide) rfl ?_
  intro p e s m args below meth c s₁ B hml hv
  obtain ⟨rfl, hP, hK⟩ := hv
  have hx := B.exec
  have hb := B.bytes
  have hr := B.returns
  have hlocks := B.notSynchronized
  have ht : ∀ w ∈ gx_tb, w.before _ s = true := fun w h => atoms_spec (ws := w_Bo_isOpen) B.pre w (List.mem_cons_of_mem _ h)
  have hown : s.vm.findClass R_Bo = some m.cls := findClass_of_methodNamed B.named
  have G : gx_G p m c b_Bo_isOpen 2 s _ gx_tb R_Bo D dA := ⟨⟨hx, hb, hml, hown, ht⟩, hK⟩
  have hI : gx_I D dA adr A s.heap σ s.heap [] := ⟨hP, va_S.rf⟩
  have hl := lv_entry ([.ref (adr 0), .int p0]) (n := 2) (Nat.le_of_ble_eq_true rfl)
  rw [lg_entry_eq]
  generalize (lg_sl ([.ref (adr 0), .int p0]) ++ List.replicate (2 - (lg_sl ([.ref (adr 0), .int p0])).length) Slot.unset).toArray = ls at hl ⊢
  have hl : lv_has ls 2 [(0, .ref (adr 0)), (1, .int p0)] := hl
  rw [fn_Bo_isOpen] at hf
  refine lv_aload_n hx hb d_Bo_isOpen_0 rfl (lv_at hl 0 rfl) ?_
  refine gx_getR (o' := 1) G hI cl_Bo (by decide) 1 (by decide) (by decide) fl_Bo_15 d_Bo_isOpen_1 ?_
  refine lv_iload_n hx hb d_Bo_isOpen_4 rfl (lv_at hl 1 rfl) ?_
  obtain ⟨hi_1, hf⟩ := gx_gd hf
  refine gx_aldQ G hI hi_1 d_Bo_isOpen_5 ?_
  obtain ⟨r_4, σ_2, hc_3, hf⟩ := gx_bde hf
  refine gx_go (va_runV (As := []) (rest := []) G.1 (ct_Qu_canGive l D dA adr A hA N (gx_el 1 p0.toNatClampNeg) σ r_4 σ_2 hc_3) (cwV 0 ht gi_Bo_188 rfl rfl rfl (by decide +kernel) ⟨Nat.le_of_ble_eq_true rfl, Nat.le_of_ble_eq_true rfl⟩) (gx_preV G hI cl_Qu (gx_ci_q (gx_el_q hi_1))) rfl rfl hl.1 rfl (lv_room (Nat.le_of_ble_eq_true rfl)) d_Bo_isOpen_6 ⟨Nat.zero_le _, Nat.zero_le _⟩) hI (st1 := [.int r_4]) rfl (fun H locs hI => ?_)
  refine lv_if_eq (tgt := 28) hx hb d_Bo_isOpen_9 (by decide) (fun c_5 => ?_) (fun c_5 => ?_)
  · replace hf := (if_pos c_5).symm.trans hf
    refine lv_iconst (v := 0) hx hb d_Bo_isOpen_28 (by decide) ?_
    cases hf
    exact W.zret (v := (0 : Int32)) hx hb hr (by decide) (gx_F hI) hI.2.2.2 d_Bo_isOpen_29
  · replace hf := (if_neg c_5).symm.trans hf
    refine lv_aload_n hx hb d_Bo_isOpen_12 rfl (lv_at hl 0 rfl) ?_
    refine gx_getR (o' := 24) G hI cl_Bo (by decide) 2 (by decide) (by decide) fl_Bo_23 d_Bo_isOpen_13 ?_
    refine lv_iload_n hx hb d_Bo_isOpen_16 rfl (lv_at hl 1 rfl) ?_
    refine lv_null hx hb d_Bo_isOpen_17 ?_
    obtain ⟨x_8, σ_6, hc_7, hf⟩ := gx_bde hf
    rcases x_8 with _ | o_9
    · replace hf := gx_mtn hf
      refine gx_go (va_runV (As := [.int p0, .null]) (rest := []) G.1 (ct_Ro_nextInLine l D dA adr A hA N 24 p0 none σ_2 none σ_6 hc_7) (cwV 2 ht gi_Bo_123 rfl rfl rfl (by decide +kernel) ⟨Nat.le_of_ble_eq_true rfl, Nat.le_of_ble_eq_true rfl⟩) (gx_preV G hI cl_Ro (gx_ci_r (by decide))) rfl rfl hl.1 rfl (lv_room (Nat.le_of_ble_eq_true rfl)) d_Bo_isOpen_18 ⟨Nat.zero_le _, Nat.zero_le _⟩) hI (st1 := [.null]) rfl (fun H locs hI => ?_)
      refine lv_ifnullN (tgt := 28) hx hb d_Bo_isOpen_21 (by decide) ?_
      refine lv_iconst (v := 0) hx hb d_Bo_isOpen_28 (by decide) ?_
      cases hf
      exact W.zret (v := (0 : Int32)) hx hb hr (by decide) (gx_F hI) hI.2.2.2 d_Bo_isOpen_29
    · replace hf := gx_mts hf
      obtain ⟨hg_10, hf⟩ := gx_gd hf
      refine gx_go (va_runV (As := [.int p0, .null]) (rest := []) G.1 (ct_Ro_nextInLine l D dA adr A hA N 24 p0 none σ_2 (some o_9) σ_6 hc_7) (cwV 2 ht gi_Bo_123 rfl rfl rfl (by decide +kernel) ⟨Nat.le_of_ble_eq_true rfl, Nat.le_of_ble_eq_true rfl⟩) (gx_preV G hI cl_Ro (gx_ci_r (by decide))) rfl rfl hl.1 rfl (lv_room (Nat.le_of_ble_eq_true rfl)) d_Bo_isOpen_18 ⟨Nat.zero_le _, Nat.zero_le _⟩) hI (st1 := [.ref (adr o_9)]) rfl (fun H locs hI => ?_)
      refine lv_ifnull hx hb d_Bo_isOpen_21 ?_
      refine lv_iconst (v := 1) hx hb d_Bo_isOpen_24 (by decide) ?_
      refine lv_goto (tgt := 29) hx hb d_Bo_isOpen_25 (by decide) ?_
      cases hf
      exact W.zret (v := (1 : Int32)) hx hb hr (by decide) (gx_F hI) hI.2.2.2 d_Bo_isOpen_29
def fn_Bo_firstOpenQueue_L2 (N : Nat) : Nat → Int32 → gx_M → Option (Int32 × gx_M)
  | 0, _, _ => none
  | n + 1, v1, σ => if ((4 : Int32)) ≤ v1 then (some ((-4 : Int32), σ)) else (gx_bd (fn_Bo_isOpen N v1 σ) (fun r_4 σ_2 => if r_4 = 0 then (fn_Bo_firstOpenQueue_L2 N n (v1 + 1) σ_2) else (some (v1, σ_2))))
def fn_Bo_firstOpenQueue (N : Nat) (σ : gx_M) : Option (Int32 × gx_M) := fn_Bo_firstOpenQueue_L2 N N ((0 : Int32)) σ
set_option maxHeartbeats 4000000 in
set_option maxRecDepth 100000 in
theorem wl_Bo_firstOpenQueue_L2 {p : Program} {l : Launch} {e : Env} {s : State} {m : MethodId} {args : Array Value} {below : List Frame} {meth : Method} {c : Code} {D : va_G} {dA : Nat → ClassId} {adr : Nat → Nat} {A : Nat → Prop} (G : gx_G p m c b_Bo_firstOpenQueue 2 s args gx_tb R_Bo D dA) (hr : meth.sig.returnType = some .int) (hlocks : meth.locks = false) (hA : gx_A A adr) (N : Nat) (res : Int32 × gx_M) : ∀ (n : Nat) (v1 : Int32) (σ : gx_M) (H : Heap) (locs : List Loc) (ls : Array Slot), fn_Bo_firstOpenQueue_L2 N n v1 σ = some res → gx_I D dA adr A s.heap σ H locs → lv_has ls 2 [(1, .int v1), (0, .ref (adr 0))] → W p l e (headSpec w_Bo_firstOpenQueue rm_Bo_firstOpenQueue).room s m args below meth c H locs 0 0 (MQ below (gx_Q D dA adr A (some (.int res.1)) res.2) args s 0 0 A) (F0 m 2 ls []) := by
  obtain ⟨⟨hx, hb, hml, hown, ht⟩, hK⟩ := id G
  intro n
  induction n with
  | zero =>
    intro v1 σ H locs ls hf
    cases hf
  | succ n ih =>
    intro v1 σ H locs ls hf hI hl
    rw [fn_Bo_firstOpenQueue_L2] at hf
    refine lv_iload_n hx hb d_Bo_firstOpenQueue_2 rfl (lv_at hl 0 rfl) ?_
    refine lv_iconst (v := 4) hx hb d_Bo_firstOpenQueue_3 (by decide) ?_
    refine lv_icmp_ge (tgt := 23) hx hb d_Bo_firstOpenQueue_4 (by decide) (fun c_1 => ?_) (fun c_1 => ?_)
    · replace hf := (if_pos c_1).symm.trans hf
      refine lv_bipush (v := (-4)) hx hb d_Bo_firstOpenQueue_23 (by decide) ?_
      cases hf
      exact W.iret hx hb hr (gx_F hI) hI.2.2.2 d_Bo_firstOpenQueue_25
    · replace hf := (if_neg c_1).symm.trans hf
      refine lv_aload_n hx hb d_Bo_firstOpenQueue_7 rfl (lv_at hl 1 rfl) ?_
      refine lv_iload_n hx hb d_Bo_firstOpenQueue_8 rfl (lv_at hl 0 rfl) ?_
      obtain ⟨r_4, σ_2, hc_3, hf⟩ := gx_bde hf
      refine gx_go (va_runV (As := [.int v1]) (rest := []) G.1 (ct_Bo_isOpen l D dA adr A hA N v1 σ r_4 σ_2 hc_3) (cwV 1 ht gi_Bo_191 rfl rfl rfl (by decide +kernel) ⟨Nat.le_of_ble_eq_true rfl, Nat.le_of_ble_eq_true rfl⟩) (gx_preV G hI cl_Bo (by decide)) rfl rfl hl.1 rfl (lv_room (Nat.le_of_ble_eq_true rfl)) d_Bo_firstOpenQueue_9 ⟨Nat.zero_le _, Nat.zero_le _⟩) hI (st1 := [.int r_4]) rfl (fun H locs hI => ?_)
      refine lv_if_eq (tgt := 17) hx hb d_Bo_firstOpenQueue_12 (by decide) (fun c_5 => ?_) (fun c_5 => ?_)
      · replace hf := (if_pos c_5).symm.trans hf
        refine lv_iinc (v := v1 + 1) (lv' := [(1, .int (v1 + 1)), (0, .ref (adr 0))]) hx hb d_Bo_firstOpenQueue_17 hl (k := 0) rfl rfl (by decide) rfl (fun ls hl => ?_)
        refine lv_goto (tgt := 2) hx hb d_Bo_firstOpenQueue_20 (by decide) ?_
        exact ih (v1 + 1) σ_2 H locs ls hf hI (lv_sub hl [0, 1] rfl)
      · replace hf := (if_neg c_5).symm.trans hf
        refine lv_iload_n hx hb d_Bo_firstOpenQueue_15 rfl (lv_at hl 0 rfl) ?_
        cases hf
        exact W.iret hx hb hr (gx_F hI) hI.2.2.2 d_Bo_firstOpenQueue_16
set_option maxHeartbeats 4000000 in
set_option maxRecDepth 100000 in
theorem ct_Bo_firstOpenQueue (l : Launch) (D : va_G) (dA : Nat → ClassId) (adr : Nat → Nat) (A : Nat → Prop) (hA : gx_A A adr) (N : Nat) (σ : gx_M) (r : Int32) (σ' : gx_M) (hf : fn_Bo_firstOpenQueue N σ = some (r, σ')) : Met l y_Bo_firstOpenQueue w_Bo_firstOpenQueue rm_Bo_firstOpenQueue (gx_Pc D dA adr σ [.ref (adr 0)]) (gx_Q D dA adr A (some (.int r)) σ') 0 0 A := by
  refine Met.ofW (cc := b_Bo_firstOpenQueue) (maxL := 2) (ret := some .int) (by decide) rfl ?_
  intro p e s m args below meth c s₁ B hml hv
  obtain ⟨rfl, hP, hK⟩ := hv
  have hx := B.exec
  have hb := B.bytes
  have hr := B.returns
  have hlocks := B.notSynchronized
  have ht : ∀ w ∈ gx_tb, w.before _ s = true := fun w h => atoms_spec (ws := w_Bo_firstOpenQueue) B.pre w (List.mem_cons_of_mem _ h)
  have hown : s.vm.findClass R_Bo = some m.cls := findClass_of_methodNamed B.named
  have G : gx_G p m c b_Bo_firstOpenQueue 2 s _ gx_tb R_Bo D dA := ⟨⟨hx, hb, hml, hown, ht⟩, hK⟩
  have hI : gx_I D dA adr A s.heap σ s.heap [] := ⟨hP, va_S.rf⟩
  have hl := lv_entry ([.ref (adr 0)]) (n := 2) (Nat.le_of_ble_eq_true rfl)
  rw [lg_entry_eq]
  generalize (lg_sl ([.ref (adr 0)]) ++ List.replicate (2 - (lg_sl ([.ref (adr 0)])).length) Slot.unset).toArray = ls at hl ⊢
  have hl : lv_has ls 2 [(0, .ref (adr 0))] := hl
  rw [fn_Bo_firstOpenQueue] at hf
  refine lv_iconst (v := 0) hx hb d_Bo_firstOpenQueue_0 (by decide) ?_
  refine lv_istore_n (i := 1) (lv' := [(1, .int ((0 : Int32))), (0, .ref (adr 0))]) hx hb d_Bo_firstOpenQueue_1 rfl hl (by decide) rfl (fun ls hl => ?_)
  exact wl_Bo_firstOpenQueue_L2 G hr hlocks hA N _ N ((0 : Int32)) σ _ _ ls hf hI (lv_sub hl [0, 1] rfl)
def fn_Bo_openQueueByCredit_L7 (N : Nat) : Nat → Int32 → Int32 → Int32 → gx_M → Option (Int32 × gx_M)
  | 0, _, _, _, _ => none
  | n + 1, v3, v2, v1, σ => if ((4 : Int32)) ≤ v3 then (if v1 = ((-4 : Int32)) then (some (v1, σ)) else (if 0 ≤ v1 ∧ v1 < 4 then (gx_lt (gx_up σ (gx_el 1 v1.toNatClampNeg) 1 ((σ (gx_el 1 v1.toNatClampNeg) 1) - v2)) (fun σ_4 => some (v1, σ_4))) else none)) else (gx_bd (fn_Bo_isOpen N v3 σ) (fun r_7 σ_5 => if r_7 = 0 then (fn_Bo_openQueueByCredit_L7 N n (v3 + 1) v2 v1 σ_5) else (if 0 ≤ v3 ∧ v3 < 4 then (if 0 ≤ v3 ∧ v3 < 4 then (gx_lt (gx_up σ_5 (gx_el 1 v3.toNatClampNeg) 1 ((σ_5 (gx_el 1 v3.toNatClampNeg) 1) + (σ_5 (gx_el 1 v3.toNatClampNeg) 0))) (fun σ_11 => if 0 ≤ v3 ∧ v3 < 4 then (if v1 = ((-4 : Int32)) then (fn_Bo_openQueueByCredit_L7 N n (v3 + 1) (v2 + (σ_11 (gx_el 1 v3.toNatClampNeg) 0)) v3 σ_11) else (if 0 ≤ v3 ∧ v3 < 4 then (if 0 ≤ v1 ∧ v1 < 4 then (if (σ_11 (gx_el 1 v3.toNatClampNeg) 1) ≤ (σ_11 (gx_el 1 v1.toNatClampNeg) 1) then (fn_Bo_openQueueByCredit_L7 N n (v3 + 1) (v2 + (σ_11 (gx_el 1 v3.toNatClampNeg) 0)) v1 σ_11) else (fn_Bo_openQueueByCredit_L7 N n (v3 + 1) (v2 + (σ_11 (gx_el 1 v3.toNatClampNeg) 0)) v3 σ_11)) else none) else none)) else none)) else none) else none)))
def fn_Bo_openQueueByCredit (N : Nat) (σ : gx_M) : Option (Int32 × gx_M) := fn_Bo_openQueueByCredit_L7 N N ((0 : Int32)) ((0 : Int32)) ((-4 : Int32)) σ
set_option maxHeartbeats 4000000 in
set_option maxRecDepth 100000 in
theorem wl_Bo_openQueueByCredit_L7 {p : Program} {l : Launch} {e : Env} {s : State} {m : MethodId} {args : Array Value} {below : List Frame} {meth : Method} {c : Code} {D : va_G} {dA : Nat → ClassId} {adr : Nat → Nat} {A : Nat → Prop} (G : gx_G p m c b_Bo_openQueueByCredit 4 s args gx_tb R_Bo D dA) (hr : meth.sig.returnType = some .int) (hlocks : meth.locks = false) (hA : gx_A A adr) (N : Nat) (res : Int32 × gx_M) : ∀ (n : Nat) (v3 : Int32) (v2 : Int32) (v1 : Int32) (σ : gx_M) (H : Heap) (locs : List Loc) (ls : Array Slot), fn_Bo_openQueueByCredit_L7 N n v3 v2 v1 σ = some res → gx_I D dA adr A s.heap σ H locs → lv_has ls 4 [(3, .int v3), (2, .int v2), (1, .int v1), (0, .ref (adr 0))] → W p l e (headSpec w_Bo_openQueueByCredit rm_Bo_openQueueByCredit).room s m args below meth c H locs 0 0 (MQ below (gx_Q D dA adr A (some (.int res.1)) res.2) args s 0 0 A) (F0 m 7 ls []) := by
  obtain ⟨⟨hx, hb, hml, hown, ht⟩, hK⟩ := id G
  intro n
  induction n with
  | zero =>
    intro v3 v2 v1 σ H locs ls hf
    cases hf
  | succ n ih =>
    intro v3 v2 v1 σ H locs ls hf hI hl
    rw [fn_Bo_openQueueByCredit_L7] at hf
    refine lv_iload_n hx hb d_Bo_openQueueByCredit_7 rfl (lv_at hl 0 rfl) ?_
    refine lv_iconst (v := 4) hx hb d_Bo_openQueueByCredit_8 (by decide) ?_
    refine lv_icmp_ge (tgt := 90) hx hb d_Bo_openQueueByCredit_9 (by decide) (fun c_1 => ?_) (fun c_1 => ?_)
    · replace hf := (if_pos c_1).symm.trans hf
      refine lv_iload_n hx hb d_Bo_openQueueByCredit_90 rfl (lv_at hl 2 rfl) ?_
      refine lv_bipush (v := (-4)) hx hb d_Bo_openQueueByCredit_91 (by decide) ?_
      refine lv_icmp_eq (tgt := 111) hx hb d_Bo_openQueueByCredit_93 (by decide) (fun c_2 => ?_) (fun c_2 => ?_)
      · replace hf := (if_pos c_2).symm.trans hf
        refine lv_iload_n hx hb d_Bo_openQueueByCredit_111 rfl (lv_at hl 2 rfl) ?_
        cases hf
        exact W.iret hx hb hr (gx_F hI) hI.2.2.2 d_Bo_openQueueByCredit_112
      · replace hf := (if_neg c_2).symm.trans hf
        refine lv_aload_n hx hb d_Bo_openQueueByCredit_96 rfl (lv_at hl 3 rfl) ?_
        refine gx_getR (o' := 1) G hI cl_Bo (by decide) 1 (by decide) (by decide) fl_Bo_15 d_Bo_openQueueByCredit_97 ?_
        refine lv_iload_n hx hb d_Bo_openQueueByCredit_100 rfl (lv_at hl 2 rfl) ?_
        obtain ⟨hi_3, hf⟩ := gx_gd hf
        refine gx_aldQ G hI hi_3 d_Bo_openQueueByCredit_101 ?_
        refine lv_dup hx hb d_Bo_openQueueByCredit_102 rfl ?_
        refine gx_getI G hI cl_Qu (gx_ci_q (gx_el_q hi_3)) 1 (by decide) (gx_rf_q (gx_el_q hi_3) 1) fl_Bo_194 d_Bo_openQueueByCredit_103 ?_
        refine lv_iload_n hx hb d_Bo_openQueueByCredit_106 rfl (lv_at hl 1 rfl) ?_
        refine lv_isub hx hb d_Bo_openQueueByCredit_107 ?_
        obtain ⟨σ_4, eσ_4, hf⟩ := gx_lte hf
        refine gx_put G hI hA cl_Qu (gx_ci_q (gx_el_q hi_3)) 1 (by decide) (gx_rf_q (gx_el_q hi_3) 1) fl_Bo_194 rfl rfl rfl eσ_4 d_Bo_openQueueByCredit_108 (fun H locs hI => ?_)
        refine lv_iload_n hx hb d_Bo_openQueueByCredit_111 rfl (lv_at hl 2 rfl) ?_
        cases hf
        exact W.iret hx hb hr (gx_F hI) hI.2.2.2 d_Bo_openQueueByCredit_112
    · replace hf := (if_neg c_1).symm.trans hf
      refine lv_aload_n hx hb d_Bo_openQueueByCredit_12 rfl (lv_at hl 3 rfl) ?_
      refine lv_iload_n hx hb d_Bo_openQueueByCredit_13 rfl (lv_at hl 0 rfl) ?_
      obtain ⟨r_7, σ_5, hc_6, hf⟩ := gx_bde hf
      refine gx_go (va_runV (As := [.int v3]) (rest := []) G.1 (ct_Bo_isOpen l D dA adr A hA N v3 σ r_7 σ_5 hc_6) (cwV 1 ht gi_Bo_191 rfl rfl rfl (by decide +kernel) ⟨Nat.le_of_ble_eq_true rfl, Nat.le_of_ble_eq_true rfl⟩) (gx_preV G hI cl_Bo (by decide)) rfl rfl hl.1 rfl (lv_room (Nat.le_of_ble_eq_true rfl)) d_Bo_openQueueByCredit_14 ⟨Nat.zero_le _, Nat.zero_le _⟩) hI (st1 := [.int r_7]) rfl (fun H locs hI => ?_)
      refine lv_if_eq (tgt := 84) hx hb d_Bo_openQueueByCredit_17 (by decide) (fun c_8 => ?_) (fun c_8 => ?_)
      · replace hf := (if_pos c_8).symm.trans hf
        refine lv_iinc (v := v3 + 1) (lv' := [(3, .int (v3 + 1)), (2, .int v2), (1, .int v1), (0, .ref (adr 0))]) hx hb d_Bo_openQueueByCredit_84 hl (k := 0) rfl rfl (by decide) rfl (fun ls hl => ?_)
        refine lv_goto (tgt := 7) hx hb d_Bo_openQueueByCredit_87 (by decide) ?_
        exact ih (v3 + 1) v2 v1 σ_5 H locs ls hf hI (lv_sub hl [0, 1, 2, 3] rfl)
      · replace hf := (if_neg c_8).symm.trans hf
        refine lv_aload_n hx hb d_Bo_openQueueByCredit_20 rfl (lv_at hl 3 rfl) ?_
        refine gx_getR (o' := 1) G hI cl_Bo (by decide) 1 (by decide) (by decide) fl_Bo_15 d_Bo_openQueueByCredit_21 ?_
        refine lv_iload_n hx hb d_Bo_openQueueByCredit_24 rfl (lv_at hl 0 rfl) ?_
        obtain ⟨hi_9, hf⟩ := gx_gd hf
        refine gx_aldQ G hI hi_9 d_Bo_openQueueByCredit_25 ?_
        refine lv_dup hx hb d_Bo_openQueueByCredit_26 rfl ?_
        refine gx_getI G hI cl_Qu (gx_ci_q (gx_el_q hi_9)) 1 (by decide) (gx_rf_q (gx_el_q hi_9) 1) fl_Bo_194 d_Bo_openQueueByCredit_27 ?_
        refine lv_aload_n hx hb d_Bo_openQueueByCredit_30 rfl (lv_at hl 3 rfl) ?_
        refine gx_getR (o' := 1) G hI cl_Bo (by decide) 1 (by decide) (by decide) fl_Bo_15 d_Bo_openQueueByCredit_31 ?_
        refine lv_iload_n hx hb d_Bo_openQueueByCredit_34 rfl (lv_at hl 0 rfl) ?_
        obtain ⟨hi_10, hf⟩ := gx_gd hf
        refine gx_aldQ G hI hi_10 d_Bo_openQueueByCredit_35 ?_
        refine gx_getI G hI cl_Qu (gx_ci_q (gx_el_q hi_10)) 0 (by decide) (gx_rf_q (gx_el_q hi_10) 0) fl_Bo_197 d_Bo_openQueueByCredit_36 ?_
        refine lv_iadd hx hb d_Bo_openQueueByCredit_39 ?_
        obtain ⟨σ_11, eσ_11, hf⟩ := gx_lte hf
        refine gx_put G hI hA cl_Qu (gx_ci_q (gx_el_q hi_9)) 1 (by decide) (gx_rf_q (gx_el_q hi_9) 1) fl_Bo_194 rfl rfl rfl eσ_11 d_Bo_openQueueByCredit_40 (fun H locs hI => ?_)
        refine lv_iload_n hx hb d_Bo_openQueueByCredit_43 rfl (lv_at hl 1 rfl) ?_
        refine lv_aload_n hx hb d_Bo_openQueueByCredit_44 rfl (lv_at hl 3 rfl) ?_
        refine gx_getR (o' := 1) G hI cl_Bo (by decide) 1 (by decide) (by decide) fl_Bo_15 d_Bo_openQueueByCredit_45 ?_
        refine lv_iload_n hx hb d_Bo_openQueueByCredit_48 rfl (lv_at hl 0 rfl) ?_
        obtain ⟨hi_12, hf⟩ := gx_gd hf
        refine gx_aldQ G hI hi_12 d_Bo_openQueueByCredit_49 ?_
        refine gx_getI G hI cl_Qu (gx_ci_q (gx_el_q hi_12)) 0 (by decide) (gx_rf_q (gx_el_q hi_12) 0) fl_Bo_197 d_Bo_openQueueByCredit_50 ?_
        refine lv_iadd hx hb d_Bo_openQueueByCredit_53 ?_
        refine lv_istore_n (i := 2) (lv' := [(2, .int (v2 + (σ_11 (gx_el 1 v3.toNatClampNeg) 0))), (3, .int v3), (1, .int v1), (0, .ref (adr 0))]) hx hb d_Bo_openQueueByCredit_54 rfl hl (by decide) rfl (fun ls hl => ?_)
        refine lv_iload_n hx hb d_Bo_openQueueByCredit_55 rfl (lv_at hl 2 rfl) ?_
        refine lv_bipush (v := (-4)) hx hb d_Bo_openQueueByCredit_56 (by decide) ?_
        refine lv_icmp_eq (tgt := 82) hx hb d_Bo_openQueueByCredit_58 (by decide) (fun c_13 => ?_) (fun c_13 => ?_)
        · replace hf := (if_pos c_13).symm.trans hf
          refine lv_iload_n hx hb d_Bo_openQueueByCredit_82 rfl (lv_at hl 1 rfl) ?_
          refine lv_istore_n (i := 1) (lv' := [(1, .int v3), (2, .int (v2 + (σ_11 (gx_el 1 v3.toNatClampNeg) 0))), (3, .int v3), (0, .ref (adr 0))]) hx hb d_Bo_openQueueByCredit_83 rfl hl (by decide) rfl (fun ls hl => ?_)
          refine lv_iinc (v := v3 + 1) (lv' := [(3, .int (v3 + 1)), (1, .int v3), (2, .int (v2 + (σ_11 (gx_el 1 v3.toNatClampNeg) 0))), (0, .ref (adr 0))]) hx hb d_Bo_openQueueByCredit_84 hl (k := 2) rfl rfl (by decide) rfl (fun ls hl => ?_)
          refine lv_goto (tgt := 7) hx hb d_Bo_openQueueByCredit_87 (by decide) ?_
          exact ih (v3 + 1) (v2 + (σ_11 (gx_el 1 v3.toNatClampNeg) 0)) v3 σ_11 H locs ls hf hI (lv_sub hl [0, 2, 1, 3] rfl)
        · replace hf := (if_neg c_13).symm.trans hf
          refine lv_aload_n hx hb d_Bo_openQueueByCredit_61 rfl (lv_at hl 3 rfl) ?_
          refine gx_getR (o' := 1) G hI cl_Bo (by decide) 1 (by decide) (by decide) fl_Bo_15 d_Bo_openQueueByCredit_62 ?_
          refine lv_iload_n hx hb d_Bo_openQueueByCredit_65 rfl (lv_at hl 1 rfl) ?_
          obtain ⟨hi_14, hf⟩ := gx_gd hf
          refine gx_aldQ G hI hi_14 d_Bo_openQueueByCredit_66 ?_
          refine gx_getI G hI cl_Qu (gx_ci_q (gx_el_q hi_14)) 1 (by decide) (gx_rf_q (gx_el_q hi_14) 1) fl_Bo_194 d_Bo_openQueueByCredit_67 ?_
          refine lv_aload_n hx hb d_Bo_openQueueByCredit_70 rfl (lv_at hl 3 rfl) ?_
          refine gx_getR (o' := 1) G hI cl_Bo (by decide) 1 (by decide) (by decide) fl_Bo_15 d_Bo_openQueueByCredit_71 ?_
          refine lv_iload_n hx hb d_Bo_openQueueByCredit_74 rfl (lv_at hl 2 rfl) ?_
          obtain ⟨hi_15, hf⟩ := gx_gd hf
          refine gx_aldQ G hI hi_15 d_Bo_openQueueByCredit_75 ?_
          refine gx_getI G hI cl_Qu (gx_ci_q (gx_el_q hi_15)) 1 (by decide) (gx_rf_q (gx_el_q hi_15) 1) fl_Bo_194 d_Bo_openQueueByCredit_76 ?_
          refine lv_icmp_le (tgt := 84) hx hb d_Bo_openQueueByCredit_79 (by decide) (fun c_16 => ?_) (fun c_16 => ?_)
          · replace hf := (if_pos c_16).symm.trans hf
            refine lv_iinc (v := v3 + 1) (lv' := [(3, .int (v3 + 1)), (2, .int (v2 + (σ_11 (gx_el 1 v3.toNatClampNeg) 0))), (1, .int v1), (0, .ref (adr 0))]) hx hb d_Bo_openQueueByCredit_84 hl (k := 1) rfl rfl (by decide) rfl (fun ls hl => ?_)
            refine lv_goto (tgt := 7) hx hb d_Bo_openQueueByCredit_87 (by decide) ?_
            exact ih (v3 + 1) (v2 + (σ_11 (gx_el 1 v3.toNatClampNeg) 0)) v1 σ_11 H locs ls hf hI (lv_sub hl [0, 1, 2, 3] rfl)
          · replace hf := (if_neg c_16).symm.trans hf
            refine lv_iload_n hx hb d_Bo_openQueueByCredit_82 rfl (lv_at hl 1 rfl) ?_
            refine lv_istore_n (i := 1) (lv' := [(1, .int v3), (2, .int (v2 + (σ_11 (gx_el 1 v3.toNatClampNeg) 0))), (3, .int v3), (0, .ref (adr 0))]) hx hb d_Bo_openQueueByCredit_83 rfl hl (by decide) rfl (fun ls hl => ?_)
            refine lv_iinc (v := v3 + 1) (lv' := [(3, .int (v3 + 1)), (1, .int v3), (2, .int (v2 + (σ_11 (gx_el 1 v3.toNatClampNeg) 0))), (0, .ref (adr 0))]) hx hb d_Bo_openQueueByCredit_84 hl (k := 2) rfl rfl (by decide) rfl (fun ls hl => ?_)
            refine lv_goto (tgt := 7) hx hb d_Bo_openQueueByCredit_87 (by decide) ?_
            exact ih (v3 + 1) (v2 + (σ_11 (gx_el 1 v3.toNatClampNeg) 0)) v3 σ_11 H locs ls hf hI (lv_sub hl [0, 2, 1, 3] rfl)
set_option maxHeartbeats 4000000 in
set_option maxRecDepth 100000 in
theorem ct_Bo_openQueueByCredit (l : Launch) (D : va_G) (dA : Nat → ClassId) (adr : Nat → Nat) (A : Nat → Prop) (hA : gx_A A adr) (N : Nat) (σ : gx_M) (r : Int32) (σ' : gx_M) (hf : fn_Bo_openQueueByCredit N σ = some (r, σ')) : Met l y_Bo_openQueueByCredit w_Bo_openQueueByCredit rm_Bo_openQueueByCredit (gx_Pc D dA adr σ [.ref (adr 0)]) (gx_Q D dA adr A (some (.int r)) σ') 0 0 A := by
  refine Met.ofW (cc := b_Bo_openQueueByCredit) (maxL := 4) (ret := some .int) (by decide) rfl ?_
  intro p e s m args below meth c s₁ B hml hv
  obtain ⟨rfl, hP, hK⟩ := hv
  have hx := B.exec
  have hb := B.bytes
  have hr := B.returns
  have hlocks := B.notSynchronized
  have ht : ∀ w ∈ gx_tb, w.before _ s = true := fun w h => atoms_spec (ws := w_Bo_openQueueByCredit) B.pre w (List.mem_cons_of_mem _ h)
  have hown : s.vm.findClass R_Bo = some m.cls := findClass_of_methodNamed B.named
  have G : gx_G p m c b_Bo_openQueueByCredit 4 s _ gx_tb R_Bo D dA := ⟨⟨hx, hb, hml, hown, ht⟩, hK⟩
  have hI : gx_I D dA adr A s.heap σ s.heap [] := ⟨hP, va_S.rf⟩
  have hl := lv_entry ([.ref (adr 0)]) (n := 4) (Nat.le_of_ble_eq_true rfl)
  rw [lg_entry_eq]
  generalize (lg_sl ([.ref (adr 0)]) ++ List.replicate (4 - (lg_sl ([.ref (adr 0)])).length) Slot.unset).toArray = ls at hl ⊢
  have hl : lv_has ls 4 [(0, .ref (adr 0))] := hl
  rw [fn_Bo_openQueueByCredit] at hf
  refine lv_bipush (v := (-4)) hx hb d_Bo_openQueueByCredit_0 (by decide) ?_
  refine lv_istore_n (i := 1) (lv' := [(1, .int ((-4 : Int32))), (0, .ref (adr 0))]) hx hb d_Bo_openQueueByCredit_2 rfl hl (by decide) rfl (fun ls hl => ?_)
  refine lv_iconst (v := 0) hx hb d_Bo_openQueueByCredit_3 (by decide) ?_
  refine lv_istore_n (i := 2) (lv' := [(2, .int ((0 : Int32))), (1, .int ((-4 : Int32))), (0, .ref (adr 0))]) hx hb d_Bo_openQueueByCredit_4 rfl hl (by decide) rfl (fun ls hl => ?_)
  refine lv_iconst (v := 0) hx hb d_Bo_openQueueByCredit_5 (by decide) ?_
  refine lv_istore_n (i := 3) (lv' := [(3, .int ((0 : Int32))), (2, .int ((0 : Int32))), (1, .int ((-4 : Int32))), (0, .ref (adr 0))]) hx hb d_Bo_openQueueByCredit_6 rfl hl (by decide) rfl (fun ls hl => ?_)
  exact wl_Bo_openQueueByCredit_L7 G hr hlocks hA N _ N ((0 : Int32)) ((0 : Int32)) ((-4 : Int32)) σ _ _ ls hf hI (lv_sub hl [0, 1, 2, 3] rfl)
def fn_Bo_queue (N : Nat) (p0 : Int32) (p1 : Int32) (p2 : Int32) (p3 : Int32) (σ : gx_M) : Option (Int32 × gx_M) := gx_bd (fn_Bo_isQueue N p0 σ) (fun r_3 σ_1 => if r_3 = 0 then (some ((-1 : Int32), σ_1)) else (gx_bd (fn_Bo_within N p1 ((0 : Int32)) ((8 : Int32)) σ_1) (fun r_7 σ_5 => if r_7 = 0 then (some ((-1 : Int32), σ_5)) else (gx_bd (fn_Bo_within N p2 ((0 : Int32)) ((20 : Int32)) σ_5) (fun r_11 σ_9 => if r_11 = 0 then (some ((-1 : Int32), σ_9)) else (gx_bd (fn_Bo_within N p3 ((1 : Int32)) ((50 : Int32)) σ_9) (fun r_15 σ_13 => if r_15 = 0 then (some ((-1 : Int32), σ_13)) else (if 0 ≤ p0 ∧ p0 < 4 then (gx_bv (fn_Qu_set N (gx_el 1 p0.toNatClampNeg) p1 p2 p3 (σ_13 0 4) σ_13) (fun σ_18 => some ((0 : Int32), σ_18))) else none))))))))
set_option maxHeartbeats 4000000 in
set_option maxRecDepth 100000 in
theorem ct_Bo_queue (l : Launch) (D : va_G) (dA : Nat → ClassId) (adr : Nat → Nat) (A : Nat → Prop) (hA : gx_A A adr) (N : Nat) (p0 : Int32) (p1 : Int32) (p2 : Int32) (p3 : Int32) (σ : gx_M) (r : Int32) (σ' : gx_M) (hf : fn_Bo_queue N p0 p1 p2 p3 σ = some (r, σ')) : Met l y_Bo_queue w_Bo_queue rm_Bo_queue (gx_Pc D dA adr σ [.ref (adr 0), .int p0, .int p1, .int p2, .int p3]) (gx_Q D dA adr A (some (.int r)) σ') 0 0 A := by
  refine Met.ofW (cc := b_Bo_queue) (maxL := 5) (ret := some .int) (by decide) rfl ?_
  intro p e s m args below meth c s₁ B hml hv
  obtain ⟨rfl, hP, hK⟩ := hv
  have hx := B.exec
  have hb := B.bytes
  have hr := B.returns
  have hlocks := B.notSynchronized
  have ht : ∀ w ∈ gx_tb, w.before _ s = true := fun w h => atoms_spec (ws := w_Bo_queue) B.pre w (List.mem_cons_of_mem _ h)
  have hown : s.vm.findClass R_Bo = some m.cls := findClass_of_methodNamed B.named
  have G : gx_G p m c b_Bo_queue 5 s _ gx_tb R_Bo D dA := ⟨⟨hx, hb, hml, hown, ht⟩, hK⟩
  have hI : gx_I D dA adr A s.heap σ s.heap [] := ⟨hP, va_S.rf⟩
  have hl := lv_entry ([.ref (adr 0), .int p0, .int p1, .int p2, .int p3]) (n := 5) (Nat.le_of_ble_eq_true rfl)
  rw [lg_entry_eq]
  generalize (lg_sl ([.ref (adr 0), .int p0, .int p1, .int p2, .int p3]) ++ List.replicate (5 - (lg_sl ([.ref (adr 0), .int p0, .int p1, .int p2, .int p3])).length) Slot.unset).toArray = ls at hl ⊢
  have hl : lv_has ls 5 [(0, .ref (adr 0)), (1, .int p0), (2, .int p1), (3, .int p2), (4, .int p3)] := hl
  rw [fn_Bo_queue] at hf
  refine lv_iload_n hx hb d_Bo_queue_0 rfl (lv_at hl 1 rfl) ?_
  obtain ⟨r_3, σ_1, hc_2, hf⟩ := gx_bde hf
  refine gx_go (va_runS (As := [.int p0]) (rest := []) G.1 (ct_Bo_isQueue l D dA adr A hA N p0 σ r_3 σ_1 hc_2) (cwS 1 ht gi_Bo_41 rfl rfl rfl (by decide +kernel) ⟨Nat.le_of_ble_eq_true rfl, Nat.le_of_ble_eq_true rfl⟩) (gx_pre G hI) rfl rfl hl.1 rfl (lv_room (Nat.le_of_ble_eq_true rfl)) d_Bo_queue_1 ⟨Nat.zero_le _, Nat.zero_le _⟩) hI (st1 := [.int r_3]) rfl (fun H locs hI => ?_)
  refine lv_if_eq (tgt := 38) hx hb d_Bo_queue_4 (by decide) (fun c_4 => ?_) (fun c_4 => ?_)
  · replace hf := (if_pos c_4).symm.trans hf
    refine lv_iconst (v := (-1)) hx hb d_Bo_queue_38 (by decide) ?_
    cases hf
    exact W.iret hx hb hr (gx_F hI) hI.2.2.2 d_Bo_queue_39
  · replace hf := (if_neg c_4).symm.trans hf
    refine lv_iload_n hx hb d_Bo_queue_7 rfl (lv_at hl 2 rfl) ?_
    refine lv_iconst (v := 0) hx hb d_Bo_queue_8 (by decide) ?_
    refine lv_bipush (v := 8) hx hb d_Bo_queue_9 (by decide) ?_
    obtain ⟨r_7, σ_5, hc_6, hf⟩ := gx_bde hf
    refine gx_go (va_runS (As := [.int p1, .int ((0 : Int32)), .int ((8 : Int32))]) (rest := []) G.1 (ct_Bo_within l D dA adr A hA N p1 ((0 : Int32)) ((8 : Int32)) σ_1 r_7 σ_5 hc_6) (cwS 3 ht gi_Bo_45 rfl rfl rfl (by decide +kernel) ⟨Nat.le_of_ble_eq_true rfl, Nat.le_of_ble_eq_true rfl⟩) (gx_pre G hI) rfl rfl hl.1 rfl (lv_room (Nat.le_of_ble_eq_true rfl)) d_Bo_queue_11 ⟨Nat.zero_le _, Nat.zero_le _⟩) hI (st1 := [.int r_7]) rfl (fun H locs hI => ?_)
    refine lv_if_eq (tgt := 38) hx hb d_Bo_queue_14 (by decide) (fun c_8 => ?_) (fun c_8 => ?_)
    · replace hf := (if_pos c_8).symm.trans hf
      refine lv_iconst (v := (-1)) hx hb d_Bo_queue_38 (by decide) ?_
      cases hf
      exact W.iret hx hb hr (gx_F hI) hI.2.2.2 d_Bo_queue_39
    · replace hf := (if_neg c_8).symm.trans hf
      refine lv_iload_n hx hb d_Bo_queue_17 rfl (lv_at hl 3 rfl) ?_
      refine lv_iconst (v := 0) hx hb d_Bo_queue_18 (by decide) ?_
      refine lv_bipush (v := 20) hx hb d_Bo_queue_19 (by decide) ?_
      obtain ⟨r_11, σ_9, hc_10, hf⟩ := gx_bde hf
      refine gx_go (va_runS (As := [.int p2, .int ((0 : Int32)), .int ((20 : Int32))]) (rest := []) G.1 (ct_Bo_within l D dA adr A hA N p2 ((0 : Int32)) ((20 : Int32)) σ_5 r_11 σ_9 hc_10) (cwS 3 ht gi_Bo_45 rfl rfl rfl (by decide +kernel) ⟨Nat.le_of_ble_eq_true rfl, Nat.le_of_ble_eq_true rfl⟩) (gx_pre G hI) rfl rfl hl.1 rfl (lv_room (Nat.le_of_ble_eq_true rfl)) d_Bo_queue_21 ⟨Nat.zero_le _, Nat.zero_le _⟩) hI (st1 := [.int r_11]) rfl (fun H locs hI => ?_)
      refine lv_if_eq (tgt := 38) hx hb d_Bo_queue_24 (by decide) (fun c_12 => ?_) (fun c_12 => ?_)
      · replace hf := (if_pos c_12).symm.trans hf
        refine lv_iconst (v := (-1)) hx hb d_Bo_queue_38 (by decide) ?_
        cases hf
        exact W.iret hx hb hr (gx_F hI) hI.2.2.2 d_Bo_queue_39
      · replace hf := (if_neg c_12).symm.trans hf
        refine lv_iload hx hb d_Bo_queue_27 (lv_at hl 4 rfl) ?_
        refine lv_iconst (v := 1) hx hb d_Bo_queue_29 (by decide) ?_
        refine lv_bipush (v := 50) hx hb d_Bo_queue_30 (by decide) ?_
        obtain ⟨r_15, σ_13, hc_14, hf⟩ := gx_bde hf
        refine gx_go (va_runS (As := [.int p3, .int ((1 : Int32)), .int ((50 : Int32))]) (rest := []) G.1 (ct_Bo_within l D dA adr A hA N p3 ((1 : Int32)) ((50 : Int32)) σ_9 r_15 σ_13 hc_14) (cwS 3 ht gi_Bo_45 rfl rfl rfl (by decide +kernel) ⟨Nat.le_of_ble_eq_true rfl, Nat.le_of_ble_eq_true rfl⟩) (gx_pre G hI) rfl rfl hl.1 rfl (lv_room (Nat.le_of_ble_eq_true rfl)) d_Bo_queue_32 ⟨Nat.zero_le _, Nat.zero_le _⟩) hI (st1 := [.int r_15]) rfl (fun H locs hI => ?_)
        refine lv_if_ne (tgt := 40) hx hb d_Bo_queue_35 (by decide) (fun c_16 => ?_) (fun c_16 => ?_)
        · replace hf := (if_neg c_16).symm.trans hf
          refine lv_aload_n hx hb d_Bo_queue_40 rfl (lv_at hl 0 rfl) ?_
          refine gx_getR (o' := 1) G hI cl_Bo (by decide) 1 (by decide) (by decide) fl_Bo_15 d_Bo_queue_41 ?_
          refine lv_iload_n hx hb d_Bo_queue_44 rfl (lv_at hl 1 rfl) ?_
          obtain ⟨hi_17, hf⟩ := gx_gd hf
          refine gx_aldQ G hI hi_17 d_Bo_queue_45 ?_
          refine lv_iload_n hx hb d_Bo_queue_46 rfl (lv_at hl 2 rfl) ?_
          refine lv_iload_n hx hb d_Bo_queue_47 rfl (lv_at hl 3 rfl) ?_
          refine lv_iload hx hb d_Bo_queue_48 (lv_at hl 4 rfl) ?_
          refine lv_aload_n hx hb d_Bo_queue_50 rfl (lv_at hl 0 rfl) ?_
          refine gx_getI G hI cl_Bo (by decide) 4 (by decide) (by decide) fl_Bo_34 d_Bo_queue_51 ?_
          obtain ⟨σ_18, hc_19, hf⟩ := gx_bve hf
          refine gx_go (va_runV (As := [.int p1, .int p2, .int p3, .int (σ_13 0 4)]) (rest := []) G.1 (ct_Qu_set l D dA adr A hA N (gx_el 1 p0.toNatClampNeg) p1 p2 p3 (σ_13 0 4) σ_13 σ_18 hc_19) (cwV 4 ht gi_Bo_49 rfl rfl rfl (by decide +kernel) ⟨Nat.le_of_ble_eq_true rfl, Nat.le_of_ble_eq_true rfl⟩) (gx_preV G hI cl_Qu (gx_ci_q (gx_el_q hi_17))) rfl rfl hl.1 rfl (lv_room (Nat.le_of_ble_eq_true rfl)) d_Bo_queue_54 ⟨Nat.zero_le _, Nat.zero_le _⟩) hI (st1 := []) rfl (fun H locs hI => ?_)
          refine lv_iconst (v := 0) hx hb d_Bo_queue_57 (by decide) ?_
          cases hf
          exact W.iret hx hb hr (gx_F hI) hI.2.2.2 d_Bo_queue_58
        · replace hf := (if_pos c_16).symm.trans hf
          refine lv_iconst (v := (-1)) hx hb d_Bo_queue_38 (by decide) ?_
          cases hf
          exact W.iret hx hb hr (gx_F hI) hI.2.2.2 d_Bo_queue_39
def fn_Bo_key (N : Nat) (p0 : Int32) (σ : gx_M) : Option (Int32 × gx_M) := if p0 = ((-1 : Int32)) then (gx_lt (gx_up σ 0 5 p0) (fun σ_2 => some ((0 : Int32), σ_2))) else (gx_bd (fn_Bo_within N p0 ((0 : Int32)) ((31 : Int32)) σ) (fun r_5 σ_3 => if r_5 = 0 then (some ((-1 : Int32), σ_3)) else (gx_lt (gx_up σ_3 0 5 p0) (fun σ_7 => some ((0 : Int32), σ_7)))))
set_option maxHeartbeats 4000000 in
set_option maxRecDepth 100000 in
theorem ct_Bo_key (l : Launch) (D : va_G) (dA : Nat → ClassId) (adr : Nat → Nat) (A : Nat → Prop) (hA : gx_A A adr) (N : Nat) (p0 : Int32) (σ : gx_M) (r : Int32) (σ' : gx_M) (hf : fn_Bo_key N p0 σ = some (r, σ')) : Met l y_Bo_key w_Bo_key rm_Bo_key (gx_Pc D dA adr σ [.ref (adr 0), .int p0]) (gx_Q D dA adr A (some (.int r)) σ') 0 0 A := by
  refine Met.ofW (cc := b_Bo_key) (maxL := 2) (ret := some .int) (by decide) rfl ?_
  intro p e s m args below meth c s₁ B hml hv
  obtain ⟨rfl, hP, hK⟩ := hv
  have hx := B.exec
  have hb := B.bytes
  have hr := B.returns
  have hlocks := B.notSynchronized
  have ht : ∀ w ∈ gx_tb, w.before _ s = true := fun w h => atoms_spec (ws := w_Bo_key) B.pre w (List.mem_cons_of_mem _ h)
  have hown : s.vm.findClass R_Bo = some m.cls := findClass_of_methodNamed B.named
  have G : gx_G p m c b_Bo_key 2 s _ gx_tb R_Bo D dA := ⟨⟨hx, hb, hml, hown, ht⟩, hK⟩
  have hI : gx_I D dA adr A s.heap σ s.heap [] := ⟨hP, va_S.rf⟩
  have hl := lv_entry ([.ref (adr 0), .int p0]) (n := 2) (Nat.le_of_ble_eq_true rfl)
  rw [lg_entry_eq]
  generalize (lg_sl ([.ref (adr 0), .int p0]) ++ List.replicate (2 - (lg_sl ([.ref (adr 0), .int p0])).length) Slot.unset).toArray = ls at hl ⊢
  have hl : lv_has ls 2 [(0, .ref (adr 0)), (1, .int p0)] := hl
  rw [fn_Bo_key] at hf
  refine lv_iload_n hx hb d_Bo_key_0 rfl (lv_at hl 1 rfl) ?_
  refine lv_iconst (v := (-1)) hx hb d_Bo_key_1 (by decide) ?_
  refine lv_icmp_eq (tgt := 17) hx hb d_Bo_key_2 (by decide) (fun c_1 => ?_) (fun c_1 => ?_)
  · replace hf := (if_pos c_1).symm.trans hf
    refine lv_aload_n hx hb d_Bo_key_17 rfl (lv_at hl 0 rfl) ?_
    refine lv_iload_n hx hb d_Bo_key_18 rfl (lv_at hl 1 rfl) ?_
    obtain ⟨σ_2, eσ_2, hf⟩ := gx_lte hf
    refine gx_put G hI hA cl_Bo (by decide) 5 (by decide) (by decide) fl_Bo_38 rfl rfl rfl eσ_2 d_Bo_key_19 (fun H locs hI => ?_)
    refine lv_iconst (v := 0) hx hb d_Bo_key_22 (by decide) ?_
    cases hf
    exact W.iret hx hb hr (gx_F hI) hI.2.2.2 d_Bo_key_23
  · replace hf := (if_neg c_1).symm.trans hf
    refine lv_iload_n hx hb d_Bo_key_5 rfl (lv_at hl 1 rfl) ?_
    refine lv_iconst (v := 0) hx hb d_Bo_key_6 (by decide) ?_
    refine lv_bipush (v := 31) hx hb d_Bo_key_7 (by decide) ?_
    obtain ⟨r_5, σ_3, hc_4, hf⟩ := gx_bde hf
    refine gx_go (va_runS (As := [.int p0, .int ((0 : Int32)), .int ((31 : Int32))]) (rest := []) G.1 (ct_Bo_within l D dA adr A hA N p0 ((0 : Int32)) ((31 : Int32)) σ r_5 σ_3 hc_4) (cwS 3 ht gi_Bo_45 rfl rfl rfl (by decide +kernel) ⟨Nat.le_of_ble_eq_true rfl, Nat.le_of_ble_eq_true rfl⟩) (gx_pre G hI) rfl rfl hl.1 rfl (lv_room (Nat.le_of_ble_eq_true rfl)) d_Bo_key_9 ⟨Nat.zero_le _, Nat.zero_le _⟩) hI (st1 := [.int r_5]) rfl (fun H locs hI => ?_)
    refine lv_if_ne (tgt := 17) hx hb d_Bo_key_12 (by decide) (fun c_6 => ?_) (fun c_6 => ?_)
    · replace hf := (if_neg c_6).symm.trans hf
      refine lv_aload_n hx hb d_Bo_key_17 rfl (lv_at hl 0 rfl) ?_
      refine lv_iload_n hx hb d_Bo_key_18 rfl (lv_at hl 1 rfl) ?_
      obtain ⟨σ_7, eσ_7, hf⟩ := gx_lte hf
      refine gx_put G hI hA cl_Bo (by decide) 5 (by decide) (by decide) fl_Bo_38 rfl rfl rfl eσ_7 d_Bo_key_19 (fun H locs hI => ?_)
      refine lv_iconst (v := 0) hx hb d_Bo_key_22 (by decide) ?_
      cases hf
      exact W.iret hx hb hr (gx_F hI) hI.2.2.2 d_Bo_key_23
    · replace hf := (if_pos c_6).symm.trans hf
      refine lv_iconst (v := (-1)) hx hb d_Bo_key_15 (by decide) ?_
      cases hf
      exact W.iret hx hb hr (gx_F hI) hI.2.2.2 d_Bo_key_16
def fn_Bo_submit (N : Nat) (p0 : Int32) (p1 : Int32) (p2 : Int32) (p3 : Int32) (p4 : Int32) (σ : gx_M) : Option (Int32 × gx_M) := gx_bd (fn_Bo_isQueue N p0 σ) (fun r_3 σ_1 => if r_3 = 0 then (some ((-1 : Int32), σ_1)) else (gx_bd (fn_Bo_within N p1 ((0 : Int32)) ((9 : Int32)) σ_1) (fun r_7 σ_5 => if r_7 = 0 then (some ((-1 : Int32), σ_5)) else (gx_bd (fn_Bo_within N p2 ((0 : Int32)) ((1000 : Int32)) σ_5) (fun r_11 σ_9 => if r_11 = 0 then (some ((-1 : Int32), σ_9)) else (gx_bd (fn_Bo_within N p3 ((0 : Int32)) ((5 : Int32)) σ_9) (fun r_15 σ_13 => if r_15 = 0 then (some ((-1 : Int32), σ_13)) else (gx_bd (fn_Bo_within N p4 ((1 : Int32)) ((50 : Int32)) σ_13) (fun r_19 σ_17 => if r_19 = 0 then (some ((-1 : Int32), σ_17)) else (gx_bd (fn_Ro_hasLiveKey N 24 (σ_17 0 5) σ_17) (fun r_23 σ_21 => if r_23 = 0 then (gx_bd (fn_Ro_make N 24 p0 p1 σ_21) (fun x_27 σ_25 => gx_mt x_27 (some ((-2 : Int32), σ_25)) (fun o_28 => if 42 ≤ o_28 ∧ o_28 < 722 then (gx_lt (gx_up σ_25 o_28 3 p3) (fun σ_30 => gx_lt (gx_up σ_30 o_28 4 p4) (fun σ_31 => gx_lt (gx_up σ_31 o_28 5 (σ_31 0 5)) (fun σ_32 => gx_lt (gx_up σ_32 0 5 ((-1 : Int32))) (fun σ_33 => if p2 = 0 then (gx_bv (fn_Ro_enter N 24 o_28 ((1 : Int32)) σ_33) (fun σ_39 => gx_bv (fn_Jn_write N 24 σ_39) (fun σ_41 => some (σ_41 o_28 0, σ_41)))) else (gx_bv (fn_Jb_waitUntil N o_28 ((0 : Int32)) ((σ_33 0 4) + p2) σ_33) (fun σ_35 => gx_bv (fn_Jn_write N 24 σ_35) (fun σ_37 => some (σ_37 o_28 0, σ_37))))))))) else none))) else (some ((-3 : Int32), σ_21)))))))))))))
set_option maxHeartbeats 4000000 in
set_option maxRecDepth 100000 in
theorem ct_Bo_submit (l : Launch) (D : va_G) (dA : Nat → ClassId) (adr : Nat → Nat) (A : Nat → Prop) (hA : gx_A A adr) (N : Nat) (p0 : Int32) (p1 : Int32) (p2 : Int32) (p3 : Int32) (p4 : Int32) (σ : gx_M) (r : Int32) (σ' : gx_M) (hf : fn_Bo_submit N p0 p1 p2 p3 p4 σ = some (r, σ')) : Met l y_Bo_submit w_Bo_submit rm_Bo_submit (gx_Pc D dA adr σ [.ref (adr 0), .int p0, .int p1, .int p2, .int p3, .int p4]) (gx_Q D dA adr A (some (.int r)) σ') 0 0 A := by
  refine Met.ofW (cc := b_Bo_submit) (maxL := 7) (ret := some .int) (by decide) rfl ?_
  intro p e s m args below meth c s₁ B hml hv
  obtain ⟨rfl, hP, hK⟩ := hv
  have hx := B.exec
  have hb := B.bytes
  have hr := B.returns
  have hlocks := B.notSynchronized
  have ht : ∀ w ∈ gx_tb, w.before _ s = true := fun w h => atoms_spec (ws := w_Bo_submit) B.pre w (List.mem_cons_of_mem _ h)
  have hown : s.vm.findClass R_Bo = some m.cls := findClass_of_methodNamed B.named
  have G : gx_G p m c b_Bo_submit 7 s _ gx_tb R_Bo D dA := ⟨⟨hx, hb, hml, hown, ht⟩, hK⟩
  have hI : gx_I D dA adr A s.heap σ s.heap [] := ⟨hP, va_S.rf⟩
  have hl := lv_entry ([.ref (adr 0), .int p0, .int p1, .int p2, .int p3, .int p4]) (n := 7) (Nat.le_of_ble_eq_true rfl)
  rw [lg_entry_eq]
  generalize (lg_sl ([.ref (adr 0), .int p0, .int p1, .int p2, .int p3, .int p4]) ++ List.replicate (7 - (lg_sl ([.ref (adr 0), .int p0, .int p1, .int p2, .int p3, .int p4])).length) Slot.unset).toArray = ls at hl ⊢
  have hl : lv_has ls 7 [(0, .ref (adr 0)), (1, .int p0), (2, .int p1), (3, .int p2), (4, .int p3), (5, .int p4)] := hl
  rw [fn_Bo_submit] at hf
  refine lv_iload_n hx hb d_Bo_submit_0 rfl (lv_at hl 1 rfl) ?_
  obtain ⟨r_3, σ_1, hc_2, hf⟩ := gx_bde hf
  refine gx_go (va_runS (As := [.int p0]) (rest := []) G.1 (ct_Bo_isQueue l D dA adr A hA N p0 σ r_3 σ_1 hc_2) (cwS 1 ht gi_Bo_41 rfl rfl rfl (by decide +kernel) ⟨Nat.le_of_ble_eq_true rfl, Nat.le_of_ble_eq_true rfl⟩) (gx_pre G hI) rfl rfl hl.1 rfl (lv_room (Nat.le_of_ble_eq_true rfl)) d_Bo_submit_1 ⟨Nat.zero_le _, Nat.zero_le _⟩) hI (st1 := [.int r_3]) rfl (fun H locs hI => ?_)
  refine lv_if_eq (tgt := 49) hx hb d_Bo_submit_4 (by decide) (fun c_4 => ?_) (fun c_4 => ?_)
  · replace hf := (if_pos c_4).symm.trans hf
    refine lv_iconst (v := (-1)) hx hb d_Bo_submit_49 (by decide) ?_
    cases hf
    exact W.iret hx hb hr (gx_F hI) hI.2.2.2 d_Bo_submit_50
  · replace hf := (if_neg c_4).symm.trans hf
    refine lv_iload_n hx hb d_Bo_submit_7 rfl (lv_at hl 2 rfl) ?_
    refine lv_iconst (v := 0) hx hb d_Bo_submit_8 (by decide) ?_
    refine lv_bipush (v := 9) hx hb d_Bo_submit_9 (by decide) ?_
    obtain ⟨r_7, σ_5, hc_6, hf⟩ := gx_bde hf
    refine gx_go (va_runS (As := [.int p1, .int ((0 : Int32)), .int ((9 : Int32))]) (rest := []) G.1 (ct_Bo_within l D dA adr A hA N p1 ((0 : Int32)) ((9 : Int32)) σ_1 r_7 σ_5 hc_6) (cwS 3 ht gi_Bo_45 rfl rfl rfl (by decide +kernel) ⟨Nat.le_of_ble_eq_true rfl, Nat.le_of_ble_eq_true rfl⟩) (gx_pre G hI) rfl rfl hl.1 rfl (lv_room (Nat.le_of_ble_eq_true rfl)) d_Bo_submit_11 ⟨Nat.zero_le _, Nat.zero_le _⟩) hI (st1 := [.int r_7]) rfl (fun H locs hI => ?_)
    refine lv_if_eq (tgt := 49) hx hb d_Bo_submit_14 (by decide) (fun c_8 => ?_) (fun c_8 => ?_)
    · replace hf := (if_pos c_8).symm.trans hf
      refine lv_iconst (v := (-1)) hx hb d_Bo_submit_49 (by decide) ?_
      cases hf
      exact W.iret hx hb hr (gx_F hI) hI.2.2.2 d_Bo_submit_50
    · replace hf := (if_neg c_8).symm.trans hf
      refine lv_iload_n hx hb d_Bo_submit_17 rfl (lv_at hl 3 rfl) ?_
      refine lv_iconst (v := 0) hx hb d_Bo_submit_18 (by decide) ?_
      refine lv_sipush (v := 1000) hx hb d_Bo_submit_19 (by decide) ?_
      obtain ⟨r_11, σ_9, hc_10, hf⟩ := gx_bde hf
      refine gx_go (va_runS (As := [.int p2, .int ((0 : Int32)), .int ((1000 : Int32))]) (rest := []) G.1 (ct_Bo_within l D dA adr A hA N p2 ((0 : Int32)) ((1000 : Int32)) σ_5 r_11 σ_9 hc_10) (cwS 3 ht gi_Bo_45 rfl rfl rfl (by decide +kernel) ⟨Nat.le_of_ble_eq_true rfl, Nat.le_of_ble_eq_true rfl⟩) (gx_pre G hI) rfl rfl hl.1 rfl (lv_room (Nat.le_of_ble_eq_true rfl)) d_Bo_submit_22 ⟨Nat.zero_le _, Nat.zero_le _⟩) hI (st1 := [.int r_11]) rfl (fun H locs hI => ?_)
      refine lv_if_eq (tgt := 49) hx hb d_Bo_submit_25 (by decide) (fun c_12 => ?_) (fun c_12 => ?_)
      · replace hf := (if_pos c_12).symm.trans hf
        refine lv_iconst (v := (-1)) hx hb d_Bo_submit_49 (by decide) ?_
        cases hf
        exact W.iret hx hb hr (gx_F hI) hI.2.2.2 d_Bo_submit_50
      · replace hf := (if_neg c_12).symm.trans hf
        refine lv_iload hx hb d_Bo_submit_28 (lv_at hl 4 rfl) ?_
        refine lv_iconst (v := 0) hx hb d_Bo_submit_30 (by decide) ?_
        refine lv_iconst (v := 5) hx hb d_Bo_submit_31 (by decide) ?_
        obtain ⟨r_15, σ_13, hc_14, hf⟩ := gx_bde hf
        refine gx_go (va_runS (As := [.int p3, .int ((0 : Int32)), .int ((5 : Int32))]) (rest := []) G.1 (ct_Bo_within l D dA adr A hA N p3 ((0 : Int32)) ((5 : Int32)) σ_9 r_15 σ_13 hc_14) (cwS 3 ht gi_Bo_45 rfl rfl rfl (by decide +kernel) ⟨Nat.le_of_ble_eq_true rfl, Nat.le_of_ble_eq_true rfl⟩) (gx_pre G hI) rfl rfl hl.1 rfl (lv_room (Nat.le_of_ble_eq_true rfl)) d_Bo_submit_32 ⟨Nat.zero_le _, Nat.zero_le _⟩) hI (st1 := [.int r_15]) rfl (fun H locs hI => ?_)
        refine lv_if_eq (tgt := 49) hx hb d_Bo_submit_35 (by decide) (fun c_16 => ?_) (fun c_16 => ?_)
        · replace hf := (if_pos c_16).symm.trans hf
          refine lv_iconst (v := (-1)) hx hb d_Bo_submit_49 (by decide) ?_
          cases hf
          exact W.iret hx hb hr (gx_F hI) hI.2.2.2 d_Bo_submit_50
        · replace hf := (if_neg c_16).symm.trans hf
          refine lv_iload hx hb d_Bo_submit_38 (lv_at hl 5 rfl) ?_
          refine lv_iconst (v := 1) hx hb d_Bo_submit_40 (by decide) ?_
          refine lv_bipush (v := 50) hx hb d_Bo_submit_41 (by decide) ?_
          obtain ⟨r_19, σ_17, hc_18, hf⟩ := gx_bde hf
          refine gx_go (va_runS (As := [.int p4, .int ((1 : Int32)), .int ((50 : Int32))]) (rest := []) G.1 (ct_Bo_within l D dA adr A hA N p4 ((1 : Int32)) ((50 : Int32)) σ_13 r_19 σ_17 hc_18) (cwS 3 ht gi_Bo_45 rfl rfl rfl (by decide +kernel) ⟨Nat.le_of_ble_eq_true rfl, Nat.le_of_ble_eq_true rfl⟩) (gx_pre G hI) rfl rfl hl.1 rfl (lv_room (Nat.le_of_ble_eq_true rfl)) d_Bo_submit_43 ⟨Nat.zero_le _, Nat.zero_le _⟩) hI (st1 := [.int r_19]) rfl (fun H locs hI => ?_)
          refine lv_if_ne (tgt := 51) hx hb d_Bo_submit_46 (by decide) (fun c_20 => ?_) (fun c_20 => ?_)
          · replace hf := (if_neg c_20).symm.trans hf
            refine lv_aload_n hx hb d_Bo_submit_51 rfl (lv_at hl 0 rfl) ?_
            refine gx_getR (o' := 24) G hI cl_Bo (by decide) 2 (by decide) (by decide) fl_Bo_23 d_Bo_submit_52 ?_
            refine lv_aload_n hx hb d_Bo_submit_55 rfl (lv_at hl 0 rfl) ?_
            refine gx_getI G hI cl_Bo (by decide) 5 (by decide) (by decide) fl_Bo_38 d_Bo_submit_56 ?_
            obtain ⟨r_23, σ_21, hc_22, hf⟩ := gx_bde hf
            refine gx_go (va_runV (As := [.int (σ_17 0 5)]) (rest := []) G.1 (ct_Ro_hasLiveKey l D dA adr A hA N 24 (σ_17 0 5) σ_17 r_23 σ_21 hc_22) (cwV 1 ht gi_Bo_53 rfl rfl rfl (by decide +kernel) ⟨Nat.le_of_ble_eq_true rfl, Nat.le_of_ble_eq_true rfl⟩) (gx_preV G hI cl_Ro (gx_ci_r (by decide))) rfl rfl hl.1 rfl (lv_room (Nat.le_of_ble_eq_true rfl)) d_Bo_submit_59 ⟨Nat.zero_le _, Nat.zero_le _⟩) hI (st1 := [.int r_23]) rfl (fun H locs hI => ?_)
            refine lv_if_eq (tgt := 68) hx hb d_Bo_submit_62 (by decide) (fun c_24 => ?_) (fun c_24 => ?_)
            · replace hf := (if_pos c_24).symm.trans hf
              refine lv_aload_n hx hb d_Bo_submit_68 rfl (lv_at hl 0 rfl) ?_
              refine gx_getR (o' := 24) G hI cl_Bo (by decide) 2 (by decide) (by decide) fl_Bo_23 d_Bo_submit_69 ?_
              refine lv_iload_n hx hb d_Bo_submit_72 rfl (lv_at hl 1 rfl) ?_
              refine lv_iload_n hx hb d_Bo_submit_73 rfl (lv_at hl 2 rfl) ?_
              obtain ⟨x_27, σ_25, hc_26, hf⟩ := gx_bde hf
              rcases x_27 with _ | o_28
              · replace hf := gx_mtn hf
                refine gx_go (va_runV (As := [.int p0, .int p1]) (rest := []) G.1 (ct_Ro_make l D dA adr A hA N 24 p0 p1 σ_21 none σ_25 hc_26) (cwV 2 ht gi_Bo_56 rfl rfl rfl (by decide +kernel) ⟨Nat.le_of_ble_eq_true rfl, Nat.le_of_ble_eq_true rfl⟩) (gx_preV G hI cl_Ro (gx_ci_r (by decide))) rfl rfl hl.1 rfl (lv_room (Nat.le_of_ble_eq_true rfl)) d_Bo_submit_74 ⟨Nat.zero_le _, Nat.zero_le _⟩) hI (st1 := [.null]) rfl (fun H locs hI => ?_)
                refine lv_astoreN (i := 6) (lv' := [(6, .null), (0, .ref (adr 0)), (1, .int p0), (2, .int p1), (3, .int p2), (4, .int p3), (5, .int p4)]) hx hb d_Bo_submit_77 hl (by decide) rfl (fun ls hl => ?_)
                refine lv_aloadN hx hb d_Bo_submit_79 (lv_at hl 0 rfl) ?_
                refine lv_ifnonnullN hx hb d_Bo_submit_81 ?_
                refine lv_bipush (v := (-2)) hx hb d_Bo_submit_84 (by decide) ?_
                cases hf
                exact W.iret hx hb hr (gx_F hI) hI.2.2.2 d_Bo_submit_86
              · replace hf := gx_mts hf
                obtain ⟨hg_29, hf⟩ := gx_gd hf
                refine gx_go (va_runV (As := [.int p0, .int p1]) (rest := []) G.1 (ct_Ro_make l D dA adr A hA N 24 p0 p1 σ_21 (some o_28) σ_25 hc_26) (cwV 2 ht gi_Bo_56 rfl rfl rfl (by decide +kernel) ⟨Nat.le_of_ble_eq_true rfl, Nat.le_of_ble_eq_true rfl⟩) (gx_preV G hI cl_Ro (gx_ci_r (by decide))) rfl rfl hl.1 rfl (lv_room (Nat.le_of_ble_eq_true rfl)) d_Bo_submit_74 ⟨Nat.zero_le _, Nat.zero_le _⟩) hI (st1 := [.ref (adr o_28)]) rfl (fun H locs hI => ?_)
                refine lv_astore (i := 6) (lv' := [(6, .ref (adr o_28)), (0, .ref (adr 0)), (1, .int p0), (2, .int p1), (3, .int p2), (4, .int p3), (5, .int p4)]) hx hb d_Bo_submit_77 hl (by decide) rfl (fun ls hl => ?_)
                refine lv_aload hx hb d_Bo_submit_79 (lv_at hl 0 rfl) ?_
                refine lv_ifnonnull (tgt := 87) hx hb d_Bo_submit_81 (by decide) ?_
                refine lv_aload hx hb d_Bo_submit_87 (lv_at hl 0 rfl) ?_
                refine lv_iload hx hb d_Bo_submit_89 (lv_at hl 5 rfl) ?_
                obtain ⟨σ_30, eσ_30, hf⟩ := gx_lte hf
                refine gx_put G hI hA cl_Jb (gx_ci_j hg_29) 3 (by decide) (gx_rf_j hg_29 3) fl_Bo_60 rfl rfl rfl eσ_30 d_Bo_submit_91 (fun H locs hI => ?_)
                refine lv_aload hx hb d_Bo_submit_94 (lv_at hl 0 rfl) ?_
                refine lv_iload hx hb d_Bo_submit_96 (lv_at hl 6 rfl) ?_
                obtain ⟨σ_31, eσ_31, hf⟩ := gx_lte hf
                refine gx_put G hI hA cl_Jb (gx_ci_j hg_29) 4 (by decide) (gx_rf_j hg_29 4) fl_Bo_65 rfl rfl rfl eσ_31 d_Bo_submit_98 (fun H locs hI => ?_)
                refine lv_aload hx hb d_Bo_submit_101 (lv_at hl 0 rfl) ?_
                refine lv_aload_n hx hb d_Bo_submit_103 rfl (lv_at hl 1 rfl) ?_
                refine gx_getI G hI cl_Bo (by decide) 5 (by decide) (by decide) fl_Bo_38 d_Bo_submit_104 ?_
                obtain ⟨σ_32, eσ_32, hf⟩ := gx_lte hf
                refine gx_put G hI hA cl_Jb (gx_ci_j hg_29) 5 (by decide) (gx_rf_j hg_29 5) fl_Bo_68 rfl rfl rfl eσ_32 d_Bo_submit_107 (fun H locs hI => ?_)
                refine lv_aload_n hx hb d_Bo_submit_110 rfl (lv_at hl 1 rfl) ?_
                refine lv_iconst (v := (-1)) hx hb d_Bo_submit_111 (by decide) ?_
                obtain ⟨σ_33, eσ_33, hf⟩ := gx_lte hf
                refine gx_put G hI hA cl_Bo (by decide) 5 (by decide) (by decide) fl_Bo_38 rfl rfl rfl eσ_33 d_Bo_submit_112 (fun H locs hI => ?_)
                refine lv_iload_n hx hb d_Bo_submit_115 rfl (lv_at hl 4 rfl) ?_
                refine lv_if_ne (tgt := 132) hx hb d_Bo_submit_116 (by decide) (fun c_34 => ?_) (fun c_34 => ?_)
                · replace hf := (if_neg c_34).symm.trans hf
                  refine lv_aload hx hb d_Bo_submit_132 (lv_at hl 0 rfl) ?_
                  refine lv_iconst (v := 0) hx hb d_Bo_submit_134 (by decide) ?_
                  refine lv_aload_n hx hb d_Bo_submit_135 rfl (lv_at hl 1 rfl) ?_
                  refine gx_getI G hI cl_Bo (by decide) 4 (by decide) (by decide) fl_Bo_34 d_Bo_submit_136 ?_
                  refine lv_iload_n hx hb d_Bo_submit_139 rfl (lv_at hl 4 rfl) ?_
                  refine lv_iadd hx hb d_Bo_submit_140 ?_
                  obtain ⟨σ_35, hc_36, hf⟩ := gx_bve hf
                  refine gx_go (va_runV (As := [.int ((0 : Int32)), .int ((σ_33 0 4) + p2)]) (rest := []) G.1 (ct_Jb_waitUntil l D dA adr A hA N o_28 ((0 : Int32)) ((σ_33 0 4) + p2) σ_33 σ_35 hc_36) (cwV 2 ht gi_Bo_75 rfl rfl rfl (by decide +kernel) ⟨Nat.le_of_ble_eq_true rfl, Nat.le_of_ble_eq_true rfl⟩) (gx_preV G hI cl_Jb (gx_ci_j hg_29)) rfl rfl hl.1 rfl (lv_room (Nat.le_of_ble_eq_true rfl)) d_Bo_submit_141 ⟨Nat.zero_le _, Nat.zero_le _⟩) hI (st1 := []) rfl (fun H locs hI => ?_)
                  refine lv_aload_n hx hb d_Bo_submit_144 rfl (lv_at hl 1 rfl) ?_
                  refine gx_getR (o' := 6) G hI cl_Bo (by decide) 3 (by decide) (by decide) fl_Bo_30 d_Bo_submit_145 ?_
                  refine lv_aload_n hx hb d_Bo_submit_148 rfl (lv_at hl 1 rfl) ?_
                  refine gx_getR (o' := 24) G hI cl_Bo (by decide) 2 (by decide) (by decide) fl_Bo_23 d_Bo_submit_149 ?_
                  obtain ⟨σ_37, hc_38, hf⟩ := gx_bve hf
                  refine gx_go (va_runV (As := [.ref (adr 24)]) (rest := []) G.1 (ct_Jn_write l D dA adr A hA N 24 σ_35 σ_37 hc_38) (cwV 1 ht gi_Bo_79 rfl rfl rfl (by decide +kernel) ⟨Nat.le_of_ble_eq_true rfl, Nat.le_of_ble_eq_true rfl⟩) (gx_preV G hI cl_Jn (by decide)) rfl rfl hl.1 rfl (lv_room (Nat.le_of_ble_eq_true rfl)) d_Bo_submit_152 ⟨Nat.zero_le _, Nat.zero_le _⟩) hI (st1 := []) rfl (fun H locs hI => ?_)
                  refine lv_aload hx hb d_Bo_submit_155 (lv_at hl 0 rfl) ?_
                  refine gx_getI G hI cl_Jb (gx_ci_j hg_29) 0 (by decide) (gx_rf_j hg_29 0) fl_Bo_83 d_Bo_submit_157 ?_
                  cases hf
                  exact W.iret hx hb hr (gx_F hI) hI.2.2.2 d_Bo_submit_160
                · replace hf := (if_pos c_34).symm.trans hf
                  refine lv_aload_n hx hb d_Bo_submit_119 rfl (lv_at hl 1 rfl) ?_
                  refine gx_getR (o' := 24) G hI cl_Bo (by decide) 2 (by decide) (by decide) fl_Bo_23 d_Bo_submit_120 ?_
                  refine lv_aload hx hb d_Bo_submit_123 (lv_at hl 0 rfl) ?_
                  refine lv_iconst (v := 1) hx hb d_Bo_submit_125 (by decide) ?_
                  obtain ⟨σ_39, hc_40, hf⟩ := gx_bve hf
                  refine gx_go (va_runV (As := [.ref (adr o_28), .int ((1 : Int32))]) (rest := []) G.1 (ct_Ro_enter l D dA adr A hA N 24 o_28 ((1 : Int32)) σ_33 σ_39 hc_40) (cwV 2 ht gi_Bo_71 rfl rfl rfl (by decide +kernel) ⟨Nat.le_of_ble_eq_true rfl, Nat.le_of_ble_eq_true rfl⟩) (gx_preV G hI cl_Ro (gx_ci_r (by decide))) rfl rfl hl.1 rfl (lv_room (Nat.le_of_ble_eq_true rfl)) d_Bo_submit_126 ⟨Nat.zero_le _, Nat.zero_le _⟩) hI (st1 := []) rfl (fun H locs hI => ?_)
                  refine lv_goto (tgt := 144) hx hb d_Bo_submit_129 (by decide) ?_
                  refine lv_aload_n hx hb d_Bo_submit_144 rfl (lv_at hl 1 rfl) ?_
                  refine gx_getR (o' := 6) G hI cl_Bo (by decide) 3 (by decide) (by decide) fl_Bo_30 d_Bo_submit_145 ?_
                  refine lv_aload_n hx hb d_Bo_submit_148 rfl (lv_at hl 1 rfl) ?_
                  refine gx_getR (o' := 24) G hI cl_Bo (by decide) 2 (by decide) (by decide) fl_Bo_23 d_Bo_submit_149 ?_
                  obtain ⟨σ_41, hc_42, hf⟩ := gx_bve hf
                  refine gx_go (va_runV (As := [.ref (adr 24)]) (rest := []) G.1 (ct_Jn_write l D dA adr A hA N 24 σ_39 σ_41 hc_42) (cwV 1 ht gi_Bo_79 rfl rfl rfl (by decide +kernel) ⟨Nat.le_of_ble_eq_true rfl, Nat.le_of_ble_eq_true rfl⟩) (gx_preV G hI cl_Jn (by decide)) rfl rfl hl.1 rfl (lv_room (Nat.le_of_ble_eq_true rfl)) d_Bo_submit_152 ⟨Nat.zero_le _, Nat.zero_le _⟩) hI (st1 := []) rfl (fun H locs hI => ?_)
                  refine lv_aload hx hb d_Bo_submit_155 (lv_at hl 0 rfl) ?_
                  refine gx_getI G hI cl_Jb (gx_ci_j hg_29) 0 (by decide) (gx_rf_j hg_29 0) fl_Bo_83 d_Bo_submit_157 ?_
                  cases hf
                  exact W.iret hx hb hr (gx_F hI) hI.2.2.2 d_Bo_submit_160
            · replace hf := (if_neg c_24).symm.trans hf
              refine lv_bipush (v := (-3)) hx hb d_Bo_submit_65 (by decide) ?_
              cases hf
              exact W.iret hx hb hr (gx_F hI) hI.2.2.2 d_Bo_submit_67
          · replace hf := (if_pos c_20).symm.trans hf
            refine lv_iconst (v := (-1)) hx hb d_Bo_submit_49 (by decide) ?_
            cases hf
            exact W.iret hx hb hr (gx_F hI) hI.2.2.2 d_Bo_submit_50
def fn_Bo_hold (N : Nat) (p0 : Int32) (p1 : Int32) (σ : gx_M) : Option (Int32 × gx_M) := gx_bd (fn_Bo_isQueue N p0 σ) (fun r_3 σ_1 => if r_3 = 0 then (some ((-1 : Int32), σ_1)) else (gx_bd (fn_Bo_within N p1 ((0 : Int32)) ((9 : Int32)) σ_1) (fun r_7 σ_5 => if r_7 = 0 then (some ((-1 : Int32), σ_5)) else (gx_bd (fn_Ro_make N 24 p0 p1 σ_5) (fun x_11 σ_9 => gx_mt x_11 (some ((-2 : Int32), σ_9)) (fun o_12 => if 42 ≤ o_12 ∧ o_12 < 722 then (gx_bv (fn_Jn_write N 24 σ_9) (fun σ_14 => some (σ_14 o_12 0, σ_14))) else none))))))
set_option maxHeartbeats 4000000 in
set_option maxRecDepth 100000 in
theorem ct_Bo_hold (l : Launch) (D : va_G) (dA : Nat → ClassId) (adr : Nat → Nat) (A : Nat → Prop) (hA : gx_A A adr) (N : Nat) (p0 : Int32) (p1 : Int32) (σ : gx_M) (r : Int32) (σ' : gx_M) (hf : fn_Bo_hold N p0 p1 σ = some (r, σ')) : Met l y_Bo_hold w_Bo_hold rm_Bo_hold (gx_Pc D dA adr σ [.ref (adr 0), .int p0, .int p1]) (gx_Q D dA adr A (some (.int r)) σ') 0 0 A := by
  refine Met.ofW (cc := b_Bo_hold) (maxL := 4) (ret := some .int) (by decide) rfl ?_
  intro p e s m args below meth c s₁ B hml hv
  obtain ⟨rfl, hP, hK⟩ := hv
  have hx := B.exec
  have hb := B.bytes
  have hr := B.returns
  have hlocks := B.notSynchronized
  have ht : ∀ w ∈ gx_tb, w.before _ s = true := fun w h => atoms_spec (ws := w_Bo_hold) B.pre w (List.mem_cons_of_mem _ h)
  have hown : s.vm.findClass R_Bo = some m.cls := findClass_of_methodNamed B.named
  have G : gx_G p m c b_Bo_hold 4 s _ gx_tb R_Bo D dA := ⟨⟨hx, hb, hml, hown, ht⟩, hK⟩
  have hI : gx_I D dA adr A s.heap σ s.heap [] := ⟨hP, va_S.rf⟩
  have hl := lv_entry ([.ref (adr 0), .int p0, .int p1]) (n := 4) (Nat.le_of_ble_eq_true rfl)
  rw [lg_entry_eq]
  generalize (lg_sl ([.ref (adr 0), .int p0, .int p1]) ++ List.replicate (4 - (lg_sl ([.ref (adr 0), .int p0, .int p1])).length) Slot.unset).toArray = ls at hl ⊢
  have hl : lv_has ls 4 [(0, .ref (adr 0)), (1, .int p0), (2, .int p1)] := hl
  rw [fn_Bo_hold] at hf
  refine lv_iload_n hx hb d_Bo_hold_0 rfl (lv_at hl 1 rfl) ?_
  obtain ⟨r_3, σ_1, hc_2, hf⟩ := gx_bde hf
  refine gx_go (va_runS (As := [.int p0]) (rest := []) G.1 (ct_Bo_isQueue l D dA adr A hA N p0 σ r_3 σ_1 hc_2) (cwS 1 ht gi_Bo_41 rfl rfl rfl (by decide +kernel) ⟨Nat.le_of_ble_eq_true rfl, Nat.le_of_ble_eq_true rfl⟩) (gx_pre G hI) rfl rfl hl.1 rfl (lv_room (Nat.le_of_ble_eq_true rfl)) d_Bo_hold_1 ⟨Nat.zero_le _, Nat.zero_le _⟩) hI (st1 := [.int r_3]) rfl (fun H locs hI => ?_)
  refine lv_if_eq (tgt := 17) hx hb d_Bo_hold_4 (by decide) (fun c_4 => ?_) (fun c_4 => ?_)
  · replace hf := (if_pos c_4).symm.trans hf
    refine lv_iconst (v := (-1)) hx hb d_Bo_hold_17 (by decide) ?_
    cases hf
    exact W.iret hx hb hr (gx_F hI) hI.2.2.2 d_Bo_hold_18
  · replace hf := (if_neg c_4).symm.trans hf
    refine lv_iload_n hx hb d_Bo_hold_7 rfl (lv_at hl 2 rfl) ?_
    refine lv_iconst (v := 0) hx hb d_Bo_hold_8 (by decide) ?_
    refine lv_bipush (v := 9) hx hb d_Bo_hold_9 (by decide) ?_
    obtain ⟨r_7, σ_5, hc_6, hf⟩ := gx_bde hf
    refine gx_go (va_runS (As := [.int p1, .int ((0 : Int32)), .int ((9 : Int32))]) (rest := []) G.1 (ct_Bo_within l D dA adr A hA N p1 ((0 : Int32)) ((9 : Int32)) σ_1 r_7 σ_5 hc_6) (cwS 3 ht gi_Bo_45 rfl rfl rfl (by decide +kernel) ⟨Nat.le_of_ble_eq_true rfl, Nat.le_of_ble_eq_true rfl⟩) (gx_pre G hI) rfl rfl hl.1 rfl (lv_room (Nat.le_of_ble_eq_true rfl)) d_Bo_hold_11 ⟨Nat.zero_le _, Nat.zero_le _⟩) hI (st1 := [.int r_7]) rfl (fun H locs hI => ?_)
    refine lv_if_ne (tgt := 19) hx hb d_Bo_hold_14 (by decide) (fun c_8 => ?_) (fun c_8 => ?_)
    · replace hf := (if_neg c_8).symm.trans hf
      refine lv_aload_n hx hb d_Bo_hold_19 rfl (lv_at hl 0 rfl) ?_
      refine gx_getR (o' := 24) G hI cl_Bo (by decide) 2 (by decide) (by decide) fl_Bo_23 d_Bo_hold_20 ?_
      refine lv_iload_n hx hb d_Bo_hold_23 rfl (lv_at hl 1 rfl) ?_
      refine lv_iload_n hx hb d_Bo_hold_24 rfl (lv_at hl 2 rfl) ?_
      obtain ⟨x_11, σ_9, hc_10, hf⟩ := gx_bde hf
      rcases x_11 with _ | o_12
      · replace hf := gx_mtn hf
        refine gx_go (va_runV (As := [.int p0, .int p1]) (rest := []) G.1 (ct_Ro_make l D dA adr A hA N 24 p0 p1 σ_5 none σ_9 hc_10) (cwV 2 ht gi_Bo_56 rfl rfl rfl (by decide +kernel) ⟨Nat.le_of_ble_eq_true rfl, Nat.le_of_ble_eq_true rfl⟩) (gx_preV G hI cl_Ro (gx_ci_r (by decide))) rfl rfl hl.1 rfl (lv_room (Nat.le_of_ble_eq_true rfl)) d_Bo_hold_25 ⟨Nat.zero_le _, Nat.zero_le _⟩) hI (st1 := [.null]) rfl (fun H locs hI => ?_)
        refine lv_astore_nN (i := 3) (lv' := [(3, .null), (0, .ref (adr 0)), (1, .int p0), (2, .int p1)]) hx hb d_Bo_hold_28 rfl hl (by decide) rfl (fun ls hl => ?_)
        refine lv_aload_nN hx hb d_Bo_hold_29 rfl (lv_at hl 0 rfl) ?_
        refine lv_ifnonnullN hx hb d_Bo_hold_30 ?_
        refine lv_bipush (v := (-2)) hx hb d_Bo_hold_33 (by decide) ?_
        cases hf
        exact W.iret hx hb hr (gx_F hI) hI.2.2.2 d_Bo_hold_35
      · replace hf := gx_mts hf
        obtain ⟨hg_13, hf⟩ := gx_gd hf
        refine gx_go (va_runV (As := [.int p0, .int p1]) (rest := []) G.1 (ct_Ro_make l D dA adr A hA N 24 p0 p1 σ_5 (some o_12) σ_9 hc_10) (cwV 2 ht gi_Bo_56 rfl rfl rfl (by decide +kernel) ⟨Nat.le_of_ble_eq_true rfl, Nat.le_of_ble_eq_true rfl⟩) (gx_preV G hI cl_Ro (gx_ci_r (by decide))) rfl rfl hl.1 rfl (lv_room (Nat.le_of_ble_eq_true rfl)) d_Bo_hold_25 ⟨Nat.zero_le _, Nat.zero_le _⟩) hI (st1 := [.ref (adr o_12)]) rfl (fun H locs hI => ?_)
        refine lv_astore_n (i := 3) (lv' := [(3, .ref (adr o_12)), (0, .ref (adr 0)), (1, .int p0), (2, .int p1)]) hx hb d_Bo_hold_28 rfl hl (by decide) rfl (fun ls hl => ?_)
        refine lv_aload_n hx hb d_Bo_hold_29 rfl (lv_at hl 0 rfl) ?_
        refine lv_ifnonnull (tgt := 36) hx hb d_Bo_hold_30 (by decide) ?_
        refine lv_aload_n hx hb d_Bo_hold_36 rfl (lv_at hl 1 rfl) ?_
        refine gx_getR (o' := 6) G hI cl_Bo (by decide) 3 (by decide) (by decide) fl_Bo_30 d_Bo_hold_37 ?_
        refine lv_aload_n hx hb d_Bo_hold_40 rfl (lv_at hl 1 rfl) ?_
        refine gx_getR (o' := 24) G hI cl_Bo (by decide) 2 (by decide) (by decide) fl_Bo_23 d_Bo_hold_41 ?_
        obtain ⟨σ_14, hc_15, hf⟩ := gx_bve hf
        refine gx_go (va_runV (As := [.ref (adr 24)]) (rest := []) G.1 (ct_Jn_write l D dA adr A hA N 24 σ_9 σ_14 hc_15) (cwV 1 ht gi_Bo_79 rfl rfl rfl (by decide +kernel) ⟨Nat.le_of_ble_eq_true rfl, Nat.le_of_ble_eq_true rfl⟩) (gx_preV G hI cl_Jn (by decide)) rfl rfl hl.1 rfl (lv_room (Nat.le_of_ble_eq_true rfl)) d_Bo_hold_44 ⟨Nat.zero_le _, Nat.zero_le _⟩) hI (st1 := []) rfl (fun H locs hI => ?_)
        refine lv_aload_n hx hb d_Bo_hold_47 rfl (lv_at hl 0 rfl) ?_
        refine gx_getI G hI cl_Jb (gx_ci_j hg_13) 0 (by decide) (gx_rf_j hg_13 0) fl_Bo_83 d_Bo_hold_48 ?_
        cases hf
        exact W.iret hx hb hr (gx_F hI) hI.2.2.2 d_Bo_hold_51
    · replace hf := (if_pos c_8).symm.trans hf
      refine lv_iconst (v := (-1)) hx hb d_Bo_hold_17 (by decide) ?_
      cases hf
      exact W.iret hx hb hr (gx_F hI) hI.2.2.2 d_Bo_hold_18
def fn_Bo_join (N : Nat) (p0 : Int32) (p1 : Int32) (σ : gx_M) : Option (Int32 × gx_M) := gx_bd (fn_Ro_find N 24 p0 σ) (fun x_3 σ_1 => gx_mt x_3 (gx_bd (fn_Ro_find N 24 p1 σ_1) (fun x_8 σ_6 => gx_mt x_8 (some ((-1 : Int32), σ_6)) (fun o_9 => if 42 ≤ o_9 ∧ o_9 < 722 then (some ((-1 : Int32), σ_6)) else none))) (fun o_4 => if 42 ≤ o_4 ∧ o_4 < 722 then (gx_bd (fn_Ro_find N 24 p1 σ_1) (fun x_13 σ_11 => gx_mt x_13 (some ((-1 : Int32), σ_11)) (fun o_14 => if 42 ≤ o_14 ∧ o_14 < 722 then (if p0 = p1 then (some ((-1 : Int32), σ_11)) else (gx_bd (fn_Jb_isLive N o_4 σ_11) (fun r_19 σ_17 => if r_19 = 0 then (some ((-1 : Int32), σ_17)) else (if (σ_17 o_4 7) = ((-1 : Int32)) then (if (σ_17 o_14 10) = ((6 : Int32)) then (gx_lt (gx_up σ_17 o_4 7 p1) (fun σ_23 => gx_lt (gx_up σ_23 o_14 8 ((σ_23 o_14 8) + ((1 : Int32)))) (fun σ_24 => gx_bv (fn_Jn_write N 24 σ_24) (fun σ_25 => some ((0 : Int32), σ_25))))) else (some ((-1 : Int32), σ_17))) else (some ((-1 : Int32), σ_17)))))) else none))) else none))
set_option maxHeartbeats 4000000 in
set_option maxRecDepth 100000 in
theorem ct_Bo_join (l : Launch) (D : va_G) (dA : Nat → ClassId) (adr : Nat → Nat) (A : Nat → Prop) (hA : gx_A A adr) (N : Nat) (p0 : Int32) (p1 : Int32) (σ : gx_M) (r : Int32) (σ' : gx_M) (hf : fn_Bo_join N p0 p1 σ = some (r, σ')) : Met l y_Bo_join w_Bo_join rm_Bo_join (gx_Pc D dA adr σ [.ref (adr 0), .int p0, .int p1]) (gx_Q D dA adr A (some (.int r)) σ') 0 0 A := by
  refine Met.ofW (cc := b_Bo_join) (maxL := 5) (ret := some .int) (by decide) rfl ?_
  intro p e s m args below meth c s₁ B hml hv
  obtain ⟨rfl, hP, hK⟩ := hv
  have hx := B.exec
  have hb := B.bytes
  have hr := B.returns
  have hlocks := B.notSynchronized
  have ht : ∀ w ∈ gx_tb, w.before _ s = true := fun w h => atoms_spec (ws := w_Bo_join) B.pre w (List.mem_cons_of_mem _ h)
  have hown : s.vm.findClass R_Bo = some m.cls := findClass_of_methodNamed B.named
  have G : gx_G p m c b_Bo_join 5 s _ gx_tb R_Bo D dA := ⟨⟨hx, hb, hml, hown, ht⟩, hK⟩
  have hI : gx_I D dA adr A s.heap σ s.heap [] := ⟨hP, va_S.rf⟩
  have hl := lv_entry ([.ref (adr 0), .int p0, .int p1]) (n := 5) (Nat.le_of_ble_eq_true rfl)
  rw [lg_entry_eq]
  generalize (lg_sl ([.ref (adr 0), .int p0, .int p1]) ++ List.replicate (5 - (lg_sl ([.ref (adr 0), .int p0, .int p1])).length) Slot.unset).toArray = ls at hl ⊢
  have hl : lv_has ls 5 [(0, .ref (adr 0)), (1, .int p0), (2, .int p1)] := hl
  rw [fn_Bo_join] at hf
  refine lv_aload_n hx hb d_Bo_join_0 rfl (lv_at hl 0 rfl) ?_
  refine gx_getR (o' := 24) G hI cl_Bo (by decide) 2 (by decide) (by decide) fl_Bo_23 d_Bo_join_1 ?_
  refine lv_iload_n hx hb d_Bo_join_4 rfl (lv_at hl 1 rfl) ?_
  obtain ⟨x_3, σ_1, hc_2, hf⟩ := gx_bde hf
  rcases x_3 with _ | o_4
  · replace hf := gx_mtn hf
    refine gx_go (va_runV (As := [.int p0]) (rest := []) G.1 (ct_Ro_find l D dA adr A hA N 24 p0 σ none σ_1 hc_2) (cwV 1 ht gi_Bo_86 rfl rfl rfl (by decide +kernel) ⟨Nat.le_of_ble_eq_true rfl, Nat.le_of_ble_eq_true rfl⟩) (gx_preV G hI cl_Ro (gx_ci_r (by decide))) rfl rfl hl.1 rfl (lv_room (Nat.le_of_ble_eq_true rfl)) d_Bo_join_5 ⟨Nat.zero_le _, Nat.zero_le _⟩) hI (st1 := [.null]) rfl (fun H locs hI => ?_)
    refine lv_astore_nN (i := 3) (lv' := [(3, .null), (0, .ref (adr 0)), (1, .int p0), (2, .int p1)]) hx hb d_Bo_join_8 rfl hl (by decide) rfl (fun ls hl => ?_)
    refine lv_aload_n hx hb d_Bo_join_9 rfl (lv_at hl 1 rfl) ?_
    refine gx_getR (o' := 24) G hI cl_Bo (by decide) 2 (by decide) (by decide) fl_Bo_23 d_Bo_join_10 ?_
    refine lv_iload_n hx hb d_Bo_join_13 rfl (lv_at hl 3 rfl) ?_
    obtain ⟨x_8, σ_6, hc_7, hf⟩ := gx_bde hf
    rcases x_8 with _ | o_9
    · replace hf := gx_mtn hf
      refine gx_go (va_runV (As := [.int p1]) (rest := []) G.1 (ct_Ro_find l D dA adr A hA N 24 p1 σ_1 none σ_6 hc_7) (cwV 1 ht gi_Bo_86 rfl rfl rfl (by decide +kernel) ⟨Nat.le_of_ble_eq_true rfl, Nat.le_of_ble_eq_true rfl⟩) (gx_preV G hI cl_Ro (gx_ci_r (by decide))) rfl rfl hl.1 rfl (lv_room (Nat.le_of_ble_eq_true rfl)) d_Bo_join_14 ⟨Nat.zero_le _, Nat.zero_le _⟩) hI (st1 := [.null]) rfl (fun H locs hI => ?_)
      refine lv_astoreN (i := 4) (lv' := [(4, .null), (3, .null), (0, .ref (adr 0)), (1, .int p0), (2, .int p1)]) hx hb d_Bo_join_17 hl (by decide) rfl (fun ls hl => ?_)
      refine lv_aload_nN hx hb d_Bo_join_19 rfl (lv_at hl 1 rfl) ?_
      refine lv_ifnullN (tgt := 33) hx hb d_Bo_join_20 (by decide) ?_
      refine lv_iconst (v := (-1)) hx hb d_Bo_join_33 (by decide) ?_
      cases hf
      exact W.iret hx hb hr (gx_F hI) hI.2.2.2 d_Bo_join_34
    · replace hf := gx_mts hf
      obtain ⟨hg_10, hf⟩ := gx_gd hf
      refine gx_go (va_runV (As := [.int p1]) (rest := []) G.1 (ct_Ro_find l D dA adr A hA N 24 p1 σ_1 (some o_9) σ_6 hc_7) (cwV 1 ht gi_Bo_86 rfl rfl rfl (by decide +kernel) ⟨Nat.le_of_ble_eq_true rfl, Nat.le_of_ble_eq_true rfl⟩) (gx_preV G hI cl_Ro (gx_ci_r (by decide))) rfl rfl hl.1 rfl (lv_room (Nat.le_of_ble_eq_true rfl)) d_Bo_join_14 ⟨Nat.zero_le _, Nat.zero_le _⟩) hI (st1 := [.ref (adr o_9)]) rfl (fun H locs hI => ?_)
      refine lv_astore (i := 4) (lv' := [(4, .ref (adr o_9)), (3, .null), (0, .ref (adr 0)), (1, .int p0), (2, .int p1)]) hx hb d_Bo_join_17 hl (by decide) rfl (fun ls hl => ?_)
      refine lv_aload_nN hx hb d_Bo_join_19 rfl (lv_at hl 1 rfl) ?_
      refine lv_ifnullN (tgt := 33) hx hb d_Bo_join_20 (by decide) ?_
      refine lv_iconst (v := (-1)) hx hb d_Bo_join_33 (by decide) ?_
      cases hf
      exact W.iret hx hb hr (gx_F hI) hI.2.2.2 d_Bo_join_34
  · replace hf := gx_mts hf
    obtain ⟨hg_5, hf⟩ := gx_gd hf
    refine gx_go (va_runV (As := [.int p0]) (rest := []) G.1 (ct_Ro_find l D dA adr A hA N 24 p0 σ (some o_4) σ_1 hc_2) (cwV 1 ht gi_Bo_86 rfl rfl rfl (by decide +kernel) ⟨Nat.le_of_ble_eq_true rfl, Nat.le_of_ble_eq_true rfl⟩) (gx_preV G hI cl_Ro (gx_ci_r (by decide))) rfl rfl hl.1 rfl (lv_room (Nat.le_of_ble_eq_true rfl)) d_Bo_join_5 ⟨Nat.zero_le _, Nat.zero_le _⟩) hI (st1 := [.ref (adr o_4)]) rfl (fun H locs hI => ?_)
    refine lv_astore_n (i := 3) (lv' := [(3, .ref (adr o_4)), (0, .ref (adr 0)), (1, .int p0), (2, .int p1)]) hx hb d_Bo_join_8 rfl hl (by decide) rfl (fun ls hl => ?_)
    refine lv_aload_n hx hb d_Bo_join_9 rfl (lv_at hl 1 rfl) ?_
    refine gx_getR (o' := 24) G hI cl_Bo (by decide) 2 (by decide) (by decide) fl_Bo_23 d_Bo_join_10 ?_
    refine lv_iload_n hx hb d_Bo_join_13 rfl (lv_at hl 3 rfl) ?_
    obtain ⟨x_13, σ_11, hc_12, hf⟩ := gx_bde hf
    rcases x_13 with _ | o_14
    · replace hf := gx_mtn hf
      refine gx_go (va_runV (As := [.int p1]) (rest := []) G.1 (ct_Ro_find l D dA adr A hA N 24 p1 σ_1 none σ_11 hc_12) (cwV 1 ht gi_Bo_86 rfl rfl rfl (by decide +kernel) ⟨Nat.le_of_ble_eq_true rfl, Nat.le_of_ble_eq_true rfl⟩) (gx_preV G hI cl_Ro (gx_ci_r (by decide))) rfl rfl hl.1 rfl (lv_room (Nat.le_of_ble_eq_true rfl)) d_Bo_join_14 ⟨Nat.zero_le _, Nat.zero_le _⟩) hI (st1 := [.null]) rfl (fun H locs hI => ?_)
      refine lv_astoreN (i := 4) (lv' := [(4, .null), (3, .ref (adr o_4)), (0, .ref (adr 0)), (1, .int p0), (2, .int p1)]) hx hb d_Bo_join_17 hl (by decide) rfl (fun ls hl => ?_)
      refine lv_aload_n hx hb d_Bo_join_19 rfl (lv_at hl 1 rfl) ?_
      refine lv_ifnull hx hb d_Bo_join_20 ?_
      refine lv_aloadN hx hb d_Bo_join_23 (lv_at hl 0 rfl) ?_
      refine lv_ifnullN (tgt := 33) hx hb d_Bo_join_25 (by decide) ?_
      refine lv_iconst (v := (-1)) hx hb d_Bo_join_33 (by decide) ?_
      cases hf
      exact W.iret hx hb hr (gx_F hI) hI.2.2.2 d_Bo_join_34
    · replace hf := gx_mts hf
      obtain ⟨hg_15, hf⟩ := gx_gd hf
      refine gx_go (va_runV (As := [.int p1]) (rest := []) G.1 (ct_Ro_find l D dA adr A hA N 24 p1 σ_1 (some o_14) σ_11 hc_12) (cwV 1 ht gi_Bo_86 rfl rfl rfl (by decide +kernel) ⟨Nat.le_of_ble_eq_true rfl, Nat.le_of_ble_eq_true rfl⟩) (gx_preV G hI cl_Ro (gx_ci_r (by decide))) rfl rfl hl.1 rfl (lv_room (Nat.le_of_ble_eq_true rfl)) d_Bo_join_14 ⟨Nat.zero_le _, Nat.zero_le _⟩) hI (st1 := [.ref (adr o_14)]) rfl (fun H locs hI => ?_)
      refine lv_astore (i := 4) (lv' := [(4, .ref (adr o_14)), (3, .ref (adr o_4)), (0, .ref (adr 0)), (1, .int p0), (2, .int p1)]) hx hb d_Bo_join_17 hl (by decide) rfl (fun ls hl => ?_)
      refine lv_aload_n hx hb d_Bo_join_19 rfl (lv_at hl 1 rfl) ?_
      refine lv_ifnull hx hb d_Bo_join_20 ?_
      refine lv_aload hx hb d_Bo_join_23 (lv_at hl 0 rfl) ?_
      refine lv_ifnull hx hb d_Bo_join_25 ?_
      refine lv_iload_n hx hb d_Bo_join_28 rfl (lv_at hl 3 rfl) ?_
      refine lv_iload_n hx hb d_Bo_join_29 rfl (lv_at hl 4 rfl) ?_
      refine lv_icmp_ne (tgt := 35) hx hb d_Bo_join_30 (by decide) (fun c_16 => ?_) (fun c_16 => ?_)
      · replace hf := (if_neg c_16).symm.trans hf
        refine lv_aload_n hx hb d_Bo_join_35 rfl (lv_at hl 1 rfl) ?_
        obtain ⟨r_19, σ_17, hc_18, hf⟩ := gx_bde hf
        refine gx_go (va_runV (As := []) (rest := []) G.1 (ct_Jb_isLive l D dA adr A hA N o_4 σ_11 r_19 σ_17 hc_18) (cwV 0 ht gi_Bo_90 rfl rfl rfl (by decide +kernel) ⟨Nat.le_of_ble_eq_true rfl, Nat.le_of_ble_eq_true rfl⟩) (gx_preV G hI cl_Jb (gx_ci_j hg_5)) rfl rfl hl.1 rfl (lv_room (Nat.le_of_ble_eq_true rfl)) d_Bo_join_36 ⟨Nat.zero_le _, Nat.zero_le _⟩) hI (st1 := [.int r_19]) rfl (fun H locs hI => ?_)
        refine lv_if_eq (tgt := 60) hx hb d_Bo_join_39 (by decide) (fun c_20 => ?_) (fun c_20 => ?_)
        · replace hf := (if_pos c_20).symm.trans hf
          refine lv_iconst (v := (-1)) hx hb d_Bo_join_60 (by decide) ?_
          cases hf
          exact W.iret hx hb hr (gx_F hI) hI.2.2.2 d_Bo_join_61
        · replace hf := (if_neg c_20).symm.trans hf
          refine lv_aload_n hx hb d_Bo_join_42 rfl (lv_at hl 1 rfl) ?_
          refine gx_getI G hI cl_Jb (gx_ci_j hg_5) 7 (by decide) (gx_rf_j hg_5 7) fl_Bo_94 d_Bo_join_43 ?_
          refine lv_iconst (v := (-1)) hx hb d_Bo_join_46 (by decide) ?_
          refine lv_icmp_ne (tgt := 60) hx hb d_Bo_join_47 (by decide) (fun c_21 => ?_) (fun c_21 => ?_)
          · replace hf := (if_neg c_21).symm.trans hf
            refine lv_iconst (v := (-1)) hx hb d_Bo_join_60 (by decide) ?_
            cases hf
            exact W.iret hx hb hr (gx_F hI) hI.2.2.2 d_Bo_join_61
          · replace hf := (if_pos c_21).symm.trans hf
            refine lv_aload hx hb d_Bo_join_50 (lv_at hl 0 rfl) ?_
            refine gx_getI G hI cl_Jb (gx_ci_j hg_15) 10 (by decide) (gx_rf_j hg_15 10) fl_Bo_97 d_Bo_join_52 ?_
            refine lv_bipush (v := 6) hx hb d_Bo_join_55 (by decide) ?_
            refine lv_icmp_eq (tgt := 62) hx hb d_Bo_join_57 (by decide) (fun c_22 => ?_) (fun c_22 => ?_)
            · replace hf := (if_pos c_22).symm.trans hf
              refine lv_aload_n hx hb d_Bo_join_62 rfl (lv_at hl 1 rfl) ?_
              refine lv_iload_n hx hb d_Bo_join_63 rfl (lv_at hl 4 rfl) ?_
              obtain ⟨σ_23, eσ_23, hf⟩ := gx_lte hf
              refine gx_put G hI hA cl_Jb (gx_ci_j hg_5) 7 (by decide) (gx_rf_j hg_5 7) fl_Bo_94 rfl rfl rfl eσ_23 d_Bo_join_64 (fun H locs hI => ?_)
              refine lv_aload hx hb d_Bo_join_67 (lv_at hl 0 rfl) ?_
              refine lv_dup hx hb d_Bo_join_69 rfl ?_
              refine gx_getI G hI cl_Jb (gx_ci_j hg_15) 8 (by decide) (gx_rf_j hg_15 8) fl_Bo_100 d_Bo_join_70 ?_
              refine lv_iconst (v := 1) hx hb d_Bo_join_73 (by decide) ?_
              refine lv_iadd hx hb d_Bo_join_74 ?_
              obtain ⟨σ_24, eσ_24, hf⟩ := gx_lte hf
              refine gx_put G hI hA cl_Jb (gx_ci_j hg_15) 8 (by decide) (gx_rf_j hg_15 8) fl_Bo_100 rfl rfl rfl eσ_24 d_Bo_join_75 (fun H locs hI => ?_)
              refine lv_aload_n hx hb d_Bo_join_78 rfl (lv_at hl 2 rfl) ?_
              refine gx_getR (o' := 6) G hI cl_Bo (by decide) 3 (by decide) (by decide) fl_Bo_30 d_Bo_join_79 ?_
              refine lv_aload_n hx hb d_Bo_join_82 rfl (lv_at hl 2 rfl) ?_
              refine gx_getR (o' := 24) G hI cl_Bo (by decide) 2 (by decide) (by decide) fl_Bo_23 d_Bo_join_83 ?_
              obtain ⟨σ_25, hc_26, hf⟩ := gx_bve hf
              refine gx_go (va_runV (As := [.ref (adr 24)]) (rest := []) G.1 (ct_Jn_write l D dA adr A hA N 24 σ_24 σ_25 hc_26) (cwV 1 ht gi_Bo_79 rfl rfl rfl (by decide +kernel) ⟨Nat.le_of_ble_eq_true rfl, Nat.le_of_ble_eq_true rfl⟩) (gx_preV G hI cl_Jn (by decide)) rfl rfl hl.1 rfl (lv_room (Nat.le_of_ble_eq_true rfl)) d_Bo_join_86 ⟨Nat.zero_le _, Nat.zero_le _⟩) hI (st1 := []) rfl (fun H locs hI => ?_)
              refine lv_iconst (v := 0) hx hb d_Bo_join_89 (by decide) ?_
              cases hf
              exact W.iret hx hb hr (gx_F hI) hI.2.2.2 d_Bo_join_90
            · replace hf := (if_neg c_22).symm.trans hf
              refine lv_iconst (v := (-1)) hx hb d_Bo_join_60 (by decide) ?_
              cases hf
              exact W.iret hx hb hr (gx_F hI) hI.2.2.2 d_Bo_join_61
      · replace hf := (if_pos c_16).symm.trans hf
        refine lv_iconst (v := (-1)) hx hb d_Bo_join_33 (by decide) ?_
        cases hf
        exact W.iret hx hb hr (gx_F hI) hI.2.2.2 d_Bo_join_34
end
section
theorem d_Bo_seal_0 : decode b_Bo_seal 0 = .ok (.aload_n 0, 1) := by decide +kernel
theorem d_Bo_seal_1 : decode b_Bo_seal 1 = .ok (.getfield 23, 3) := by decide +kernel
theorem d_Bo_seal_4 : decode b_Bo_seal 4 = .ok (.iload_n 1, 1) := by decide +kernel
theorem d_Bo_seal_5 : decode b_Bo_seal 5 = .ok (.invokevirtual 86, 3) := by decide +kernel
theorem d_Bo_seal_8 : decode b_Bo_seal 8 = .ok (.astore_n 2, 1) := by decide +kernel
theorem d_Bo_seal_9 : decode b_Bo_seal 9 = .ok (.aload_n 2, 1) := by decide +kernel
theorem d_Bo_seal_10 : decode b_Bo_seal 10 = .ok (.ifnull 19, 3) := by decide +kernel
theorem d_Bo_seal_13 : decode b_Bo_seal 13 = .ok (.aload_n 2, 1) := by decide +kernel
theorem d_Bo_seal_14 : decode b_Bo_seal 14 = .ok (.getfield 97, 3) := by decide +kernel
theorem d_Bo_seal_17 : decode b_Bo_seal 17 = .ok (.bipush 6, 2) := by decide +kernel
theorem d_Bo_seal_19 : decode b_Bo_seal 19 = .ok (.if_icmp .ne 10, 3) := by decide +kernel
theorem d_Bo_seal_22 : decode b_Bo_seal 22 = .ok (.aload_n 2, 1) := by decide +kernel
theorem d_Bo_seal_23 : decode b_Bo_seal 23 = .ok (.getfield 103, 3) := by decide +kernel
theorem d_Bo_seal_26 : decode b_Bo_seal 26 = .ok (.ifCond .eq 5, 3) := by decide +kernel
theorem d_Bo_seal_29 : decode b_Bo_seal 29 = .ok (.iconst (-1), 1) := by decide +kernel
theorem d_Bo_seal_30 : decode b_Bo_seal 30 = .ok (.ireturn, 1) := by decide +kernel
theorem d_Bo_seal_31 : decode b_Bo_seal 31 = .ok (.aload_n 2, 1) := by decide +kernel
theorem d_Bo_seal_32 : decode b_Bo_seal 32 = .ok (.iconst 1, 1) := by decide +kernel
theorem d_Bo_seal_33 : decode b_Bo_seal 33 = .ok (.putfield 103, 3) := by decide +kernel
theorem d_Bo_seal_36 : decode b_Bo_seal 36 = .ok (.aload_n 0, 1) := by decide +kernel
theorem d_Bo_seal_37 : decode b_Bo_seal 37 = .ok (.getfield 23, 3) := by decide +kernel
theorem d_Bo_seal_40 : decode b_Bo_seal 40 = .ok (.aload_n 2, 1) := by decide +kernel
theorem d_Bo_seal_41 : decode b_Bo_seal 41 = .ok (.invokevirtual 106, 3) := by decide +kernel
theorem d_Bo_seal_44 : decode b_Bo_seal 44 = .ok (.aload_n 0, 1) := by decide +kernel
theorem d_Bo_seal_45 : decode b_Bo_seal 45 = .ok (.getfield 30, 3) := by decide +kernel
theorem d_Bo_seal_48 : decode b_Bo_seal 48 = .ok (.aload_n 0, 1) := by decide +kernel
theorem d_Bo_seal_49 : decode b_Bo_seal 49 = .ok (.getfield 23, 3) := by decide +kernel
theorem d_Bo_seal_52 : decode b_Bo_seal 52 = .ok (.invokevirtual 79, 3) := by decide +kernel
theorem d_Bo_seal_55 : decode b_Bo_seal 55 = .ok (.iconst 0, 1) := by decide +kernel
theorem d_Bo_seal_56 : decode b_Bo_seal 56 = .ok (.ireturn, 1) := by decide +kernel
theorem d_Bo_take_0 : decode b_Bo_take 0 = .ok (.iload_n 1, 1) := by decide +kernel
theorem d_Bo_take_1 : decode b_Bo_take 1 = .ok (.invokestatic 110, 3) := by decide +kernel
theorem d_Bo_take_4 : decode b_Bo_take 4 = .ok (.ifCond .eq 24, 3) := by decide +kernel
theorem d_Bo_take_7 : decode b_Bo_take 7 = .ok (.iload_n 2, 1) := by decide +kernel
theorem d_Bo_take_8 : decode b_Bo_take 8 = .ok (.iconst 1, 1) := by decide +kernel
theorem d_Bo_take_9 : decode b_Bo_take 9 = .ok (.bipush 100, 2) := by decide +kernel
theorem d_Bo_take_11 : decode b_Bo_take 11 = .ok (.invokestatic 45, 3) := by decide +kernel
theorem d_Bo_take_14 : decode b_Bo_take 14 = .ok (.ifCond .eq 14, 3) := by decide +kernel
theorem d_Bo_take_17 : decode b_Bo_take 17 = .ok (.aload_n 0, 1) := by decide +kernel
theorem d_Bo_take_18 : decode b_Bo_take 18 = .ok (.getfield 23, 3) := by decide +kernel
theorem d_Bo_take_21 : decode b_Bo_take 21 = .ok (.iload_n 1, 1) := by decide +kernel
theorem d_Bo_take_22 : decode b_Bo_take 22 = .ok (.invokevirtual 113, 3) := by decide +kernel
theorem d_Bo_take_25 : decode b_Bo_take 25 = .ok (.ifnull 5, 3) := by decide +kernel
theorem d_Bo_take_28 : decode b_Bo_take 28 = .ok (.iconst (-1), 1) := by decide +kernel
theorem d_Bo_take_29 : decode b_Bo_take 29 = .ok (.ireturn, 1) := by decide +kernel
theorem d_Bo_take_30 : decode b_Bo_take 30 = .ok (.aload_n 0, 1) := by decide +kernel
theorem d_Bo_take_31 : decode b_Bo_take 31 = .ok (.getfield 9, 3) := by decide +kernel
theorem d_Bo_take_34 : decode b_Bo_take 34 = .ok (.ifCond .eq 10, 3) := by decide +kernel
theorem d_Bo_take_37 : decode b_Bo_take 37 = .ok (.aload_n 0, 1) := by decide +kernel
theorem d_Bo_take_38 : decode b_Bo_take 38 = .ok (.invokevirtual 116, 3) := by decide +kernel
theorem d_Bo_take_41 : decode b_Bo_take 41 = .ok (.goto 7, 3) := by decide +kernel
theorem d_Bo_take_44 : decode b_Bo_take 44 = .ok (.aload_n 0, 1) := by decide +kernel
theorem d_Bo_take_45 : decode b_Bo_take 45 = .ok (.invokevirtual 120, 3) := by decide +kernel
theorem d_Bo_take_48 : decode b_Bo_take 48 = .ok (.istore_n 3, 1) := by decide +kernel
theorem d_Bo_take_49 : decode b_Bo_take 49 = .ok (.iload_n 3, 1) := by decide +kernel
theorem d_Bo_take_50 : decode b_Bo_take 50 = .ok (.bipush (-4), 2) := by decide +kernel
theorem d_Bo_take_52 : decode b_Bo_take 52 = .ok (.if_icmp .ne 7, 3) := by decide +kernel
theorem d_Bo_take_55 : decode b_Bo_take 55 = .ok (.aconst_null, 1) := by decide +kernel
theorem d_Bo_take_56 : decode b_Bo_take 56 = .ok (.goto 12, 3) := by decide +kernel
theorem d_Bo_take_59 : decode b_Bo_take 59 = .ok (.aload_n 0, 1) := by decide +kernel
theorem d_Bo_take_60 : decode b_Bo_take 60 = .ok (.getfield 23, 3) := by decide +kernel
theorem d_Bo_take_63 : decode b_Bo_take 63 = .ok (.iload_n 3, 1) := by decide +kernel
theorem d_Bo_take_64 : decode b_Bo_take 64 = .ok (.aconst_null, 1) := by decide +kernel
theorem d_Bo_take_65 : decode b_Bo_take 65 = .ok (.invokevirtual 123, 3) := by decide +kernel
theorem d_Bo_take_68 : decode b_Bo_take 68 = .ok (.astore 4, 2) := by decide +kernel
theorem d_Bo_take_70 : decode b_Bo_take 70 = .ok (.aload 4, 2) := by decide +kernel
theorem d_Bo_take_72 : decode b_Bo_take 72 = .ok (.ifnonnull 6, 3) := by decide +kernel
theorem d_Bo_take_75 : decode b_Bo_take 75 = .ok (.bipush (-4), 2) := by decide +kernel
theorem d_Bo_take_77 : decode b_Bo_take 77 = .ok (.ireturn, 1) := by decide +kernel
theorem d_Bo_take_78 : decode b_Bo_take 78 = .ok (.aload_n 0, 1) := by decide +kernel
theorem d_Bo_take_79 : decode b_Bo_take 79 = .ok (.getfield 15, 3) := by decide +kernel
theorem d_Bo_take_82 : decode b_Bo_take 82 = .ok (.iload_n 3, 1) := by decide +kernel
theorem d_Bo_take_83 : decode b_Bo_take 83 = .ok (.aaload, 1) := by decide +kernel
theorem d_Bo_take_84 : decode b_Bo_take 84 = .ok (.invokevirtual 127, 3) := by decide +kernel
theorem d_Bo_take_87 : decode b_Bo_take 87 = .ok (.aload 4, 2) := by decide +kernel
theorem d_Bo_take_89 : decode b_Bo_take 89 = .ok (.iload_n 1, 1) := by decide +kernel
theorem d_Bo_take_90 : decode b_Bo_take 90 = .ok (.putfield 130, 3) := by decide +kernel
theorem d_Bo_take_93 : decode b_Bo_take 93 = .ok (.aload 4, 2) := by decide +kernel
theorem d_Bo_take_95 : decode b_Bo_take 95 = .ok (.iconst 2, 1) := by decide +kernel
theorem d_Bo_take_96 : decode b_Bo_take 96 = .ok (.aload_n 0, 1) := by decide +kernel
theorem d_Bo_take_97 : decode b_Bo_take 97 = .ok (.getfield 34, 3) := by decide +kernel
theorem d_Bo_take_100 : decode b_Bo_take 100 = .ok (.iload_n 2, 1) := by decide +kernel
theorem d_Bo_take_101 : decode b_Bo_take 101 = .ok (.iadd, 1) := by decide +kernel
theorem d_Bo_take_102 : decode b_Bo_take 102 = .ok (.invokevirtual 75, 3) := by decide +kernel
theorem d_Bo_take_105 : decode b_Bo_take 105 = .ok (.aload_n 0, 1) := by decide +kernel
theorem d_Bo_take_106 : decode b_Bo_take 106 = .ok (.getfield 30, 3) := by decide +kernel
theorem d_Bo_take_109 : decode b_Bo_take 109 = .ok (.aload_n 0, 1) := by decide +kernel
theorem d_Bo_take_110 : decode b_Bo_take 110 = .ok (.getfield 23, 3) := by decide +kernel
theorem d_Bo_take_113 : decode b_Bo_take 113 = .ok (.invokevirtual 79, 3) := by decide +kernel
theorem d_Bo_take_116 : decode b_Bo_take 116 = .ok (.aload 4, 2) := by decide +kernel
theorem d_Bo_take_118 : decode b_Bo_take 118 = .ok (.getfield 83, 3) := by decide +kernel
theorem d_Bo_take_121 : decode b_Bo_take 121 = .ok (.ireturn, 1) := by decide +kernel
theorem d_Bo_ack_0 : decode b_Bo_ack 0 = .ok (.aload_n 0, 1) := by decide +kernel
theorem d_Bo_ack_1 : decode b_Bo_ack 1 = .ok (.getfield 23, 3) := by decide +kernel
theorem d_Bo_ack_4 : decode b_Bo_ack 4 = .ok (.iload_n 1, 1) := by decide +kernel
theorem d_Bo_ack_5 : decode b_Bo_ack 5 = .ok (.invokevirtual 113, 3) := by decide +kernel
theorem d_Bo_ack_8 : decode b_Bo_ack 8 = .ok (.astore_n 2, 1) := by decide +kernel
theorem d_Bo_ack_9 : decode b_Bo_ack 9 = .ok (.aload_n 2, 1) := by decide +kernel
theorem d_Bo_ack_10 : decode b_Bo_ack 10 = .ok (.ifnonnull 5, 3) := by decide +kernel
theorem d_Bo_ack_13 : decode b_Bo_ack 13 = .ok (.iconst (-1), 1) := by decide +kernel
theorem d_Bo_ack_14 : decode b_Bo_ack 14 = .ok (.ireturn, 1) := by decide +kernel
theorem d_Bo_ack_15 : decode b_Bo_ack 15 = .ok (.aload_n 2, 1) := by decide +kernel
theorem d_Bo_ack_16 : decode b_Bo_ack 16 = .ok (.iconst 4, 1) := by decide +kernel
theorem d_Bo_ack_17 : decode b_Bo_ack 17 = .ok (.putfield 97, 3) := by decide +kernel
theorem d_Bo_ack_20 : decode b_Bo_ack 20 = .ok (.aload_n 0, 1) := by decide +kernel
theorem d_Bo_ack_21 : decode b_Bo_ack 21 = .ok (.getfield 23, 3) := by decide +kernel
theorem d_Bo_ack_24 : decode b_Bo_ack 24 = .ok (.aload_n 2, 1) := by decide +kernel
theorem d_Bo_ack_25 : decode b_Bo_ack 25 = .ok (.getfield 94, 3) := by decide +kernel
theorem d_Bo_ack_28 : decode b_Bo_ack 28 = .ok (.invokevirtual 86, 3) := by decide +kernel
theorem d_Bo_ack_31 : decode b_Bo_ack 31 = .ok (.astore_n 3, 1) := by decide +kernel
theorem d_Bo_ack_32 : decode b_Bo_ack 32 = .ok (.aload_n 3, 1) := by decide +kernel
theorem d_Bo_ack_33 : decode b_Bo_ack 33 = .ok (.ifnull 21, 3) := by decide +kernel
theorem d_Bo_ack_36 : decode b_Bo_ack 36 = .ok (.aload_n 3, 1) := by decide +kernel
theorem d_Bo_ack_37 : decode b_Bo_ack 37 = .ok (.dup, 1) := by decide +kernel
theorem d_Bo_ack_38 : decode b_Bo_ack 38 = .ok (.getfield 100, 3) := by decide +kernel
theorem d_Bo_ack_41 : decode b_Bo_ack 41 = .ok (.iconst 1, 1) := by decide +kernel
theorem d_Bo_ack_42 : decode b_Bo_ack 42 = .ok (.isub, 1) := by decide +kernel
theorem d_Bo_ack_43 : decode b_Bo_ack 43 = .ok (.putfield 100, 3) := by decide +kernel
theorem d_Bo_ack_46 : decode b_Bo_ack 46 = .ok (.aload_n 0, 1) := by decide +kernel
theorem d_Bo_ack_47 : decode b_Bo_ack 47 = .ok (.getfield 23, 3) := by decide +kernel
theorem d_Bo_ack_50 : decode b_Bo_ack 50 = .ok (.aload_n 3, 1) := by decide +kernel
theorem d_Bo_ack_51 : decode b_Bo_ack 51 = .ok (.invokevirtual 106, 3) := by decide +kernel
theorem d_Bo_ack_54 : decode b_Bo_ack 54 = .ok (.aload_n 0, 1) := by decide +kernel
theorem d_Bo_ack_55 : decode b_Bo_ack 55 = .ok (.getfield 30, 3) := by decide +kernel
theorem d_Bo_ack_58 : decode b_Bo_ack 58 = .ok (.aload_n 0, 1) := by decide +kernel
theorem d_Bo_ack_59 : decode b_Bo_ack 59 = .ok (.getfield 23, 3) := by decide +kernel
theorem d_Bo_ack_62 : decode b_Bo_ack 62 = .ok (.invokevirtual 79, 3) := by decide +kernel
theorem d_Bo_ack_65 : decode b_Bo_ack 65 = .ok (.aload_n 2, 1) := by decide +kernel
theorem d_Bo_ack_66 : decode b_Bo_ack 66 = .ok (.getfield 83, 3) := by decide +kernel
theorem d_Bo_ack_69 : decode b_Bo_ack 69 = .ok (.ireturn, 1) := by decide +kernel
theorem d_Bo_fail_0 : decode b_Bo_fail 0 = .ok (.aload_n 0, 1) := by decide +kernel
theorem d_Bo_fail_1 : decode b_Bo_fail 1 = .ok (.getfield 23, 3) := by decide +kernel
theorem d_Bo_fail_4 : decode b_Bo_fail 4 = .ok (.iload_n 1, 1) := by decide +kernel
theorem d_Bo_fail_5 : decode b_Bo_fail 5 = .ok (.invokevirtual 113, 3) := by decide +kernel
theorem d_Bo_fail_8 : decode b_Bo_fail 8 = .ok (.astore_n 2, 1) := by decide +kernel
theorem d_Bo_fail_9 : decode b_Bo_fail 9 = .ok (.aload_n 2, 1) := by decide +kernel
theorem d_Bo_fail_10 : decode b_Bo_fail 10 = .ok (.ifnonnull 5, 3) := by decide +kernel
theorem d_Bo_fail_13 : decode b_Bo_fail 13 = .ok (.iconst (-1), 1) := by decide +kernel
theorem d_Bo_fail_14 : decode b_Bo_fail 14 = .ok (.ireturn, 1) := by decide +kernel
theorem d_Bo_fail_15 : decode b_Bo_fail 15 = .ok (.aload_n 0, 1) := by decide +kernel
theorem d_Bo_fail_16 : decode b_Bo_fail 16 = .ok (.getfield 23, 3) := by decide +kernel
theorem d_Bo_fail_19 : decode b_Bo_fail 19 = .ok (.aload_n 2, 1) := by decide +kernel
theorem d_Bo_fail_20 : decode b_Bo_fail 20 = .ok (.aload_n 0, 1) := by decide +kernel
theorem d_Bo_fail_21 : decode b_Bo_fail 21 = .ok (.getfield 34, 3) := by decide +kernel
theorem d_Bo_fail_24 : decode b_Bo_fail 24 = .ok (.invokevirtual 133, 3) := by decide +kernel
theorem d_Bo_fail_27 : decode b_Bo_fail 27 = .ok (.aload_n 0, 1) := by decide +kernel
theorem d_Bo_fail_28 : decode b_Bo_fail 28 = .ok (.getfield 30, 3) := by decide +kernel
theorem d_Bo_fail_31 : decode b_Bo_fail 31 = .ok (.aload_n 0, 1) := by decide +kernel
theorem d_Bo_fail_32 : decode b_Bo_fail 32 = .ok (.getfield 23, 3) := by decide +kernel
theorem d_Bo_fail_35 : decode b_Bo_fail 35 = .ok (.invokevirtual 79, 3) := by decide +kernel
theorem d_Bo_fail_38 : decode b_Bo_fail 38 = .ok (.aload_n 2, 1) := by decide +kernel
theorem d_Bo_fail_39 : decode b_Bo_fail 39 = .ok (.getfield 83, 3) := by decide +kernel
theorem d_Bo_fail_42 : decode b_Bo_fail 42 = .ok (.ireturn, 1) := by decide +kernel
theorem d_Bo_tick_0 : decode b_Bo_tick 0 = .ok (.iload_n 1, 1) := by decide +kernel
theorem d_Bo_tick_1 : decode b_Bo_tick 1 = .ok (.iconst 1, 1) := by decide +kernel
theorem d_Bo_tick_2 : decode b_Bo_tick 2 = .ok (.sipush 1000, 3) := by decide +kernel
theorem d_Bo_tick_5 : decode b_Bo_tick 5 = .ok (.invokestatic 45, 3) := by decide +kernel
theorem d_Bo_tick_8 : decode b_Bo_tick 8 = .ok (.ifCond .ne 5, 3) := by decide +kernel
theorem d_Bo_tick_11 : decode b_Bo_tick 11 = .ok (.iconst (-1), 1) := by decide +kernel
theorem d_Bo_tick_12 : decode b_Bo_tick 12 = .ok (.ireturn, 1) := by decide +kernel
theorem d_Bo_tick_13 : decode b_Bo_tick 13 = .ok (.iconst 0, 1) := by decide +kernel
theorem d_Bo_tick_14 : decode b_Bo_tick 14 = .ok (.istore_n 2, 1) := by decide +kernel
theorem d_Bo_tick_15 : decode b_Bo_tick 15 = .ok (.iload_n 2, 1) := by decide +kernel
theorem d_Bo_tick_16 : decode b_Bo_tick 16 = .ok (.iconst 4, 1) := by decide +kernel
theorem d_Bo_tick_17 : decode b_Bo_tick 17 = .ok (.if_icmp .ge 28, 3) := by decide +kernel
theorem d_Bo_tick_20 : decode b_Bo_tick 20 = .ok (.aload_n 0, 1) := by decide +kernel
theorem d_Bo_tick_21 : decode b_Bo_tick 21 = .ok (.getfield 15, 3) := by decide +kernel
theorem d_Bo_tick_24 : decode b_Bo_tick 24 = .ok (.iload_n 2, 1) := by decide +kernel
theorem d_Bo_tick_25 : decode b_Bo_tick 25 = .ok (.aaload, 1) := by decide +kernel
theorem d_Bo_tick_26 : decode b_Bo_tick 26 = .ok (.aload_n 0, 1) := by decide +kernel
theorem d_Bo_tick_27 : decode b_Bo_tick 27 = .ok (.getfield 34, 3) := by decide +kernel
theorem d_Bo_tick_30 : decode b_Bo_tick 30 = .ok (.aload_n 0, 1) := by decide +kernel
theorem d_Bo_tick_31 : decode b_Bo_tick 31 = .ok (.getfield 34, 3) := by decide +kernel
theorem d_Bo_tick_34 : decode b_Bo_tick 34 = .ok (.iload_n 1, 1) := by decide +kernel
theorem d_Bo_tick_35 : decode b_Bo_tick 35 = .ok (.iadd, 1) := by decide +kernel
theorem d_Bo_tick_36 : decode b_Bo_tick 36 = .ok (.invokevirtual 136, 3) := by decide +kernel
theorem d_Bo_tick_39 : decode b_Bo_tick 39 = .ok (.iinc 2 1, 3) := by decide +kernel
theorem d_Bo_tick_42 : decode b_Bo_tick 42 = .ok (.goto (-27), 3) := by decide +kernel
theorem d_Bo_tick_45 : decode b_Bo_tick 45 = .ok (.aload_n 0, 1) := by decide +kernel
theorem d_Bo_tick_46 : decode b_Bo_tick 46 = .ok (.dup, 1) := by decide +kernel
theorem d_Bo_tick_47 : decode b_Bo_tick 47 = .ok (.getfield 34, 3) := by decide +kernel
theorem d_Bo_tick_50 : decode b_Bo_tick 50 = .ok (.iload_n 1, 1) := by decide +kernel
theorem d_Bo_tick_51 : decode b_Bo_tick 51 = .ok (.iadd, 1) := by decide +kernel
theorem d_Bo_tick_52 : decode b_Bo_tick 52 = .ok (.putfield 34, 3) := by decide +kernel
theorem d_Bo_tick_55 : decode b_Bo_tick 55 = .ok (.aload_n 0, 1) := by decide +kernel
theorem d_Bo_tick_56 : decode b_Bo_tick 56 = .ok (.getfield 23, 3) := by decide +kernel
theorem d_Bo_tick_59 : decode b_Bo_tick 59 = .ok (.aload_n 0, 1) := by decide +kernel
theorem d_Bo_tick_60 : decode b_Bo_tick 60 = .ok (.getfield 34, 3) := by decide +kernel
theorem d_Bo_tick_63 : decode b_Bo_tick 63 = .ok (.invokevirtual 139, 3) := by decide +kernel
theorem d_Bo_tick_66 : decode b_Bo_tick 66 = .ok (.istore_n 2, 1) := by decide +kernel
theorem d_Bo_tick_67 : decode b_Bo_tick 67 = .ok (.iload_n 2, 1) := by decide +kernel
theorem d_Bo_tick_68 : decode b_Bo_tick 68 = .ok (.ifCond .le 14, 3) := by decide +kernel
theorem d_Bo_tick_71 : decode b_Bo_tick 71 = .ok (.aload_n 0, 1) := by decide +kernel
theorem d_Bo_tick_72 : decode b_Bo_tick 72 = .ok (.getfield 30, 3) := by decide +kernel
theorem d_Bo_tick_75 : decode b_Bo_tick 75 = .ok (.aload_n 0, 1) := by decide +kernel
theorem d_Bo_tick_76 : decode b_Bo_tick 76 = .ok (.getfield 23, 3) := by decide +kernel
theorem d_Bo_tick_79 : decode b_Bo_tick 79 = .ok (.invokevirtual 79, 3) := by decide +kernel
theorem d_Bo_tick_82 : decode b_Bo_tick 82 = .ok (.iload_n 2, 1) := by decide +kernel
theorem d_Bo_tick_83 : decode b_Bo_tick 83 = .ok (.ireturn, 1) := by decide +kernel
theorem d_Bo_revive_0 : decode b_Bo_revive 0 = .ok (.aload_n 0, 1) := by decide +kernel
theorem d_Bo_revive_1 : decode b_Bo_revive 1 = .ok (.getfield 23, 3) := by decide +kernel
theorem d_Bo_revive_4 : decode b_Bo_revive 4 = .ok (.iload_n 1, 1) := by decide +kernel
theorem d_Bo_revive_5 : decode b_Bo_revive 5 = .ok (.invokevirtual 86, 3) := by decide +kernel
theorem d_Bo_revive_8 : decode b_Bo_revive 8 = .ok (.astore_n 2, 1) := by decide +kernel
theorem d_Bo_revive_9 : decode b_Bo_revive 9 = .ok (.aload_n 2, 1) := by decide +kernel
theorem d_Bo_revive_10 : decode b_Bo_revive 10 = .ok (.ifnull 11, 3) := by decide +kernel
theorem d_Bo_revive_13 : decode b_Bo_revive 13 = .ok (.aload_n 2, 1) := by decide +kernel
theorem d_Bo_revive_14 : decode b_Bo_revive 14 = .ok (.getfield 97, 3) := by decide +kernel
theorem d_Bo_revive_17 : decode b_Bo_revive 17 = .ok (.iconst 5, 1) := by decide +kernel
theorem d_Bo_revive_18 : decode b_Bo_revive 18 = .ok (.if_icmp .eq 5, 3) := by decide +kernel
theorem d_Bo_revive_21 : decode b_Bo_revive 21 = .ok (.iconst (-1), 1) := by decide +kernel
theorem d_Bo_revive_22 : decode b_Bo_revive 22 = .ok (.ireturn, 1) := by decide +kernel
theorem d_Bo_revive_23 : decode b_Bo_revive 23 = .ok (.aload_n 0, 1) := by decide +kernel
theorem d_Bo_revive_24 : decode b_Bo_revive 24 = .ok (.getfield 23, 3) := by decide +kernel
theorem d_Bo_revive_27 : decode b_Bo_revive 27 = .ok (.aload_n 2, 1) := by decide +kernel
theorem d_Bo_revive_28 : decode b_Bo_revive 28 = .ok (.getfield 68, 3) := by decide +kernel
theorem d_Bo_revive_31 : decode b_Bo_revive 31 = .ok (.invokevirtual 53, 3) := by decide +kernel
theorem d_Bo_revive_34 : decode b_Bo_revive 34 = .ok (.ifCond .eq 6, 3) := by decide +kernel
theorem d_Bo_revive_37 : decode b_Bo_revive 37 = .ok (.bipush (-3), 2) := by decide +kernel
theorem d_Bo_revive_39 : decode b_Bo_revive 39 = .ok (.ireturn, 1) := by decide +kernel
theorem d_Bo_revive_40 : decode b_Bo_revive 40 = .ok (.aload_n 2, 1) := by decide +kernel
theorem d_Bo_revive_41 : decode b_Bo_revive 41 = .ok (.iconst 0, 1) := by decide +kernel
theorem d_Bo_revive_42 : decode b_Bo_revive 42 = .ok (.putfield 143, 3) := by decide +kernel
theorem d_Bo_revive_45 : decode b_Bo_revive 45 = .ok (.aload_n 0, 1) := by decide +kernel
theorem d_Bo_revive_46 : decode b_Bo_revive 46 = .ok (.getfield 23, 3) := by decide +kernel
theorem d_Bo_revive_49 : decode b_Bo_revive 49 = .ok (.aload_n 2, 1) := by decide +kernel
theorem d_Bo_revive_50 : decode b_Bo_revive 50 = .ok (.iconst 1, 1) := by decide +kernel
theorem d_Bo_revive_51 : decode b_Bo_revive 51 = .ok (.invokevirtual 71, 3) := by decide +kernel
theorem d_Bo_revive_54 : decode b_Bo_revive 54 = .ok (.aload_n 0, 1) := by decide +kernel
theorem d_Bo_revive_55 : decode b_Bo_revive 55 = .ok (.getfield 30, 3) := by decide +kernel
theorem d_Bo_revive_58 : decode b_Bo_revive 58 = .ok (.aload_n 0, 1) := by decide +kernel
theorem d_Bo_revive_59 : decode b_Bo_revive 59 = .ok (.getfield 23, 3) := by decide +kernel
theorem d_Bo_revive_62 : decode b_Bo_revive 62 = .ok (.invokevirtual 79, 3) := by decide +kernel
theorem d_Bo_revive_65 : decode b_Bo_revive 65 = .ok (.iconst 0, 1) := by decide +kernel
theorem d_Bo_revive_66 : decode b_Bo_revive 66 = .ok (.ireturn, 1) := by decide +kernel
theorem d_Bo_kill_0 : decode b_Bo_kill 0 = .ok (.aload_n 0, 1) := by decide +kernel
theorem d_Bo_kill_1 : decode b_Bo_kill 1 = .ok (.getfield 23, 3) := by decide +kernel
theorem d_Bo_kill_4 : decode b_Bo_kill 4 = .ok (.iload_n 1, 1) := by decide +kernel
theorem d_Bo_kill_5 : decode b_Bo_kill 5 = .ok (.invokevirtual 86, 3) := by decide +kernel
theorem d_Bo_kill_8 : decode b_Bo_kill 8 = .ok (.astore_n 2, 1) := by decide +kernel
theorem d_Bo_kill_9 : decode b_Bo_kill 9 = .ok (.aload_n 2, 1) := by decide +kernel
theorem d_Bo_kill_10 : decode b_Bo_kill 10 = .ok (.ifnull 18, 3) := by decide +kernel
theorem d_Bo_kill_13 : decode b_Bo_kill 13 = .ok (.aload_n 2, 1) := by decide +kernel
theorem d_Bo_kill_14 : decode b_Bo_kill 14 = .ok (.invokevirtual 90, 3) := by decide +kernel
theorem d_Bo_kill_17 : decode b_Bo_kill 17 = .ok (.ifCond .eq 11, 3) := by decide +kernel
theorem d_Bo_kill_20 : decode b_Bo_kill 20 = .ok (.aload_n 2, 1) := by decide +kernel
theorem d_Bo_kill_21 : decode b_Bo_kill 21 = .ok (.getfield 97, 3) := by decide +kernel
theorem d_Bo_kill_24 : decode b_Bo_kill 24 = .ok (.iconst 2, 1) := by decide +kernel
theorem d_Bo_kill_25 : decode b_Bo_kill 25 = .ok (.if_icmp .ne 5, 3) := by decide +kernel
theorem d_Bo_kill_28 : decode b_Bo_kill 28 = .ok (.iconst (-1), 1) := by decide +kernel
theorem d_Bo_kill_29 : decode b_Bo_kill 29 = .ok (.ireturn, 1) := by decide +kernel
theorem d_Bo_kill_30 : decode b_Bo_kill 30 = .ok (.aload_n 0, 1) := by decide +kernel
theorem d_Bo_kill_31 : decode b_Bo_kill 31 = .ok (.getfield 23, 3) := by decide +kernel
theorem d_Bo_kill_34 : decode b_Bo_kill 34 = .ok (.aload_n 2, 1) := by decide +kernel
theorem d_Bo_kill_35 : decode b_Bo_kill 35 = .ok (.invokevirtual 146, 3) := by decide +kernel
theorem d_Bo_kill_38 : decode b_Bo_kill 38 = .ok (.aload_n 0, 1) := by decide +kernel
theorem d_Bo_kill_39 : decode b_Bo_kill 39 = .ok (.getfield 30, 3) := by decide +kernel
theorem d_Bo_kill_42 : decode b_Bo_kill 42 = .ok (.aload_n 0, 1) := by decide +kernel
theorem d_Bo_kill_43 : decode b_Bo_kill 43 = .ok (.getfield 23, 3) := by decide +kernel
theorem d_Bo_kill_46 : decode b_Bo_kill 46 = .ok (.invokevirtual 79, 3) := by decide +kernel
theorem d_Bo_kill_49 : decode b_Bo_kill 49 = .ok (.iconst 0, 1) := by decide +kernel
theorem d_Bo_kill_50 : decode b_Bo_kill 50 = .ok (.ireturn, 1) := by decide +kernel
theorem d_Bo_flush_0 : decode b_Bo_flush 0 = .ok (.aload_n 0, 1) := by decide +kernel
theorem d_Bo_flush_1 : decode b_Bo_flush 1 = .ok (.getfield 30, 3) := by decide +kernel
theorem d_Bo_flush_4 : decode b_Bo_flush 4 = .ok (.aload_n 0, 1) := by decide +kernel
theorem d_Bo_flush_5 : decode b_Bo_flush 5 = .ok (.getfield 23, 3) := by decide +kernel
theorem d_Bo_flush_8 : decode b_Bo_flush 8 = .ok (.invokevirtual 149, 3) := by decide +kernel
theorem d_Bo_flush_11 : decode b_Bo_flush 11 = .ok (.ireturn, 1) := by decide +kernel
theorem d_Bo_crash_0 : decode b_Bo_crash 0 = .ok (.aload_n 0, 1) := by decide +kernel
theorem d_Bo_crash_1 : decode b_Bo_crash 1 = .ok (.getfield 30, 3) := by decide +kernel
theorem d_Bo_crash_4 : decode b_Bo_crash 4 = .ok (.aload_n 0, 1) := by decide +kernel
theorem d_Bo_crash_5 : decode b_Bo_crash 5 = .ok (.getfield 23, 3) := by decide +kernel
theorem d_Bo_crash_8 : decode b_Bo_crash 8 = .ok (.iload_n 1, 1) := by decide +kernel
theorem d_Bo_crash_9 : decode b_Bo_crash 9 = .ok (.invokevirtual 153, 3) := by decide +kernel
theorem d_Bo_crash_12 : decode b_Bo_crash 12 = .ok (.istore_n 2, 1) := by decide +kernel
theorem d_Bo_crash_13 : decode b_Bo_crash 13 = .ok (.aload_n 0, 1) := by decide +kernel
theorem d_Bo_crash_14 : decode b_Bo_crash 14 = .ok (.getfield 23, 3) := by decide +kernel
theorem d_Bo_crash_17 : decode b_Bo_crash 17 = .ok (.invokevirtual 157, 3) := by decide +kernel
theorem d_Bo_crash_20 : decode b_Bo_crash 20 = .ok (.aload_n 0, 1) := by decide +kernel
theorem d_Bo_crash_21 : decode b_Bo_crash 21 = .ok (.getfield 23, 3) := by decide +kernel
theorem d_Bo_crash_24 : decode b_Bo_crash 24 = .ok (.aload_n 0, 1) := by decide +kernel
theorem d_Bo_crash_25 : decode b_Bo_crash 25 = .ok (.getfield 34, 3) := by decide +kernel
theorem d_Bo_crash_28 : decode b_Bo_crash 28 = .ok (.invokevirtual 139, 3) := by decide +kernel
theorem d_Bo_crash_31 : decode b_Bo_crash 31 = .ok (.pop, 1) := by decide +kernel
theorem d_Bo_crash_32 : decode b_Bo_crash 32 = .ok (.iconst 0, 1) := by decide +kernel
theorem d_Bo_crash_33 : decode b_Bo_crash 33 = .ok (.istore_n 3, 1) := by decide +kernel
theorem d_Bo_crash_34 : decode b_Bo_crash 34 = .ok (.iload_n 3, 1) := by decide +kernel
theorem d_Bo_crash_35 : decode b_Bo_crash 35 = .ok (.iconst 4, 1) := by decide +kernel
theorem d_Bo_crash_36 : decode b_Bo_crash 36 = .ok (.if_icmp .ge 18, 3) := by decide +kernel
theorem d_Bo_crash_39 : decode b_Bo_crash 39 = .ok (.aload_n 0, 1) := by decide +kernel
theorem d_Bo_crash_40 : decode b_Bo_crash 40 = .ok (.getfield 15, 3) := by decide +kernel
theorem d_Bo_crash_43 : decode b_Bo_crash 43 = .ok (.iload_n 3, 1) := by decide +kernel
theorem d_Bo_crash_44 : decode b_Bo_crash 44 = .ok (.aaload, 1) := by decide +kernel
theorem d_Bo_crash_45 : decode b_Bo_crash 45 = .ok (.invokevirtual 160, 3) := by decide +kernel
theorem d_Bo_crash_48 : decode b_Bo_crash 48 = .ok (.iinc 3 1, 3) := by decide +kernel
theorem d_Bo_crash_51 : decode b_Bo_crash 51 = .ok (.goto (-17), 3) := by decide +kernel
theorem d_Bo_crash_54 : decode b_Bo_crash 54 = .ok (.aload_n 0, 1) := by decide +kernel
theorem d_Bo_crash_55 : decode b_Bo_crash 55 = .ok (.iconst (-1), 1) := by decide +kernel
theorem d_Bo_crash_56 : decode b_Bo_crash 56 = .ok (.putfield 38, 3) := by decide +kernel
theorem d_Bo_crash_59 : decode b_Bo_crash 59 = .ok (.aload_n 0, 1) := by decide +kernel
theorem d_Bo_crash_60 : decode b_Bo_crash 60 = .ok (.getfield 30, 3) := by decide +kernel
theorem d_Bo_crash_63 : decode b_Bo_crash 63 = .ok (.aload_n 0, 1) := by decide +kernel
theorem d_Bo_crash_64 : decode b_Bo_crash 64 = .ok (.getfield 23, 3) := by decide +kernel
theorem d_Bo_crash_67 : decode b_Bo_crash 67 = .ok (.invokevirtual 149, 3) := by decide +kernel
theorem d_Bo_crash_70 : decode b_Bo_crash 70 = .ok (.pop, 1) := by decide +kernel
theorem d_Bo_crash_71 : decode b_Bo_crash 71 = .ok (.iload_n 2, 1) := by decide +kernel
theorem d_Bo_crash_72 : decode b_Bo_crash 72 = .ok (.ireturn, 1) := by decide +kernel
theorem d_Bo_state_0 : decode b_Bo_state 0 = .ok (.aload_n 0, 1) := by decide +kernel
theorem d_Bo_state_1 : decode b_Bo_state 1 = .ok (.getfield 23, 3) := by decide +kernel
theorem d_Bo_state_4 : decode b_Bo_state 4 = .ok (.iload_n 1, 1) := by decide +kernel
theorem d_Bo_state_5 : decode b_Bo_state 5 = .ok (.invokevirtual 86, 3) := by decide +kernel
theorem d_Bo_state_8 : decode b_Bo_state 8 = .ok (.astore_n 2, 1) := by decide +kernel
theorem d_Bo_state_9 : decode b_Bo_state 9 = .ok (.aload_n 2, 1) := by decide +kernel
theorem d_Bo_state_10 : decode b_Bo_state 10 = .ok (.ifnonnull 7, 3) := by decide +kernel
theorem d_Bo_state_13 : decode b_Bo_state 13 = .ok (.iconst (-1), 1) := by decide +kernel
theorem d_Bo_state_14 : decode b_Bo_state 14 = .ok (.goto 7, 3) := by decide +kernel
theorem d_Bo_state_17 : decode b_Bo_state 17 = .ok (.aload_n 2, 1) := by decide +kernel
theorem d_Bo_state_18 : decode b_Bo_state 18 = .ok (.getfield 97, 3) := by decide +kernel
theorem d_Bo_state_21 : decode b_Bo_state 21 = .ok (.ireturn, 1) := by decide +kernel
theorem d_Bo_failures_0 : decode b_Bo_failures 0 = .ok (.aload_n 0, 1) := by decide +kernel
theorem d_Bo_failures_1 : decode b_Bo_failures 1 = .ok (.getfield 23, 3) := by decide +kernel
theorem d_Bo_failures_4 : decode b_Bo_failures 4 = .ok (.iload_n 1, 1) := by decide +kernel
theorem d_Bo_failures_5 : decode b_Bo_failures 5 = .ok (.invokevirtual 86, 3) := by decide +kernel
theorem d_Bo_failures_8 : decode b_Bo_failures 8 = .ok (.astore_n 2, 1) := by decide +kernel
theorem d_Bo_failures_9 : decode b_Bo_failures 9 = .ok (.aload_n 2, 1) := by decide +kernel
theorem d_Bo_failures_10 : decode b_Bo_failures 10 = .ok (.ifnonnull 7, 3) := by decide +kernel
theorem d_Bo_failures_13 : decode b_Bo_failures 13 = .ok (.iconst (-1), 1) := by decide +kernel
theorem d_Bo_failures_14 : decode b_Bo_failures 14 = .ok (.goto 7, 3) := by decide +kernel
theorem d_Bo_failures_17 : decode b_Bo_failures 17 = .ok (.aload_n 2, 1) := by decide +kernel
theorem d_Bo_failures_18 : decode b_Bo_failures 18 = .ok (.getfield 143, 3) := by decide +kernel
theorem d_Bo_failures_21 : decode b_Bo_failures 21 = .ok (.ireturn, 1) := by decide +kernel
theorem d_Bo_due_0 : decode b_Bo_due 0 = .ok (.aload_n 0, 1) := by decide +kernel
theorem d_Bo_due_1 : decode b_Bo_due 1 = .ok (.getfield 23, 3) := by decide +kernel
theorem d_Bo_due_4 : decode b_Bo_due 4 = .ok (.iload_n 1, 1) := by decide +kernel
theorem d_Bo_due_5 : decode b_Bo_due 5 = .ok (.invokevirtual 86, 3) := by decide +kernel
theorem d_Bo_due_8 : decode b_Bo_due 8 = .ok (.astore_n 2, 1) := by decide +kernel
theorem d_Bo_due_9 : decode b_Bo_due 9 = .ok (.aload_n 2, 1) := by decide +kernel
theorem d_Bo_due_10 : decode b_Bo_due 10 = .ok (.ifnonnull 5, 3) := by decide +kernel
theorem d_Bo_due_13 : decode b_Bo_due 13 = .ok (.iconst (-1), 1) := by decide +kernel
theorem d_Bo_due_14 : decode b_Bo_due 14 = .ok (.ireturn, 1) := by decide +kernel
theorem d_Bo_due_15 : decode b_Bo_due 15 = .ok (.aload_n 2, 1) := by decide +kernel
theorem d_Bo_due_16 : decode b_Bo_due 16 = .ok (.getfield 97, 3) := by decide +kernel
theorem d_Bo_due_19 : decode b_Bo_due 19 = .ok (.bipush 6, 2) := by decide +kernel
theorem d_Bo_due_21 : decode b_Bo_due 21 = .ok (.if_icmp .ne 8, 3) := by decide +kernel
theorem d_Bo_due_24 : decode b_Bo_due 24 = .ok (.aload_n 2, 1) := by decide +kernel
theorem d_Bo_due_25 : decode b_Bo_due 25 = .ok (.getfield 100, 3) := by decide +kernel
theorem d_Bo_due_28 : decode b_Bo_due 28 = .ok (.ireturn, 1) := by decide +kernel
theorem d_Bo_due_29 : decode b_Bo_due 29 = .ok (.aload_n 2, 1) := by decide +kernel
theorem d_Bo_due_30 : decode b_Bo_due 30 = .ok (.invokevirtual 163, 3) := by decide +kernel
theorem d_Bo_due_33 : decode b_Bo_due 33 = .ok (.ifCond .eq 10, 3) := by decide +kernel
theorem d_Bo_due_36 : decode b_Bo_due 36 = .ok (.aload_n 2, 1) := by decide +kernel
theorem d_Bo_due_37 : decode b_Bo_due 37 = .ok (.getfield 166, 3) := by decide +kernel
theorem d_Bo_due_40 : decode b_Bo_due 40 = .ok (.goto 5, 3) := by decide +kernel
theorem d_Bo_due_43 : decode b_Bo_due 43 = .ok (.bipush (-4), 2) := by decide +kernel
theorem d_Bo_due_45 : decode b_Bo_due 45 = .ok (.ireturn, 1) := by decide +kernel
theorem d_Bo_holding_0 : decode b_Bo_holding 0 = .ok (.iload_n 1, 1) := by decide +kernel
theorem d_Bo_holding_1 : decode b_Bo_holding 1 = .ok (.invokestatic 110, 3) := by decide +kernel
theorem d_Bo_holding_4 : decode b_Bo_holding 4 = .ok (.ifCond .ne 5, 3) := by decide +kernel
theorem d_Bo_holding_7 : decode b_Bo_holding 7 = .ok (.iconst (-1), 1) := by decide +kernel
theorem d_Bo_holding_8 : decode b_Bo_holding 8 = .ok (.ireturn, 1) := by decide +kernel
theorem d_Bo_holding_9 : decode b_Bo_holding 9 = .ok (.aload_n 0, 1) := by decide +kernel
theorem d_Bo_holding_10 : decode b_Bo_holding 10 = .ok (.getfield 23, 3) := by decide +kernel
theorem d_Bo_holding_13 : decode b_Bo_holding 13 = .ok (.iload_n 1, 1) := by decide +kernel
theorem d_Bo_holding_14 : decode b_Bo_holding 14 = .ok (.invokevirtual 113, 3) := by decide +kernel
theorem d_Bo_holding_17 : decode b_Bo_holding 17 = .ok (.invokestatic 169, 3) := by decide +kernel
theorem d_Bo_holding_20 : decode b_Bo_holding 20 = .ok (.ireturn, 1) := by decide +kernel
theorem d_Bo_line_0 : decode b_Bo_line 0 = .ok (.iload_n 1, 1) := by decide +kernel
theorem d_Bo_line_1 : decode b_Bo_line 1 = .ok (.invokestatic 41, 3) := by decide +kernel
theorem d_Bo_line_4 : decode b_Bo_line 4 = .ok (.ifCond .ne 5, 3) := by decide +kernel
theorem d_Bo_line_7 : decode b_Bo_line 7 = .ok (.iconst (-1), 1) := by decide +kernel
theorem d_Bo_line_8 : decode b_Bo_line 8 = .ok (.ireturn, 1) := by decide +kernel
theorem d_Bo_line_9 : decode b_Bo_line 9 = .ok (.iload_n 2, 1) := by decide +kernel
theorem d_Bo_line_10 : decode b_Bo_line 10 = .ok (.ifCond .ge 8, 3) := by decide +kernel
theorem d_Bo_line_13 : decode b_Bo_line 13 = .ok (.bipush (-4), 2) := by decide +kernel
theorem d_Bo_line_15 : decode b_Bo_line 15 = .ok (.goto 15, 3) := by decide +kernel
theorem d_Bo_line_18 : decode b_Bo_line 18 = .ok (.aload_n 0, 1) := by decide +kernel
theorem d_Bo_line_19 : decode b_Bo_line 19 = .ok (.getfield 23, 3) := by decide +kernel
theorem d_Bo_line_22 : decode b_Bo_line 22 = .ok (.iload_n 1, 1) := by decide +kernel
theorem d_Bo_line_23 : decode b_Bo_line 23 = .ok (.iload_n 2, 1) := by decide +kernel
theorem d_Bo_line_24 : decode b_Bo_line 24 = .ok (.invokevirtual 173, 3) := by decide +kernel
theorem d_Bo_line_27 : decode b_Bo_line 27 = .ok (.invokestatic 169, 3) := by decide +kernel
theorem d_Bo_line_30 : decode b_Bo_line 30 = .ok (.ireturn, 1) := by decide +kernel
theorem d_Bo_count_0 : decode b_Bo_count 0 = .ok (.iload_n 1, 1) := by decide +kernel
theorem d_Bo_count_1 : decode b_Bo_count 1 = .ok (.iconst 0, 1) := by decide +kernel
theorem d_Bo_count_2 : decode b_Bo_count 2 = .ok (.bipush 7, 2) := by decide +kernel
theorem d_Bo_count_4 : decode b_Bo_count 4 = .ok (.invokestatic 45, 3) := by decide +kernel
theorem d_Bo_count_7 : decode b_Bo_count 7 = .ok (.ifCond .eq 12, 3) := by decide +kernel
theorem d_Bo_count_10 : decode b_Bo_count 10 = .ok (.aload_n 0, 1) := by decide +kernel
theorem d_Bo_count_11 : decode b_Bo_count 11 = .ok (.getfield 23, 3) := by decide +kernel
theorem d_Bo_count_14 : decode b_Bo_count 14 = .ok (.iload_n 1, 1) := by decide +kernel
theorem d_Bo_count_15 : decode b_Bo_count 15 = .ok (.invokevirtual 176, 3) := by decide +kernel
theorem d_Bo_count_18 : decode b_Bo_count 18 = .ok (.ireturn, 1) := by decide +kernel
theorem d_Bo_count_19 : decode b_Bo_count 19 = .ok (.iload_n 1, 1) := by decide +kernel
theorem d_Bo_count_20 : decode b_Bo_count 20 = .ok (.bipush 11, 2) := by decide +kernel
theorem d_Bo_count_22 : decode b_Bo_count 22 = .ok (.bipush 14, 2) := by decide +kernel
theorem d_Bo_count_24 : decode b_Bo_count 24 = .ok (.invokestatic 45, 3) := by decide +kernel
theorem d_Bo_count_27 : decode b_Bo_count 27 = .ok (.ifCond .eq 16, 3) := by decide +kernel
theorem d_Bo_count_30 : decode b_Bo_count 30 = .ok (.aload_n 0, 1) := by decide +kernel
theorem d_Bo_count_31 : decode b_Bo_count 31 = .ok (.getfield 15, 3) := by decide +kernel
theorem d_Bo_count_34 : decode b_Bo_count 34 = .ok (.iload_n 1, 1) := by decide +kernel
theorem d_Bo_count_35 : decode b_Bo_count 35 = .ok (.bipush 11, 2) := by decide +kernel
theorem d_Bo_count_37 : decode b_Bo_count 37 = .ok (.isub, 1) := by decide +kernel
theorem d_Bo_count_38 : decode b_Bo_count 38 = .ok (.aaload, 1) := by decide +kernel
theorem d_Bo_count_39 : decode b_Bo_count 39 = .ok (.getfield 179, 3) := by decide +kernel
theorem d_Bo_count_42 : decode b_Bo_count 42 = .ok (.ireturn, 1) := by decide +kernel
theorem d_Bo_count_43 : decode b_Bo_count 43 = .ok (.iload_n 1, 1) := by decide +kernel
theorem d_Bo_count_44 : decode b_Bo_count 44 = .ok (.tableswitch 49 8 10 #[28, 36, 44], 28) := by decide +kernel
theorem d_Bo_count_72 : decode b_Bo_count 72 = .ok (.aload_n 0, 1) := by decide +kernel
theorem d_Bo_count_73 : decode b_Bo_count 73 = .ok (.getfield 23, 3) := by decide +kernel
theorem d_Bo_count_76 : decode b_Bo_count 76 = .ok (.getfield 182, 3) := by decide +kernel
theorem d_Bo_count_79 : decode b_Bo_count 79 = .ok (.ireturn, 1) := by decide +kernel
theorem d_Bo_count_80 : decode b_Bo_count 80 = .ok (.aload_n 0, 1) := by decide +kernel
theorem d_Bo_count_81 : decode b_Bo_count 81 = .ok (.getfield 30, 3) := by decide +kernel
theorem d_Bo_count_84 : decode b_Bo_count 84 = .ok (.getfield 185, 3) := by decide +kernel
theorem d_Bo_count_87 : decode b_Bo_count 87 = .ok (.ireturn, 1) := by decide +kernel
theorem d_Bo_count_88 : decode b_Bo_count 88 = .ok (.aload_n 0, 1) := by decide +kernel
theorem d_Bo_count_89 : decode b_Bo_count 89 = .ok (.getfield 34, 3) := by decide +kernel
theorem d_Bo_count_92 : decode b_Bo_count 92 = .ok (.ireturn, 1) := by decide +kernel
theorem d_Bo_count_93 : decode b_Bo_count 93 = .ok (.iconst (-1), 1) := by decide +kernel
theorem d_Bo_count_94 : decode b_Bo_count 94 = .ok (.ireturn, 1) := by decide +kernel
def fn_Bo_seal (N : Nat) (p0 : Int32) (σ : gx_M) : Option (Int32 × gx_M) := gx_bd (fn_Ro_find N 24 p0 σ) (fun x_3 σ_1 => gx_mt x_3 (some ((-1 : Int32), σ_1)) (fun o_4 => if 42 ≤ o_4 ∧ o_4 < 722 then (if (σ_1 o_4 10) = ((6 : Int32)) then (if (σ_1 o_4 9) = 0 then (gx_lt (gx_up σ_1 o_4 9 ((1 : Int32))) (fun σ_8 => gx_bv (fn_Ro_releaseIfComplete N 24 o_4 σ_8) (fun σ_9 => gx_bv (fn_Jn_write N 24 σ_9) (fun σ_11 => some ((0 : Int32), σ_11))))) else (some ((-1 : Int32), σ_1))) else (some ((-1 : Int32), σ_1))) else none))
set_option maxHeartbeats 4000000 in
set_option maxRecDepth 100000 in
theorem ct_Bo_seal (l : Launch) (D : va_G) (dA : Nat → ClassId) (adr : Nat → Nat) (A : Nat → Prop) (hA : gx_A A adr) (N : Nat) (p0 : Int32) (σ : gx_M) (r : Int32) (σ' : gx_M) (hf : fn_Bo_seal N p0 σ = some (r, σ')) : Met l y_Bo_seal w_Bo_seal rm_Bo_seal (gx_Pc D dA adr σ [.ref (adr 0), .int p0]) (gx_Q D dA adr A (some (.int r)) σ') 0 0 A := by
  refine Met.ofW (cc := b_Bo_seal) (maxL := 3) (ret := some .int) (by decide) rfl ?_
  intro p e s m args below meth c s₁ B hml hv
  obtain ⟨rfl, hP, hK⟩ := hv
  have hx := B.exec
  have hb := B.bytes
  have hr := B.returns
  have hlocks := B.notSynchronized
  have ht : ∀ w ∈ gx_tb, w.before _ s = true := fun w h => atoms_spec (ws := w_Bo_seal) B.pre w (List.mem_cons_of_mem _ h)
  have hown : s.vm.findClass R_Bo = some m.cls := findClass_of_methodNamed B.named
  have G : gx_G p m c b_Bo_seal 3 s _ gx_tb R_Bo D dA := ⟨⟨hx, hb, hml, hown, ht⟩, hK⟩
  have hI : gx_I D dA adr A s.heap σ s.heap [] := ⟨hP, va_S.rf⟩
  have hl := lv_entry ([.ref (adr 0), .int p0]) (n := 3) (Nat.le_of_ble_eq_true rfl)
  rw [lg_entry_eq]
  generalize (lg_sl ([.ref (adr 0), .int p0]) ++ List.replicate (3 - (lg_sl ([.ref (adr 0), .int p0])).length) Slot.unset).toArray = ls at hl ⊢
  have hl : lv_has ls 3 [(0, .ref (adr 0)), (1, .int p0)] := hl
  rw [fn_Bo_seal] at hf
  refine lv_aload_n hx hb d_Bo_seal_0 rfl (lv_at hl 0 rfl) ?_
  refine gx_getR (o' := 24) G hI cl_Bo (by decide) 2 (by decide) (by decide) fl_Bo_23 d_Bo_seal_1 ?_
  refine lv_iload_n hx hb d_Bo_seal_4 rfl (lv_at hl 1 rfl) ?_
  obtain ⟨x_3, σ_1, hc_2, hf⟩ := gx_bde hf
  rcases x_3 with _ | o_4
  · replace hf := gx_mtn hf
    refine gx_go (va_runV (As := [.int p0]) (rest := []) G.1 (ct_Ro_find l D dA adr A hA N 24 p0 σ none σ_1 hc_2) (cwV 1 ht gi_Bo_86 rfl rfl rfl (by decide +kernel) ⟨Nat.le_of_ble_eq_true rfl, Nat.le_of_ble_eq_true rfl⟩) (gx_preV G hI cl_Ro (gx_ci_r (by decide))) rfl rfl hl.1 rfl (lv_room (Nat.le_of_ble_eq_true rfl)) d_Bo_seal_5 ⟨Nat.zero_le _, Nat.zero_le _⟩) hI (st1 := [.null]) rfl (fun H locs hI => ?_)
    refine lv_astore_nN (i := 2) (lv' := [(2, .null), (0, .ref (adr 0)), (1, .int p0)]) hx hb d_Bo_seal_8 rfl hl (by decide) rfl (fun ls hl => ?_)
    refine lv_aload_nN hx hb d_Bo_seal_9 rfl (lv_at hl 0 rfl) ?_
    refine lv_ifnullN (tgt := 29) hx hb d_Bo_seal_10 (by decide) ?_
    refine lv_iconst (v := (-1)) hx hb d_Bo_seal_29 (by decide) ?_
    cases hf
    exact W.iret hx hb hr (gx_F hI) hI.2.2.2 d_Bo_seal_30
  · replace hf := gx_mts hf
    obtain ⟨hg_5, hf⟩ := gx_gd hf
    refine gx_go (va_runV (As := [.int p0]) (rest := []) G.1 (ct_Ro_find l D dA adr A hA N 24 p0 σ (some o_4) σ_1 hc_2) (cwV 1 ht gi_Bo_86 rfl rfl rfl (by decide +kernel) ⟨Nat.le_of_ble_eq_true rfl, Nat.le_of_ble_eq_true rfl⟩) (gx_preV G hI cl_Ro (gx_ci_r (by decide))) rfl rfl hl.1 rfl (lv_room (Nat.le_of_ble_eq_true rfl)) d_Bo_seal_5 ⟨Nat.zero_le _, Nat.zero_le _⟩) hI (st1 := [.ref (adr o_4)]) rfl (fun H locs hI => ?_)
    refine lv_astore_n (i := 2) (lv' := [(2, .ref (adr o_4)), (0, .ref (adr 0)), (1, .int p0)]) hx hb d_Bo_seal_8 rfl hl (by decide) rfl (fun ls hl => ?_)
    refine lv_aload_n hx hb d_Bo_seal_9 rfl (lv_at hl 0 rfl) ?_
    refine lv_ifnull hx hb d_Bo_seal_10 ?_
    refine lv_aload_n hx hb d_Bo_seal_13 rfl (lv_at hl 0 rfl) ?_
    refine gx_getI G hI cl_Jb (gx_ci_j hg_5) 10 (by decide) (gx_rf_j hg_5 10) fl_Bo_97 d_Bo_seal_14 ?_
    refine lv_bipush (v := 6) hx hb d_Bo_seal_17 (by decide) ?_
    refine lv_icmp_ne (tgt := 29) hx hb d_Bo_seal_19 (by decide) (fun c_6 => ?_) (fun c_6 => ?_)
    · replace hf := (if_neg c_6).symm.trans hf
      refine lv_iconst (v := (-1)) hx hb d_Bo_seal_29 (by decide) ?_
      cases hf
      exact W.iret hx hb hr (gx_F hI) hI.2.2.2 d_Bo_seal_30
    · replace hf := (if_pos c_6).symm.trans hf
      refine lv_aload_n hx hb d_Bo_seal_22 rfl (lv_at hl 0 rfl) ?_
      refine gx_getI G hI cl_Jb (gx_ci_j hg_5) 9 (by decide) (gx_rf_j hg_5 9) fl_Bo_103 d_Bo_seal_23 ?_
      refine lv_if_eq (tgt := 31) hx hb d_Bo_seal_26 (by decide) (fun c_7 => ?_) (fun c_7 => ?_)
      · replace hf := (if_pos c_7).symm.trans hf
        refine lv_aload_n hx hb d_Bo_seal_31 rfl (lv_at hl 0 rfl) ?_
        refine lv_iconst (v := 1) hx hb d_Bo_seal_32 (by decide) ?_
        obtain ⟨σ_8, eσ_8, hf⟩ := gx_lte hf
        refine gx_put G hI hA cl_Jb (gx_ci_j hg_5) 9 (by decide) (gx_rf_j hg_5 9) fl_Bo_103 rfl (by decide) (by decide) eσ_8 d_Bo_seal_33 (fun H locs hI => ?_)
        refine lv_aload_n hx hb d_Bo_seal_36 rfl (lv_at hl 1 rfl) ?_
        refine gx_getR (o' := 24) G hI cl_Bo (by decide) 2 (by decide) (by decide) fl_Bo_23 d_Bo_seal_37 ?_
        refine lv_aload_n hx hb d_Bo_seal_40 rfl (lv_at hl 0 rfl) ?_
        obtain ⟨σ_9, hc_10, hf⟩ := gx_bve hf
        refine gx_go (va_runV (As := [.ref (adr o_4)]) (rest := []) G.1 (ct_Ro_releaseIfComplete l D dA adr A hA N 24 o_4 σ_8 σ_9 hc_10) (cwV 1 ht gi_Bo_106 rfl rfl rfl (by decide +kernel) ⟨Nat.le_of_ble_eq_true rfl, Nat.le_of_ble_eq_true rfl⟩) (gx_preV G hI cl_Ro (gx_ci_r (by decide))) rfl rfl hl.1 rfl (lv_room (Nat.le_of_ble_eq_true rfl)) d_Bo_seal_41 ⟨Nat.zero_le _, Nat.zero_le _⟩) hI (st1 := []) rfl (fun H locs hI => ?_)
        refine lv_aload_n hx hb d_Bo_seal_44 rfl (lv_at hl 1 rfl) ?_
        refine gx_getR (o' := 6) G hI cl_Bo (by decide) 3 (by decide) (by decide) fl_Bo_30 d_Bo_seal_45 ?_
        refine lv_aload_n hx hb d_Bo_seal_48 rfl (lv_at hl 1 rfl) ?_
        refine gx_getR (o' := 24) G hI cl_Bo (by decide) 2 (by decide) (by decide) fl_Bo_23 d_Bo_seal_49 ?_
        obtain ⟨σ_11, hc_12, hf⟩ := gx_bve hf
        refine gx_go (va_runV (As := [.ref (adr 24)]) (rest := []) G.1 (ct_Jn_write l D dA adr A hA N 24 σ_9 σ_11 hc_12) (cwV 1 ht gi_Bo_79 rfl rfl rfl (by decide +kernel) ⟨Nat.le_of_ble_eq_true rfl, Nat.le_of_ble_eq_true rfl⟩) (gx_preV G hI cl_Jn (by decide)) rfl rfl hl.1 rfl (lv_room (Nat.le_of_ble_eq_true rfl)) d_Bo_seal_52 ⟨Nat.zero_le _, Nat.zero_le _⟩) hI (st1 := []) rfl (fun H locs hI => ?_)
        refine lv_iconst (v := 0) hx hb d_Bo_seal_55 (by decide) ?_
        cases hf
        exact W.iret hx hb hr (gx_F hI) hI.2.2.2 d_Bo_seal_56
      · replace hf := (if_neg c_7).symm.trans hf
        refine lv_iconst (v := (-1)) hx hb d_Bo_seal_29 (by decide) ?_
        cases hf
        exact W.iret hx hb hr (gx_F hI) hI.2.2.2 d_Bo_seal_30
def fn_Bo_take (N : Nat) (p0 : Int32) (p1 : Int32) (σ : gx_M) : Option (Int32 × gx_M) := gx_bd (fn_Bo_isWorker N p0 σ) (fun r_3 σ_1 => if r_3 = 0 then (some ((-1 : Int32), σ_1)) else (gx_bd (fn_Bo_within N p1 ((1 : Int32)) ((100 : Int32)) σ_1) (fun r_7 σ_5 => if r_7 = 0 then (some ((-1 : Int32), σ_5)) else (gx_bd (fn_Ro_reservedBy N 24 p0 σ_5) (fun x_11 σ_9 => gx_mt x_11 (if (σ_9 0 0) = 0 then (gx_bd (fn_Bo_openQueueByCredit N σ_9) (fun r_17 σ_15 => if r_17 = ((-4 : Int32)) then (some ((-4 : Int32), σ_15)) else (gx_bd (fn_Ro_nextInLine N 24 r_17 none σ_15) (fun x_21 σ_19 => gx_mt x_21 (some ((-4 : Int32), σ_19)) (fun o_22 => if 42 ≤ o_22 ∧ o_22 < 722 then (if 0 ≤ r_17 ∧ r_17 < 4 then (gx_bv (fn_Qu_spendToken N (gx_el 1 r_17.toNatClampNeg) σ_19) (fun σ_25 => gx_lt (gx_up σ_25 o_22 12 p0) (fun σ_27 => gx_bv (fn_Jb_waitUntil N o_22 ((2 : Int32)) ((σ_27 0 4) + p1) σ_27) (fun σ_28 => gx_bv (fn_Jn_write N 24 σ_28) (fun σ_30 => some (σ_30 o_22 0, σ_30)))))) else none) else none))))) else (gx_bd (fn_Bo_firstOpenQueue N σ_9) (fun r_34 σ_32 => if r_34 = ((-4 : Int32)) then (some ((-4 : Int32), σ_32)) else (gx_bd (fn_Ro_nextInLine N 24 r_34 none σ_32) (fun x_38 σ_36 => gx_mt x_38 (some ((-4 : Int32), σ_36)) (fun o_39 => if 42 ≤ o_39 ∧ o_39 < 722 then (if 0 ≤ r_34 ∧ r_34 < 4 then (gx_bv (fn_Qu_spendToken N (gx_el 1 r_34.toNatClampNeg) σ_36) (fun σ_42 => gx_lt (gx_up σ_42 o_39 12 p0) (fun σ_44 => gx_bv (fn_Jb_waitUntil N o_39 ((2 : Int32)) ((σ_44 0 4) + p1) σ_44) (fun σ_45 => gx_bv (fn_Jn_write N 24 σ_45) (fun σ_47 => some (σ_47 o_39 0, σ_47)))))) else none) else none)))))) (fun o_12 => if 42 ≤ o_12 ∧ o_12 < 722 then (some ((-1 : Int32), σ_9)) else none))))))
set_option maxHeartbeats 4000000 in
set_option maxRecDepth 100000 in
theorem ct_Bo_take (l : Launch) (D : va_G) (dA : Nat → ClassId) (adr : Nat → Nat) (A : Nat → Prop) (hA : gx_A A adr) (N : Nat) (p0 : Int32) (p1 : Int32) (σ : gx_M) (r : Int32) (σ' : gx_M) (hf : fn_Bo_take N p0 p1 σ = some (r, σ')) : Met l y_Bo_take w_Bo_take rm_Bo_take (gx_Pc D dA adr σ [.ref (adr 0), .int p0, .int p1]) (gx_Q D dA adr A (some (.int r)) σ') 0 0 A := by
  refine Met.ofW (cc := b_Bo_take) (maxL := 5) (ret := some .int) (by decide) rfl ?_
  intro p e s m args below meth c s₁ B hml hv
  obtain ⟨rfl, hP, hK⟩ := hv
  have hx := B.exec
  have hb := B.bytes
  have hr := B.returns
  have hlocks := B.notSynchronized
  have ht : ∀ w ∈ gx_tb, w.before _ s = true := fun w h => atoms_spec (ws := w_Bo_take) B.pre w (List.mem_cons_of_mem _ h)
  have hown : s.vm.findClass R_Bo = some m.cls := findClass_of_methodNamed B.named
  have G : gx_G p m c b_Bo_take 5 s _ gx_tb R_Bo D dA := ⟨⟨hx, hb, hml, hown, ht⟩, hK⟩
  have hI : gx_I D dA adr A s.heap σ s.heap [] := ⟨hP, va_S.rf⟩
  have hl := lv_entry ([.ref (adr 0), .int p0, .int p1]) (n := 5) (Nat.le_of_ble_eq_true rfl)
  rw [lg_entry_eq]
  generalize (lg_sl ([.ref (adr 0), .int p0, .int p1]) ++ List.replicate (5 - (lg_sl ([.ref (adr 0), .int p0, .int p1])).length) Slot.unset).toArray = ls at hl ⊢
  have hl : lv_has ls 5 [(0, .ref (adr 0)), (1, .int p0), (2, .int p1)] := hl
  rw [fn_Bo_take] at hf
  refine lv_iload_n hx hb d_Bo_take_0 rfl (lv_at hl 1 rfl) ?_
  obtain ⟨r_3, σ_1, hc_2, hf⟩ := gx_bde hf
  refine gx_go (va_runS (As := [.int p0]) (rest := []) G.1 (ct_Bo_isWorker l D dA adr A hA N p0 σ r_3 σ_1 hc_2) (cwS 1 ht gi_Bo_110 rfl rfl rfl (by decide +kernel) ⟨Nat.le_of_ble_eq_true rfl, Nat.le_of_ble_eq_true rfl⟩) (gx_pre G hI) rfl rfl hl.1 rfl (lv_room (Nat.le_of_ble_eq_true rfl)) d_Bo_take_1 ⟨Nat.zero_le _, Nat.zero_le _⟩) hI (st1 := [.int r_3]) rfl (fun H locs hI => ?_)
  refine lv_if_eq (tgt := 28) hx hb d_Bo_take_4 (by decide) (fun c_4 => ?_) (fun c_4 => ?_)
  · replace hf := (if_pos c_4).symm.trans hf
    refine lv_iconst (v := (-1)) hx hb d_Bo_take_28 (by decide) ?_
    cases hf
    exact W.iret hx hb hr (gx_F hI) hI.2.2.2 d_Bo_take_29
  · replace hf := (if_neg c_4).symm.trans hf
    refine lv_iload_n hx hb d_Bo_take_7 rfl (lv_at hl 2 rfl) ?_
    refine lv_iconst (v := 1) hx hb d_Bo_take_8 (by decide) ?_
    refine lv_bipush (v := 100) hx hb d_Bo_take_9 (by decide) ?_
    obtain ⟨r_7, σ_5, hc_6, hf⟩ := gx_bde hf
    refine gx_go (va_runS (As := [.int p1, .int ((1 : Int32)), .int ((100 : Int32))]) (rest := []) G.1 (ct_Bo_within l D dA adr A hA N p1 ((1 : Int32)) ((100 : Int32)) σ_1 r_7 σ_5 hc_6) (cwS 3 ht gi_Bo_45 rfl rfl rfl (by decide +kernel) ⟨Nat.le_of_ble_eq_true rfl, Nat.le_of_ble_eq_true rfl⟩) (gx_pre G hI) rfl rfl hl.1 rfl (lv_room (Nat.le_of_ble_eq_true rfl)) d_Bo_take_11 ⟨Nat.zero_le _, Nat.zero_le _⟩) hI (st1 := [.int r_7]) rfl (fun H locs hI => ?_)
    refine lv_if_eq (tgt := 28) hx hb d_Bo_take_14 (by decide) (fun c_8 => ?_) (fun c_8 => ?_)
    · replace hf := (if_pos c_8).symm.trans hf
      refine lv_iconst (v := (-1)) hx hb d_Bo_take_28 (by decide) ?_
      cases hf
      exact W.iret hx hb hr (gx_F hI) hI.2.2.2 d_Bo_take_29
    · replace hf := (if_neg c_8).symm.trans hf
      refine lv_aload_n hx hb d_Bo_take_17 rfl (lv_at hl 0 rfl) ?_
      refine gx_getR (o' := 24) G hI cl_Bo (by decide) 2 (by decide) (by decide) fl_Bo_23 d_Bo_take_18 ?_
      refine lv_iload_n hx hb d_Bo_take_21 rfl (lv_at hl 1 rfl) ?_
      obtain ⟨x_11, σ_9, hc_10, hf⟩ := gx_bde hf
      rcases x_11 with _ | o_12
      · replace hf := gx_mtn hf
        refine gx_go (va_runV (As := [.int p0]) (rest := []) G.1 (ct_Ro_reservedBy l D dA adr A hA N 24 p0 σ_5 none σ_9 hc_10) (cwV 1 ht gi_Bo_113 rfl rfl rfl (by decide +kernel) ⟨Nat.le_of_ble_eq_true rfl, Nat.le_of_ble_eq_true rfl⟩) (gx_preV G hI cl_Ro (gx_ci_r (by decide))) rfl rfl hl.1 rfl (lv_room (Nat.le_of_ble_eq_true rfl)) d_Bo_take_22 ⟨Nat.zero_le _, Nat.zero_le _⟩) hI (st1 := [.null]) rfl (fun H locs hI => ?_)
        refine lv_ifnullN (tgt := 30) hx hb d_Bo_take_25 (by decide) ?_
        refine lv_aload_n hx hb d_Bo_take_30 rfl (lv_at hl 0 rfl) ?_
        refine gx_getI G hI cl_Bo (by decide) 0 (by decide) (by decide) fl_Bo_9 d_Bo_take_31 ?_
        refine lv_if_eq (tgt := 44) hx hb d_Bo_take_34 (by decide) (fun c_14 => ?_) (fun c_14 => ?_)
        · replace hf := (if_pos c_14).symm.trans hf
          refine lv_aload_n hx hb d_Bo_take_44 rfl (lv_at hl 0 rfl) ?_
          obtain ⟨r_17, σ_15, hc_16, hf⟩ := gx_bde hf
          refine gx_go (va_runV (As := []) (rest := []) G.1 (ct_Bo_openQueueByCredit l D dA adr A hA N σ_9 r_17 σ_15 hc_16) (cwV 0 ht gi_Bo_120 rfl rfl rfl (by decide +kernel) ⟨Nat.le_of_ble_eq_true rfl, Nat.le_of_ble_eq_true rfl⟩) (gx_preV G hI cl_Bo (by decide)) rfl rfl hl.1 rfl (lv_room (Nat.le_of_ble_eq_true rfl)) d_Bo_take_45 ⟨Nat.zero_le _, Nat.zero_le _⟩) hI (st1 := [.int r_17]) rfl (fun H locs hI => ?_)
          refine lv_istore_n (i := 3) (lv' := [(3, .int r_17), (0, .ref (adr 0)), (1, .int p0), (2, .int p1)]) hx hb d_Bo_take_48 rfl hl (by decide) rfl (fun ls hl => ?_)
          refine lv_iload_n hx hb d_Bo_take_49 rfl (lv_at hl 0 rfl) ?_
          refine lv_bipush (v := (-4)) hx hb d_Bo_take_50 (by decide) ?_
          refine lv_icmp_ne (tgt := 59) hx hb d_Bo_take_52 (by decide) (fun c_18 => ?_) (fun c_18 => ?_)
          · replace hf := (if_neg c_18).symm.trans hf
            refine lv_aload_n hx hb d_Bo_take_59 rfl (lv_at hl 1 rfl) ?_
            refine gx_getR (o' := 24) G hI cl_Bo (by decide) 2 (by decide) (by decide) fl_Bo_23 d_Bo_take_60 ?_
            refine lv_iload_n hx hb d_Bo_take_63 rfl (lv_at hl 0 rfl) ?_
            refine lv_null hx hb d_Bo_take_64 ?_
            obtain ⟨x_21, σ_19, hc_20, hf⟩ := gx_bde hf
            rcases x_21 with _ | o_22
            · replace hf := gx_mtn hf
              refine gx_go (va_runV (As := [.int r_17, .null]) (rest := []) G.1 (ct_Ro_nextInLine l D dA adr A hA N 24 r_17 none σ_15 none σ_19 hc_20) (cwV 2 ht gi_Bo_123 rfl rfl rfl (by decide +kernel) ⟨Nat.le_of_ble_eq_true rfl, Nat.le_of_ble_eq_true rfl⟩) (gx_preV G hI cl_Ro (gx_ci_r (by decide))) rfl rfl hl.1 rfl (lv_room (Nat.le_of_ble_eq_true rfl)) d_Bo_take_65 ⟨Nat.zero_le _, Nat.zero_le _⟩) hI (st1 := [.null]) rfl (fun H locs hI => ?_)
              refine lv_astoreN (i := 4) (lv' := [(4, .null), (3, .int r_17), (0, .ref (adr 0)), (1, .int p0), (2, .int p1)]) hx hb d_Bo_take_68 hl (by decide) rfl (fun ls hl => ?_)
              refine lv_aloadN hx hb d_Bo_take_70 (lv_at hl 0 rfl) ?_
              refine lv_ifnonnullN hx hb d_Bo_take_72 ?_
              refine lv_bipush (v := (-4)) hx hb d_Bo_take_75 (by decide) ?_
              cases hf
              exact W.iret hx hb hr (gx_F hI) hI.2.2.2 d_Bo_take_77
            · replace hf := gx_mts hf
              obtain ⟨hg_23, hf⟩ := gx_gd hf
              refine gx_go (va_runV (As := [.int r_17, .null]) (rest := []) G.1 (ct_Ro_nextInLine l D dA adr A hA N 24 r_17 none σ_15 (some o_22) σ_19 hc_20) (cwV 2 ht gi_Bo_123 rfl rfl rfl (by decide +kernel) ⟨Nat.le_of_ble_eq_true rfl, Nat.le_of_ble_eq_true rfl⟩) (gx_preV G hI cl_Ro (gx_ci_r (by decide))) rfl rfl hl.1 rfl (lv_room (Nat.le_of_ble_eq_true rfl)) d_Bo_take_65 ⟨Nat.zero_le _, Nat.zero_le _⟩) hI (st1 := [.ref (adr o_22)]) rfl (fun H locs hI => ?_)
              refine lv_astore (i := 4) (lv' := [(4, .ref (adr o_22)), (3, .int r_17), (0, .ref (adr 0)), (1, .int p0), (2, .int p1)]) hx hb d_Bo_take_68 hl (by decide) rfl (fun ls hl => ?_)
              refine lv_aload hx hb d_Bo_take_70 (lv_at hl 0 rfl) ?_
              refine lv_ifnonnull (tgt := 78) hx hb d_Bo_take_72 (by decide) ?_
              refine lv_aload_n hx hb d_Bo_take_78 rfl (lv_at hl 2 rfl) ?_
              refine gx_getR (o' := 1) G hI cl_Bo (by decide) 1 (by decide) (by decide) fl_Bo_15 d_Bo_take_79 ?_
              refine lv_iload_n hx hb d_Bo_take_82 rfl (lv_at hl 1 rfl) ?_
              obtain ⟨hi_24, hf⟩ := gx_gd hf
              refine gx_aldQ G hI hi_24 d_Bo_take_83 ?_
              obtain ⟨σ_25, hc_26, hf⟩ := gx_bve hf
              refine gx_go (va_runV (As := []) (rest := []) G.1 (ct_Qu_spendToken l D dA adr A hA N (gx_el 1 r_17.toNatClampNeg) σ_19 σ_25 hc_26) (cwV 0 ht gi_Bo_127 rfl rfl rfl (by decide +kernel) ⟨Nat.le_of_ble_eq_true rfl, Nat.le_of_ble_eq_true rfl⟩) (gx_preV G hI cl_Qu (gx_ci_q (gx_el_q hi_24))) rfl rfl hl.1 rfl (lv_room (Nat.le_of_ble_eq_true rfl)) d_Bo_take_84 ⟨Nat.zero_le _, Nat.zero_le _⟩) hI (st1 := []) rfl (fun H locs hI => ?_)
              refine lv_aload hx hb d_Bo_take_87 (lv_at hl 0 rfl) ?_
              refine lv_iload_n hx hb d_Bo_take_89 rfl (lv_at hl 3 rfl) ?_
              obtain ⟨σ_27, eσ_27, hf⟩ := gx_lte hf
              refine gx_put G hI hA cl_Jb (gx_ci_j hg_23) 12 (by decide) (gx_rf_j hg_23 12) fl_Bo_130 rfl rfl rfl eσ_27 d_Bo_take_90 (fun H locs hI => ?_)
              refine lv_aload hx hb d_Bo_take_93 (lv_at hl 0 rfl) ?_
              refine lv_iconst (v := 2) hx hb d_Bo_take_95 (by decide) ?_
              refine lv_aload_n hx hb d_Bo_take_96 rfl (lv_at hl 2 rfl) ?_
              refine gx_getI G hI cl_Bo (by decide) 4 (by decide) (by decide) fl_Bo_34 d_Bo_take_97 ?_
              refine lv_iload_n hx hb d_Bo_take_100 rfl (lv_at hl 4 rfl) ?_
              refine lv_iadd hx hb d_Bo_take_101 ?_
              obtain ⟨σ_28, hc_29, hf⟩ := gx_bve hf
              refine gx_go (va_runV (As := [.int ((2 : Int32)), .int ((σ_27 0 4) + p1)]) (rest := []) G.1 (ct_Jb_waitUntil l D dA adr A hA N o_22 ((2 : Int32)) ((σ_27 0 4) + p1) σ_27 σ_28 hc_29) (cwV 2 ht gi_Bo_75 rfl rfl rfl (by decide +kernel) ⟨Nat.le_of_ble_eq_true rfl, Nat.le_of_ble_eq_true rfl⟩) (gx_preV G hI cl_Jb (gx_ci_j hg_23)) rfl rfl hl.1 rfl (lv_room (Nat.le_of_ble_eq_true rfl)) d_Bo_take_102 ⟨Nat.zero_le _, Nat.zero_le _⟩) hI (st1 := []) rfl (fun H locs hI => ?_)
              refine lv_aload_n hx hb d_Bo_take_105 rfl (lv_at hl 2 rfl) ?_
              refine gx_getR (o' := 6) G hI cl_Bo (by decide) 3 (by decide) (by decide) fl_Bo_30 d_Bo_take_106 ?_
              refine lv_aload_n hx hb d_Bo_take_109 rfl (lv_at hl 2 rfl) ?_
              refine gx_getR (o' := 24) G hI cl_Bo (by decide) 2 (by decide) (by decide) fl_Bo_23 d_Bo_take_110 ?_
              obtain ⟨σ_30, hc_31, hf⟩ := gx_bve hf
              refine gx_go (va_runV (As := [.ref (adr 24)]) (rest := []) G.1 (ct_Jn_write l D dA adr A hA N 24 σ_28 σ_30 hc_31) (cwV 1 ht gi_Bo_79 rfl rfl rfl (by decide +kernel) ⟨Nat.le_of_ble_eq_true rfl, Nat.le_of_ble_eq_true rfl⟩) (gx_preV G hI cl_Jn (by decide)) rfl rfl hl.1 rfl (lv_room (Nat.le_of_ble_eq_true rfl)) d_Bo_take_113 ⟨Nat.zero_le _, Nat.zero_le _⟩) hI (st1 := []) rfl (fun H locs hI => ?_)
              refine lv_aload hx hb d_Bo_take_116 (lv_at hl 0 rfl) ?_
              refine gx_getI G hI cl_Jb (gx_ci_j hg_23) 0 (by decide) (gx_rf_j hg_23 0) fl_Bo_83 d_Bo_take_118 ?_
              cases hf
              exact W.iret hx hb hr (gx_F hI) hI.2.2.2 d_Bo_take_121
          · replace hf := (if_pos c_18).symm.trans hf
            refine lv_null hx hb d_Bo_take_55 ?_
            refine lv_goto (tgt := 68) hx hb d_Bo_take_56 (by decide) ?_
            refine lv_astoreN (i := 4) (lv' := [(4, .null), (3, .int r_17), (0, .ref (adr 0)), (1, .int p0), (2, .int p1)]) hx hb d_Bo_take_68 hl (by decide) rfl (fun ls hl => ?_)
            refine lv_aloadN hx hb d_Bo_take_70 (lv_at hl 0 rfl) ?_
            refine lv_ifnonnullN hx hb d_Bo_take_72 ?_
            refine lv_bipush (v := (-4)) hx hb d_Bo_take_75 (by decide) ?_
            cases hf
            exact W.iret hx hb hr (gx_F hI) hI.2.2.2 d_Bo_take_77
        · replace hf := (if_neg c_14).symm.trans hf
          refine lv_aload_n hx hb d_Bo_take_37 rfl (lv_at hl 0 rfl) ?_
          obtain ⟨r_34, σ_32, hc_33, hf⟩ := gx_bde hf
          refine gx_go (va_runV (As := []) (rest := []) G.1 (ct_Bo_firstOpenQueue l D dA adr A hA N σ_9 r_34 σ_32 hc_33) (cwV 0 ht gi_Bo_116 rfl rfl rfl (by decide +kernel) ⟨Nat.le_of_ble_eq_true rfl, Nat.le_of_ble_eq_true rfl⟩) (gx_preV G hI cl_Bo (by decide)) rfl rfl hl.1 rfl (lv_room (Nat.le_of_ble_eq_true rfl)) d_Bo_take_38 ⟨Nat.zero_le _, Nat.zero_le _⟩) hI (st1 := [.int r_34]) rfl (fun H locs hI => ?_)
          refine lv_goto (tgt := 48) hx hb d_Bo_take_41 (by decide) ?_
          refine lv_istore_n (i := 3) (lv' := [(3, .int r_34), (0, .ref (adr 0)), (1, .int p0), (2, .int p1)]) hx hb d_Bo_take_48 rfl hl (by decide) rfl (fun ls hl => ?_)
          refine lv_iload_n hx hb d_Bo_take_49 rfl (lv_at hl 0 rfl) ?_
          refine lv_bipush (v := (-4)) hx hb d_Bo_take_50 (by decide) ?_
          refine lv_icmp_ne (tgt := 59) hx hb d_Bo_take_52 (by decide) (fun c_35 => ?_) (fun c_35 => ?_)
          · replace hf := (if_neg c_35).symm.trans hf
            refine lv_aload_n hx hb d_Bo_take_59 rfl (lv_at hl 1 rfl) ?_
            refine gx_getR (o' := 24) G hI cl_Bo (by decide) 2 (by decide) (by decide) fl_Bo_23 d_Bo_take_60 ?_
            refine lv_iload_n hx hb d_Bo_take_63 rfl (lv_at hl 0 rfl) ?_
            refine lv_null hx hb d_Bo_take_64 ?_
            obtain ⟨x_38, σ_36, hc_37, hf⟩ := gx_bde hf
            rcases x_38 with _ | o_39
            · replace hf := gx_mtn hf
              refine gx_go (va_runV (As := [.int r_34, .null]) (rest := []) G.1 (ct_Ro_nextInLine l D dA adr A hA N 24 r_34 none σ_32 none σ_36 hc_37) (cwV 2 ht gi_Bo_123 rfl rfl rfl (by decide +kernel) ⟨Nat.le_of_ble_eq_true rfl, Nat.le_of_ble_eq_true rfl⟩) (gx_preV G hI cl_Ro (gx_ci_r (by decide))) rfl rfl hl.1 rfl (lv_room (Nat.le_of_ble_eq_true rfl)) d_Bo_take_65 ⟨Nat.zero_le _, Nat.zero_le _⟩) hI (st1 := [.null]) rfl (fun H locs hI => ?_)
              refine lv_astoreN (i := 4) (lv' := [(4, .null), (3, .int r_34), (0, .ref (adr 0)), (1, .int p0), (2, .int p1)]) hx hb d_Bo_take_68 hl (by decide) rfl (fun ls hl => ?_)
              refine lv_aloadN hx hb d_Bo_take_70 (lv_at hl 0 rfl) ?_
              refine lv_ifnonnullN hx hb d_Bo_take_72 ?_
              refine lv_bipush (v := (-4)) hx hb d_Bo_take_75 (by decide) ?_
              cases hf
              exact W.iret hx hb hr (gx_F hI) hI.2.2.2 d_Bo_take_77
            · replace hf := gx_mts hf
              obtain ⟨hg_40, hf⟩ := gx_gd hf
              refine gx_go (va_runV (As := [.int r_34, .null]) (rest := []) G.1 (ct_Ro_nextInLine l D dA adr A hA N 24 r_34 none σ_32 (some o_39) σ_36 hc_37) (cwV 2 ht gi_Bo_123 rfl rfl rfl (by decide +kernel) ⟨Nat.le_of_ble_eq_true rfl, Nat.le_of_ble_eq_true rfl⟩) (gx_preV G hI cl_Ro (gx_ci_r (by decide))) rfl rfl hl.1 rfl (lv_room (Nat.le_of_ble_eq_true rfl)) d_Bo_take_65 ⟨Nat.zero_le _, Nat.zero_le _⟩) hI (st1 := [.ref (adr o_39)]) rfl (fun H locs hI => ?_)
              refine lv_astore (i := 4) (lv' := [(4, .ref (adr o_39)), (3, .int r_34), (0, .ref (adr 0)), (1, .int p0), (2, .int p1)]) hx hb d_Bo_take_68 hl (by decide) rfl (fun ls hl => ?_)
              refine lv_aload hx hb d_Bo_take_70 (lv_at hl 0 rfl) ?_
              refine lv_ifnonnull (tgt := 78) hx hb d_Bo_take_72 (by decide) ?_
              refine lv_aload_n hx hb d_Bo_take_78 rfl (lv_at hl 2 rfl) ?_
              refine gx_getR (o' := 1) G hI cl_Bo (by decide) 1 (by decide) (by decide) fl_Bo_15 d_Bo_take_79 ?_
              refine lv_iload_n hx hb d_Bo_take_82 rfl (lv_at hl 1 rfl) ?_
              obtain ⟨hi_41, hf⟩ := gx_gd hf
              refine gx_aldQ G hI hi_41 d_Bo_take_83 ?_
              obtain ⟨σ_42, hc_43, hf⟩ := gx_bve hf
              refine gx_go (va_runV (As := []) (rest := []) G.1 (ct_Qu_spendToken l D dA adr A hA N (gx_el 1 r_34.toNatClampNeg) σ_36 σ_42 hc_43) (cwV 0 ht gi_Bo_127 rfl rfl rfl (by decide +kernel) ⟨Nat.le_of_ble_eq_true rfl, Nat.le_of_ble_eq_true rfl⟩) (gx_preV G hI cl_Qu (gx_ci_q (gx_el_q hi_41))) rfl rfl hl.1 rfl (lv_room (Nat.le_of_ble_eq_true rfl)) d_Bo_take_84 ⟨Nat.zero_le _, Nat.zero_le _⟩) hI (st1 := []) rfl (fun H locs hI => ?_)
              refine lv_aload hx hb d_Bo_take_87 (lv_at hl 0 rfl) ?_
              refine lv_iload_n hx hb d_Bo_take_89 rfl (lv_at hl 3 rfl) ?_
              obtain ⟨σ_44, eσ_44, hf⟩ := gx_lte hf
              refine gx_put G hI hA cl_Jb (gx_ci_j hg_40) 12 (by decide) (gx_rf_j hg_40 12) fl_Bo_130 rfl rfl rfl eσ_44 d_Bo_take_90 (fun H locs hI => ?_)
              refine lv_aload hx hb d_Bo_take_93 (lv_at hl 0 rfl) ?_
              refine lv_iconst (v := 2) hx hb d_Bo_take_95 (by decide) ?_
              refine lv_aload_n hx hb d_Bo_take_96 rfl (lv_at hl 2 rfl) ?_
              refine gx_getI G hI cl_Bo (by decide) 4 (by decide) (by decide) fl_Bo_34 d_Bo_take_97 ?_
              refine lv_iload_n hx hb d_Bo_take_100 rfl (lv_at hl 4 rfl) ?_
              refine lv_iadd hx hb d_Bo_take_101 ?_
              obtain ⟨σ_45, hc_46, hf⟩ := gx_bve hf
              refine gx_go (va_runV (As := [.int ((2 : Int32)), .int ((σ_44 0 4) + p1)]) (rest := []) G.1 (ct_Jb_waitUntil l D dA adr A hA N o_39 ((2 : Int32)) ((σ_44 0 4) + p1) σ_44 σ_45 hc_46) (cwV 2 ht gi_Bo_75 rfl rfl rfl (by decide +kernel) ⟨Nat.le_of_ble_eq_true rfl, Nat.le_of_ble_eq_true rfl⟩) (gx_preV G hI cl_Jb (gx_ci_j hg_40)) rfl rfl hl.1 rfl (lv_room (Nat.le_of_ble_eq_true rfl)) d_Bo_take_102 ⟨Nat.zero_le _, Nat.zero_le _⟩) hI (st1 := []) rfl (fun H locs hI => ?_)
              refine lv_aload_n hx hb d_Bo_take_105 rfl (lv_at hl 2 rfl) ?_
              refine gx_getR (o' := 6) G hI cl_Bo (by decide) 3 (by decide) (by decide) fl_Bo_30 d_Bo_take_106 ?_
              refine lv_aload_n hx hb d_Bo_take_109 rfl (lv_at hl 2 rfl) ?_
              refine gx_getR (o' := 24) G hI cl_Bo (by decide) 2 (by decide) (by decide) fl_Bo_23 d_Bo_take_110 ?_
              obtain ⟨σ_47, hc_48, hf⟩ := gx_bve hf
              refine gx_go (va_runV (As := [.ref (adr 24)]) (rest := []) G.1 (ct_Jn_write l D dA adr A hA N 24 σ_45 σ_47 hc_48) (cwV 1 ht gi_Bo_79 rfl rfl rfl (by decide +kernel) ⟨Nat.le_of_ble_eq_true rfl, Nat.le_of_ble_eq_true rfl⟩) (gx_preV G hI cl_Jn (by decide)) rfl rfl hl.1 rfl (lv_room (Nat.le_of_ble_eq_true rfl)) d_Bo_take_113 ⟨Nat.zero_le _, Nat.zero_le _⟩) hI (st1 := []) rfl (fun H locs hI => ?_)
              refine lv_aload hx hb d_Bo_take_116 (lv_at hl 0 rfl) ?_
              refine gx_getI G hI cl_Jb (gx_ci_j hg_40) 0 (by decide) (gx_rf_j hg_40 0) fl_Bo_83 d_Bo_take_118 ?_
              cases hf
              exact W.iret hx hb hr (gx_F hI) hI.2.2.2 d_Bo_take_121
          · replace hf := (if_pos c_35).symm.trans hf
            refine lv_null hx hb d_Bo_take_55 ?_
            refine lv_goto (tgt := 68) hx hb d_Bo_take_56 (by decide) ?_
            refine lv_astoreN (i := 4) (lv' := [(4, .null), (3, .int r_34), (0, .ref (adr 0)), (1, .int p0), (2, .int p1)]) hx hb d_Bo_take_68 hl (by decide) rfl (fun ls hl => ?_)
            refine lv_aloadN hx hb d_Bo_take_70 (lv_at hl 0 rfl) ?_
            refine lv_ifnonnullN hx hb d_Bo_take_72 ?_
            refine lv_bipush (v := (-4)) hx hb d_Bo_take_75 (by decide) ?_
            cases hf
            exact W.iret hx hb hr (gx_F hI) hI.2.2.2 d_Bo_take_77
      · replace hf := gx_mts hf
        obtain ⟨hg_13, hf⟩ := gx_gd hf
        refine gx_go (va_runV (As := [.int p0]) (rest := []) G.1 (ct_Ro_reservedBy l D dA adr A hA N 24 p0 σ_5 (some o_12) σ_9 hc_10) (cwV 1 ht gi_Bo_113 rfl rfl rfl (by decide +kernel) ⟨Nat.le_of_ble_eq_true rfl, Nat.le_of_ble_eq_true rfl⟩) (gx_preV G hI cl_Ro (gx_ci_r (by decide))) rfl rfl hl.1 rfl (lv_room (Nat.le_of_ble_eq_true rfl)) d_Bo_take_22 ⟨Nat.zero_le _, Nat.zero_le _⟩) hI (st1 := [.ref (adr o_12)]) rfl (fun H locs hI => ?_)
        refine lv_ifnull hx hb d_Bo_take_25 ?_
        refine lv_iconst (v := (-1)) hx hb d_Bo_take_28 (by decide) ?_
        cases hf
        exact W.iret hx hb hr (gx_F hI) hI.2.2.2 d_Bo_take_29
def fn_Bo_ack (N : Nat) (p0 : Int32) (σ : gx_M) : Option (Int32 × gx_M) := gx_bd (fn_Ro_reservedBy N 24 p0 σ) (fun x_3 σ_1 => gx_mt x_3 (some ((-1 : Int32), σ_1)) (fun o_4 => if 42 ≤ o_4 ∧ o_4 < 722 then (gx_lt (gx_up σ_1 o_4 10 ((4 : Int32))) (fun σ_6 => gx_bd (fn_Ro_find N 24 (σ_6 o_4 7) σ_6) (fun x_9 σ_7 => gx_mt x_9 (gx_bv (fn_Jn_write N 24 σ_7) (fun σ_12 => some (σ_12 o_4 0, σ_12))) (fun o_10 => if 42 ≤ o_10 ∧ o_10 < 722 then (gx_lt (gx_up σ_7 o_10 8 ((σ_7 o_10 8) - ((1 : Int32)))) (fun σ_14 => gx_bv (fn_Ro_releaseIfComplete N 24 o_10 σ_14) (fun σ_15 => gx_bv (fn_Jn_write N 24 σ_15) (fun σ_17 => some (σ_17 o_4 0, σ_17))))) else none)))) else none))
set_option maxHeartbeats 4000000 in
set_option maxRecDepth 100000 in
theorem ct_Bo_ack (l : Launch) (D : va_G) (dA : Nat → ClassId) (adr : Nat → Nat) (A : Nat → Prop) (hA : gx_A A adr) (N : Nat) (p0 : Int32) (σ : gx_M) (r : Int32) (σ' : gx_M) (hf : fn_Bo_ack N p0 σ = some (r, σ')) : Met l y_Bo_ack w_Bo_ack rm_Bo_ack (gx_Pc D dA adr σ [.ref (adr 0), .int p0]) (gx_Q D dA adr A (some (.int r)) σ') 0 0 A := by
  refine Met.ofW (cc := b_Bo_ack) (maxL := 4) (ret := some .int) (by decide) rfl ?_
  intro p e s m args below meth c s₁ B hml hv
  obtain ⟨rfl, hP, hK⟩ := hv
  have hx := B.exec
  have hb := B.bytes
  have hr := B.returns
  have hlocks := B.notSynchronized
  have ht : ∀ w ∈ gx_tb, w.before _ s = true := fun w h => atoms_spec (ws := w_Bo_ack) B.pre w (List.mem_cons_of_mem _ h)
  have hown : s.vm.findClass R_Bo = some m.cls := findClass_of_methodNamed B.named
  have G : gx_G p m c b_Bo_ack 4 s _ gx_tb R_Bo D dA := ⟨⟨hx, hb, hml, hown, ht⟩, hK⟩
  have hI : gx_I D dA adr A s.heap σ s.heap [] := ⟨hP, va_S.rf⟩
  have hl := lv_entry ([.ref (adr 0), .int p0]) (n := 4) (Nat.le_of_ble_eq_true rfl)
  rw [lg_entry_eq]
  generalize (lg_sl ([.ref (adr 0), .int p0]) ++ List.replicate (4 - (lg_sl ([.ref (adr 0), .int p0])).length) Slot.unset).toArray = ls at hl ⊢
  have hl : lv_has ls 4 [(0, .ref (adr 0)), (1, .int p0)] := hl
  rw [fn_Bo_ack] at hf
  refine lv_aload_n hx hb d_Bo_ack_0 rfl (lv_at hl 0 rfl) ?_
  refine gx_getR (o' := 24) G hI cl_Bo (by decide) 2 (by decide) (by decide) fl_Bo_23 d_Bo_ack_1 ?_
  refine lv_iload_n hx hb d_Bo_ack_4 rfl (lv_at hl 1 rfl) ?_
  obtain ⟨x_3, σ_1, hc_2, hf⟩ := gx_bde hf
  rcases x_3 with _ | o_4
  · replace hf := gx_mtn hf
    refine gx_go (va_runV (As := [.int p0]) (rest := []) G.1 (ct_Ro_reservedBy l D dA adr A hA N 24 p0 σ none σ_1 hc_2) (cwV 1 ht gi_Bo_113 rfl rfl rfl (by decide +kernel) ⟨Nat.le_of_ble_eq_true rfl, Nat.le_of_ble_eq_true rfl⟩) (gx_preV G hI cl_Ro (gx_ci_r (by decide))) rfl rfl hl.1 rfl (lv_room (Nat.le_of_ble_eq_true rfl)) d_Bo_ack_5 ⟨Nat.zero_le _, Nat.zero_le _⟩) hI (st1 := [.null]) rfl (fun H locs hI => ?_)
    refine lv_astore_nN (i := 2) (lv' := [(2, .null), (0, .ref (adr 0)), (1, .int p0)]) hx hb d_Bo_ack_8 rfl hl (by decide) rfl (fun ls hl => ?_)
    refine lv_aload_nN hx hb d_Bo_ack_9 rfl (lv_at hl 0 rfl) ?_
    refine lv_ifnonnullN hx hb d_Bo_ack_10 ?_
    refine lv_iconst (v := (-1)) hx hb d_Bo_ack_13 (by decide) ?_
    cases hf
    exact W.iret hx hb hr (gx_F hI) hI.2.2.2 d_Bo_ack_14
  · replace hf := gx_mts hf
    obtain ⟨hg_5, hf⟩ := gx_gd hf
    refine gx_go (va_runV (As := [.int p0]) (rest := []) G.1 (ct_Ro_reservedBy l D dA adr A hA N 24 p0 σ (some o_4) σ_1 hc_2) (cwV 1 ht gi_Bo_113 rfl rfl rfl (by decide +kernel) ⟨Nat.le_of_ble_eq_true rfl, Nat.le_of_ble_eq_true rfl⟩) (gx_preV G hI cl_Ro (gx_ci_r (by decide))) rfl rfl hl.1 rfl (lv_room (Nat.le_of_ble_eq_true rfl)) d_Bo_ack_5 ⟨Nat.zero_le _, Nat.zero_le _⟩) hI (st1 := [.ref (adr o_4)]) rfl (fun H locs hI => ?_)
    refine lv_astore_n (i := 2) (lv' := [(2, .ref (adr o_4)), (0, .ref (adr 0)), (1, .int p0)]) hx hb d_Bo_ack_8 rfl hl (by decide) rfl (fun ls hl => ?_)
    refine lv_aload_n hx hb d_Bo_ack_9 rfl (lv_at hl 0 rfl) ?_
    refine lv_ifnonnull (tgt := 15) hx hb d_Bo_ack_10 (by decide) ?_
    refine lv_aload_n hx hb d_Bo_ack_15 rfl (lv_at hl 0 rfl) ?_
    refine lv_iconst (v := 4) hx hb d_Bo_ack_16 (by decide) ?_
    obtain ⟨σ_6, eσ_6, hf⟩ := gx_lte hf
    refine gx_put G hI hA cl_Jb (gx_ci_j hg_5) 10 (by decide) (gx_rf_j hg_5 10) fl_Bo_97 rfl rfl rfl eσ_6 d_Bo_ack_17 (fun H locs hI => ?_)
    refine lv_aload_n hx hb d_Bo_ack_20 rfl (lv_at hl 1 rfl) ?_
    refine gx_getR (o' := 24) G hI cl_Bo (by decide) 2 (by decide) (by decide) fl_Bo_23 d_Bo_ack_21 ?_
    refine lv_aload_n hx hb d_Bo_ack_24 rfl (lv_at hl 0 rfl) ?_
    refine gx_getI G hI cl_Jb (gx_ci_j hg_5) 7 (by decide) (gx_rf_j hg_5 7) fl_Bo_94 d_Bo_ack_25 ?_
    obtain ⟨x_9, σ_7, hc_8, hf⟩ := gx_bde hf
    rcases x_9 with _ | o_10
    · replace hf := gx_mtn hf
      refine gx_go (va_runV (As := [.int (σ_6 o_4 7)]) (rest := []) G.1 (ct_Ro_find l D dA adr A hA N 24 (σ_6 o_4 7) σ_6 none σ_7 hc_8) (cwV 1 ht gi_Bo_86 rfl rfl rfl (by decide +kernel) ⟨Nat.le_of_ble_eq_true rfl, Nat.le_of_ble_eq_true rfl⟩) (gx_preV G hI cl_Ro (gx_ci_r (by decide))) rfl rfl hl.1 rfl (lv_room (Nat.le_of_ble_eq_true rfl)) d_Bo_ack_28 ⟨Nat.zero_le _, Nat.zero_le _⟩) hI (st1 := [.null]) rfl (fun H locs hI => ?_)
      refine lv_astore_nN (i := 3) (lv' := [(3, .null), (2, .ref (adr o_4)), (0, .ref (adr 0)), (1, .int p0)]) hx hb d_Bo_ack_31 rfl hl (by decide) rfl (fun ls hl => ?_)
      refine lv_aload_nN hx hb d_Bo_ack_32 rfl (lv_at hl 0 rfl) ?_
      refine lv_ifnullN (tgt := 54) hx hb d_Bo_ack_33 (by decide) ?_
      refine lv_aload_n hx hb d_Bo_ack_54 rfl (lv_at hl 2 rfl) ?_
      refine gx_getR (o' := 6) G hI cl_Bo (by decide) 3 (by decide) (by decide) fl_Bo_30 d_Bo_ack_55 ?_
      refine lv_aload_n hx hb d_Bo_ack_58 rfl (lv_at hl 2 rfl) ?_
      refine gx_getR (o' := 24) G hI cl_Bo (by decide) 2 (by decide) (by decide) fl_Bo_23 d_Bo_ack_59 ?_
      obtain ⟨σ_12, hc_13, hf⟩ := gx_bve hf
      refine gx_go (va_runV (As := [.ref (adr 24)]) (rest := []) G.1 (ct_Jn_write l D dA adr A hA N 24 σ_7 σ_12 hc_13) (cwV 1 ht gi_Bo_79 rfl rfl rfl (by decide +kernel) ⟨Nat.le_of_ble_eq_true rfl, Nat.le_of_ble_eq_true rfl⟩) (gx_preV G hI cl_Jn (by decide)) rfl rfl hl.1 rfl (lv_room (Nat.le_of_ble_eq_true rfl)) d_Bo_ack_62 ⟨Nat.zero_le _, Nat.zero_le _⟩) hI (st1 := []) rfl (fun H locs hI => ?_)
      refine lv_aload_n hx hb d_Bo_ack_65 rfl (lv_at hl 1 rfl) ?_
      refine gx_getI G hI cl_Jb (gx_ci_j hg_5) 0 (by decide) (gx_rf_j hg_5 0) fl_Bo_83 d_Bo_ack_66 ?_
      cases hf
      exact W.iret hx hb hr (gx_F hI) hI.2.2.2 d_Bo_ack_69
    · replace hf := gx_mts hf
      obtain ⟨hg_11, hf⟩ := gx_gd hf
      refine gx_go (va_runV (As := [.int (σ_6 o_4 7)]) (rest := []) G.1 (ct_Ro_find l D dA adr A hA N 24 (σ_6 o_4 7) σ_6 (some o_10) σ_7 hc_8) (cwV 1 ht gi_Bo_86 rfl rfl rfl (by decide +kernel) ⟨Nat.le_of_ble_eq_true rfl, Nat.le_of_ble_eq_true rfl⟩) (gx_preV G hI cl_Ro (gx_ci_r (by decide))) rfl rfl hl.1 rfl (lv_room (Nat.le_of_ble_eq_true rfl)) d_Bo_ack_28 ⟨Nat.zero_le _, Nat.zero_le _⟩) hI (st1 := [.ref (adr o_10)]) rfl (fun H locs hI => ?_)
      refine lv_astore_n (i := 3) (lv' := [(3, .ref (adr o_10)), (2, .ref (adr o_4)), (0, .ref (adr 0)), (1, .int p0)]) hx hb d_Bo_ack_31 rfl hl (by decide) rfl (fun ls hl => ?_)
      refine lv_aload_n hx hb d_Bo_ack_32 rfl (lv_at hl 0 rfl) ?_
      refine lv_ifnull hx hb d_Bo_ack_33 ?_
      refine lv_aload_n hx hb d_Bo_ack_36 rfl (lv_at hl 0 rfl) ?_
      refine lv_dup hx hb d_Bo_ack_37 rfl ?_
      refine gx_getI G hI cl_Jb (gx_ci_j hg_11) 8 (by decide) (gx_rf_j hg_11 8) fl_Bo_100 d_Bo_ack_38 ?_
      refine lv_iconst (v := 1) hx hb d_Bo_ack_41 (by decide) ?_
      refine lv_isub hx hb d_Bo_ack_42 ?_
      obtain ⟨σ_14, eσ_14, hf⟩ := gx_lte hf
      refine gx_put G hI hA cl_Jb (gx_ci_j hg_11) 8 (by decide) (gx_rf_j hg_11 8) fl_Bo_100 rfl rfl rfl eσ_14 d_Bo_ack_43 (fun H locs hI => ?_)
      refine lv_aload_n hx hb d_Bo_ack_46 rfl (lv_at hl 2 rfl) ?_
      refine gx_getR (o' := 24) G hI cl_Bo (by decide) 2 (by decide) (by decide) fl_Bo_23 d_Bo_ack_47 ?_
      refine lv_aload_n hx hb d_Bo_ack_50 rfl (lv_at hl 0 rfl) ?_
      obtain ⟨σ_15, hc_16, hf⟩ := gx_bve hf
      refine gx_go (va_runV (As := [.ref (adr o_10)]) (rest := []) G.1 (ct_Ro_releaseIfComplete l D dA adr A hA N 24 o_10 σ_14 σ_15 hc_16) (cwV 1 ht gi_Bo_106 rfl rfl rfl (by decide +kernel) ⟨Nat.le_of_ble_eq_true rfl, Nat.le_of_ble_eq_true rfl⟩) (gx_preV G hI cl_Ro (gx_ci_r (by decide))) rfl rfl hl.1 rfl (lv_room (Nat.le_of_ble_eq_true rfl)) d_Bo_ack_51 ⟨Nat.zero_le _, Nat.zero_le _⟩) hI (st1 := []) rfl (fun H locs hI => ?_)
      refine lv_aload_n hx hb d_Bo_ack_54 rfl (lv_at hl 2 rfl) ?_
      refine gx_getR (o' := 6) G hI cl_Bo (by decide) 3 (by decide) (by decide) fl_Bo_30 d_Bo_ack_55 ?_
      refine lv_aload_n hx hb d_Bo_ack_58 rfl (lv_at hl 2 rfl) ?_
      refine gx_getR (o' := 24) G hI cl_Bo (by decide) 2 (by decide) (by decide) fl_Bo_23 d_Bo_ack_59 ?_
      obtain ⟨σ_17, hc_18, hf⟩ := gx_bve hf
      refine gx_go (va_runV (As := [.ref (adr 24)]) (rest := []) G.1 (ct_Jn_write l D dA adr A hA N 24 σ_15 σ_17 hc_18) (cwV 1 ht gi_Bo_79 rfl rfl rfl (by decide +kernel) ⟨Nat.le_of_ble_eq_true rfl, Nat.le_of_ble_eq_true rfl⟩) (gx_preV G hI cl_Jn (by decide)) rfl rfl hl.1 rfl (lv_room (Nat.le_of_ble_eq_true rfl)) d_Bo_ack_62 ⟨Nat.zero_le _, Nat.zero_le _⟩) hI (st1 := []) rfl (fun H locs hI => ?_)
      refine lv_aload_n hx hb d_Bo_ack_65 rfl (lv_at hl 1 rfl) ?_
      refine gx_getI G hI cl_Jb (gx_ci_j hg_5) 0 (by decide) (gx_rf_j hg_5 0) fl_Bo_83 d_Bo_ack_66 ?_
      cases hf
      exact W.iret hx hb hr (gx_F hI) hI.2.2.2 d_Bo_ack_69
def fn_Bo_fail (N : Nat) (p0 : Int32) (σ : gx_M) : Option (Int32 × gx_M) := gx_bd (fn_Ro_reservedBy N 24 p0 σ) (fun x_3 σ_1 => gx_mt x_3 (some ((-1 : Int32), σ_1)) (fun o_4 => if 42 ≤ o_4 ∧ o_4 < 722 then (gx_bv (fn_Ro_failReserved N 24 o_4 (σ_1 0 4) σ_1) (fun σ_6 => gx_bv (fn_Jn_write N 24 σ_6) (fun σ_8 => some (σ_8 o_4 0, σ_8)))) else none))
set_option maxHeartbeats 4000000 in
set_option maxRecDepth 100000 in
theorem ct_Bo_fail (l : Launch) (D : va_G) (dA : Nat → ClassId) (adr : Nat → Nat) (A : Nat → Prop) (hA : gx_A A adr) (N : Nat) (p0 : Int32) (σ : gx_M) (r : Int32) (σ' : gx_M) (hf : fn_Bo_fail N p0 σ = some (r, σ')) : Met l y_Bo_fail w_Bo_fail rm_Bo_fail (gx_Pc D dA adr σ [.ref (adr 0), .int p0]) (gx_Q D dA adr A (some (.int r)) σ') 0 0 A := by
  refine Met.ofW (cc := b_Bo_fail) (maxL := 3) (ret := some .int) (by decide) rfl ?_
  intro p e s m args below meth c s₁ B hml hv
  obtain ⟨rfl, hP, hK⟩ := hv
  have hx := B.exec
  have hb := B.bytes
  have hr := B.returns
  have hlocks := B.notSynchronized
  have ht : ∀ w ∈ gx_tb, w.before _ s = true := fun w h => atoms_spec (ws := w_Bo_fail) B.pre w (List.mem_cons_of_mem _ h)
  have hown : s.vm.findClass R_Bo = some m.cls := findClass_of_methodNamed B.named
  have G : gx_G p m c b_Bo_fail 3 s _ gx_tb R_Bo D dA := ⟨⟨hx, hb, hml, hown, ht⟩, hK⟩
  have hI : gx_I D dA adr A s.heap σ s.heap [] := ⟨hP, va_S.rf⟩
  have hl := lv_entry ([.ref (adr 0), .int p0]) (n := 3) (Nat.le_of_ble_eq_true rfl)
  rw [lg_entry_eq]
  generalize (lg_sl ([.ref (adr 0), .int p0]) ++ List.replicate (3 - (lg_sl ([.ref (adr 0), .int p0])).length) Slot.unset).toArray = ls at hl ⊢
  have hl : lv_has ls 3 [(0, .ref (adr 0)), (1, .int p0)] := hl
  rw [fn_Bo_fail] at hf
  refine lv_aload_n hx hb d_Bo_fail_0 rfl (lv_at hl 0 rfl) ?_
  refine gx_getR (o' := 24) G hI cl_Bo (by decide) 2 (by decide) (by decide) fl_Bo_23 d_Bo_fail_1 ?_
  refine lv_iload_n hx hb d_Bo_fail_4 rfl (lv_at hl 1 rfl) ?_
  obtain ⟨x_3, σ_1, hc_2, hf⟩ := gx_bde hf
  rcases x_3 with _ | o_4
  · replace hf := gx_mtn hf
    refine gx_go (va_runV (As := [.int p0]) (rest := []) G.1 (ct_Ro_reservedBy l D dA adr A hA N 24 p0 σ none σ_1 hc_2) (cwV 1 ht gi_Bo_113 rfl rfl rfl (by decide +kernel) ⟨Nat.le_of_ble_eq_true rfl, Nat.le_of_ble_eq_true rfl⟩) (gx_preV G hI cl_Ro (gx_ci_r (by decide))) rfl rfl hl.1 rfl (lv_room (Nat.le_of_ble_eq_true rfl)) d_Bo_fail_5 ⟨Nat.zero_le _, Nat.zero_le _⟩) hI (st1 := [.null]) rfl (fun H locs hI => ?_)
    refine lv_astore_nN (i := 2) (lv' := [(2, .null), (0, .ref (adr 0)), (1, .int p0)]) hx hb d_Bo_fail_8 rfl hl (by decide) rfl (fun ls hl => ?_)
    refine lv_aload_nN hx hb d_Bo_fail_9 rfl (lv_at hl 0 rfl) ?_
    refine lv_ifnonnullN hx hb d_Bo_fail_10 ?_
    refine lv_iconst (v := (-1)) hx hb d_Bo_fail_13 (by decide) ?_
    cases hf
    exact W.iret hx hb hr (gx_F hI) hI.2.2.2 d_Bo_fail_14
  · replace hf := gx_mts hf
    obtain ⟨hg_5, hf⟩ := gx_gd hf
    refine gx_go (va_runV (As := [.int p0]) (rest := []) G.1 (ct_Ro_reservedBy l D dA adr A hA N 24 p0 σ (some o_4) σ_1 hc_2) (cwV 1 ht gi_Bo_113 rfl rfl rfl (by decide +kernel) ⟨Nat.le_of_ble_eq_true rfl, Nat.le_of_ble_eq_true rfl⟩) (gx_preV G hI cl_Ro (gx_ci_r (by decide))) rfl rfl hl.1 rfl (lv_room (Nat.le_of_ble_eq_true rfl)) d_Bo_fail_5 ⟨Nat.zero_le _, Nat.zero_le _⟩) hI (st1 := [.ref (adr o_4)]) rfl (fun H locs hI => ?_)
    refine lv_astore_n (i := 2) (lv' := [(2, .ref (adr o_4)), (0, .ref (adr 0)), (1, .int p0)]) hx hb d_Bo_fail_8 rfl hl (by decide) rfl (fun ls hl => ?_)
    refine lv_aload_n hx hb d_Bo_fail_9 rfl (lv_at hl 0 rfl) ?_
    refine lv_ifnonnull (tgt := 15) hx hb d_Bo_fail_10 (by decide) ?_
    refine lv_aload_n hx hb d_Bo_fail_15 rfl (lv_at hl 1 rfl) ?_
    refine gx_getR (o' := 24) G hI cl_Bo (by decide) 2 (by decide) (by decide) fl_Bo_23 d_Bo_fail_16 ?_
    refine lv_aload_n hx hb d_Bo_fail_19 rfl (lv_at hl 0 rfl) ?_
    refine lv_aload_n hx hb d_Bo_fail_20 rfl (lv_at hl 1 rfl) ?_
    refine gx_getI G hI cl_Bo (by decide) 4 (by decide) (by decide) fl_Bo_34 d_Bo_fail_21 ?_
    obtain ⟨σ_6, hc_7, hf⟩ := gx_bve hf
    refine gx_go (va_runV (As := [.ref (adr o_4), .int (σ_1 0 4)]) (rest := []) G.1 (ct_Ro_failReserved l D dA adr A hA N 24 o_4 (σ_1 0 4) σ_1 σ_6 hc_7) (cwV 2 ht gi_Bo_133 rfl rfl rfl (by decide +kernel) ⟨Nat.le_of_ble_eq_true rfl, Nat.le_of_ble_eq_true rfl⟩) (gx_preV G hI cl_Ro (gx_ci_r (by decide))) rfl rfl hl.1 rfl (lv_room (Nat.le_of_ble_eq_true rfl)) d_Bo_fail_24 ⟨Nat.zero_le _, Nat.zero_le _⟩) hI (st1 := []) rfl (fun H locs hI => ?_)
    refine lv_aload_n hx hb d_Bo_fail_27 rfl (lv_at hl 1 rfl) ?_
    refine gx_getR (o' := 6) G hI cl_Bo (by decide) 3 (by decide) (by decide) fl_Bo_30 d_Bo_fail_28 ?_
    refine lv_aload_n hx hb d_Bo_fail_31 rfl (lv_at hl 1 rfl) ?_
    refine gx_getR (o' := 24) G hI cl_Bo (by decide) 2 (by decide) (by decide) fl_Bo_23 d_Bo_fail_32 ?_
    obtain ⟨σ_8, hc_9, hf⟩ := gx_bve hf
    refine gx_go (va_runV (As := [.ref (adr 24)]) (rest := []) G.1 (ct_Jn_write l D dA adr A hA N 24 σ_6 σ_8 hc_9) (cwV 1 ht gi_Bo_79 rfl rfl rfl (by decide +kernel) ⟨Nat.le_of_ble_eq_true rfl, Nat.le_of_ble_eq_true rfl⟩) (gx_preV G hI cl_Jn (by decide)) rfl rfl hl.1 rfl (lv_room (Nat.le_of_ble_eq_true rfl)) d_Bo_fail_35 ⟨Nat.zero_le _, Nat.zero_le _⟩) hI (st1 := []) rfl (fun H locs hI => ?_)
    refine lv_aload_n hx hb d_Bo_fail_38 rfl (lv_at hl 0 rfl) ?_
    refine gx_getI G hI cl_Jb (gx_ci_j hg_5) 0 (by decide) (gx_rf_j hg_5 0) fl_Bo_83 d_Bo_fail_39 ?_
    cases hf
    exact W.iret hx hb hr (gx_F hI) hI.2.2.2 d_Bo_fail_42
def fn_Bo_tick_L15 (N : Nat) (u1 : Int32) : Nat → Int32 → gx_M → Option (Int32 × gx_M)
  | 0, _, _ => none
  | n + 1, v2, σ => if ((4 : Int32)) ≤ v2 then (gx_lt (gx_up σ 0 4 ((σ 0 4) + u1)) (fun σ_6 => gx_bd (fn_Ro_settleDue N 24 (σ_6 0 4) σ_6) (fun r_9 σ_7 => if r_9 ≤ 0 then (some (r_9, σ_7)) else (gx_bv (fn_Jn_write N 24 σ_7) (fun σ_11 => some (r_9, σ_11)))))) else (if 0 ≤ v2 ∧ v2 < 4 then (gx_bv (fn_Qu_refillBetween N (gx_el 1 v2.toNatClampNeg) (σ 0 4) ((σ 0 4) + u1) σ) (fun σ_14 => fn_Bo_tick_L15 N u1 n (v2 + 1) σ_14)) else none)
def fn_Bo_tick (N : Nat) (p0 : Int32) (σ : gx_M) : Option (Int32 × gx_M) := gx_bd (fn_Bo_within N p0 ((1 : Int32)) ((1000 : Int32)) σ) (fun r_3 σ_1 => if r_3 = 0 then (some ((-1 : Int32), σ_1)) else (fn_Bo_tick_L15 N p0 N ((0 : Int32)) σ_1))
set_option maxHeartbeats 4000000 in
set_option maxRecDepth 100000 in
theorem wl_Bo_tick_L15 {p : Program} {l : Launch} {e : Env} {s : State} {m : MethodId} {args : Array Value} {below : List Frame} {meth : Method} {c : Code} {D : va_G} {dA : Nat → ClassId} {adr : Nat → Nat} {A : Nat → Prop} (G : gx_G p m c b_Bo_tick 3 s args gx_tb R_Bo D dA) (hr : meth.sig.returnType = some .int) (hlocks : meth.locks = false) (hA : gx_A A adr) (N : Nat) (res : Int32 × gx_M) (u1 : Int32) : ∀ (n : Nat) (v2 : Int32) (σ : gx_M) (H : Heap) (locs : List Loc) (ls : Array Slot), fn_Bo_tick_L15 N u1 n v2 σ = some res → gx_I D dA adr A s.heap σ H locs → lv_has ls 3 [(2, .int v2), (0, .ref (adr 0)), (1, .int u1)] → W p l e (headSpec w_Bo_tick rm_Bo_tick).room s m args below meth c H locs 0 0 (MQ below (gx_Q D dA adr A (some (.int res.1)) res.2) args s 0 0 A) (F0 m 15 ls []) := by
  obtain ⟨⟨hx, hb, hml, hown, ht⟩, hK⟩ := id G
  intro n
  induction n with
  | zero =>
    intro v2 σ H locs ls hf
    cases hf
  | succ n ih =>
    intro v2 σ H locs ls hf hI hl
    rw [fn_Bo_tick_L15] at hf
    refine lv_iload_n hx hb d_Bo_tick_15 rfl (lv_at hl 0 rfl) ?_
    refine lv_iconst (v := 4) hx hb d_Bo_tick_16 (by decide) ?_
    refine lv_icmp_ge (tgt := 45) hx hb d_Bo_tick_17 (by decide) (fun c_5 => ?_) (fun c_5 => ?_)
    · replace hf := (if_pos c_5).symm.trans hf
      refine lv_aload_n hx hb d_Bo_tick_45 rfl (lv_at hl 1 rfl) ?_
      refine lv_dup hx hb d_Bo_tick_46 rfl ?_
      refine gx_getI G hI cl_Bo (by decide) 4 (by decide) (by decide) fl_Bo_34 d_Bo_tick_47 ?_
      refine lv_iload_n hx hb d_Bo_tick_50 rfl (lv_at hl 2 rfl) ?_
      refine lv_iadd hx hb d_Bo_tick_51 ?_
      obtain ⟨σ_6, eσ_6, hf⟩ := gx_lte hf
      refine gx_put G hI hA cl_Bo (by decide) 4 (by decide) (by decide) fl_Bo_34 rfl rfl rfl eσ_6 d_Bo_tick_52 (fun H locs hI => ?_)
      refine lv_aload_n hx hb d_Bo_tick_55 rfl (lv_at hl 1 rfl) ?_
      refine gx_getR (o' := 24) G hI cl_Bo (by decide) 2 (by decide) (by decide) fl_Bo_23 d_Bo_tick_56 ?_
      refine lv_aload_n hx hb d_Bo_tick_59 rfl (lv_at hl 1 rfl) ?_
      refine gx_getI G hI cl_Bo (by decide) 4 (by decide) (by decide) fl_Bo_34 d_Bo_tick_60 ?_
      obtain ⟨r_9, σ_7, hc_8, hf⟩ := gx_bde hf
      refine gx_go (va_runV (As := [.int (σ_6 0 4)]) (rest := []) G.1 (ct_Ro_settleDue l D dA adr A hA N 24 (σ_6 0 4) σ_6 r_9 σ_7 hc_8) (cwV 1 ht gi_Bo_139 rfl rfl rfl (by decide +kernel) ⟨Nat.le_of_ble_eq_true rfl, Nat.le_of_ble_eq_true rfl⟩) (gx_preV G hI cl_Ro (gx_ci_r (by decide))) rfl rfl hl.1 rfl (lv_room (Nat.le_of_ble_eq_true rfl)) d_Bo_tick_63 ⟨Nat.zero_le _, Nat.zero_le _⟩) hI (st1 := [.int r_9]) rfl (fun H locs hI => ?_)
      refine lv_istore_n (i := 2) (lv' := [(2, .int r_9), (0, .ref (adr 0)), (1, .int u1)]) hx hb d_Bo_tick_66 rfl hl (by decide) rfl (fun ls hl => ?_)
      refine lv_iload_n hx hb d_Bo_tick_67 rfl (lv_at hl 0 rfl) ?_
      refine lv_if_le (tgt := 82) hx hb d_Bo_tick_68 (by decide) (fun c_10 => ?_) (fun c_10 => ?_)
      · replace hf := (if_pos c_10).symm.trans hf
        refine lv_iload_n hx hb d_Bo_tick_82 rfl (lv_at hl 0 rfl) ?_
        cases hf
        exact W.iret hx hb hr (gx_F hI) hI.2.2.2 d_Bo_tick_83
      · replace hf := (if_neg c_10).symm.trans hf
        refine lv_aload_n hx hb d_Bo_tick_71 rfl (lv_at hl 1 rfl) ?_
        refine gx_getR (o' := 6) G hI cl_Bo (by decide) 3 (by decide) (by decide) fl_Bo_30 d_Bo_tick_72 ?_
        refine lv_aload_n hx hb d_Bo_tick_75 rfl (lv_at hl 1 rfl) ?_
        refine gx_getR (o' := 24) G hI cl_Bo (by decide) 2 (by decide) (by decide) fl_Bo_23 d_Bo_tick_76 ?_
        obtain ⟨σ_11, hc_12, hf⟩ := gx_bve hf
        refine gx_go (va_runV (As := [.ref (adr 24)]) (rest := []) G.1 (ct_Jn_write l D dA adr A hA N 24 σ_7 σ_11 hc_12) (cwV 1 ht gi_Bo_79 rfl rfl rfl (by decide +kernel) ⟨Nat.le_of_ble_eq_true rfl, Nat.le_of_ble_eq_true rfl⟩) (gx_preV G hI cl_Jn (by decide)) rfl rfl hl.1 rfl (lv_room (Nat.le_of_ble_eq_true rfl)) d_Bo_tick_79 ⟨Nat.zero_le _, Nat.zero_le _⟩) hI (st1 := []) rfl (fun H locs hI => ?_)
        refine lv_iload_n hx hb d_Bo_tick_82 rfl (lv_at hl 0 rfl) ?_
        cases hf
        exact W.iret hx hb hr (gx_F hI) hI.2.2.2 d_Bo_tick_83
    · replace hf := (if_neg c_5).symm.trans hf
      refine lv_aload_n hx hb d_Bo_tick_20 rfl (lv_at hl 1 rfl) ?_
      refine gx_getR (o' := 1) G hI cl_Bo (by decide) 1 (by decide) (by decide) fl_Bo_15 d_Bo_tick_21 ?_
      refine lv_iload_n hx hb d_Bo_tick_24 rfl (lv_at hl 0 rfl) ?_
      obtain ⟨hi_13, hf⟩ := gx_gd hf
      refine gx_aldQ G hI hi_13 d_Bo_tick_25 ?_
      refine lv_aload_n hx hb d_Bo_tick_26 rfl (lv_at hl 1 rfl) ?_
      refine gx_getI G hI cl_Bo (by decide) 4 (by decide) (by decide) fl_Bo_34 d_Bo_tick_27 ?_
      refine lv_aload_n hx hb d_Bo_tick_30 rfl (lv_at hl 1 rfl) ?_
      refine gx_getI G hI cl_Bo (by decide) 4 (by decide) (by decide) fl_Bo_34 d_Bo_tick_31 ?_
      refine lv_iload_n hx hb d_Bo_tick_34 rfl (lv_at hl 2 rfl) ?_
      refine lv_iadd hx hb d_Bo_tick_35 ?_
      obtain ⟨σ_14, hc_15, hf⟩ := gx_bve hf
      refine gx_go (va_runV (As := [.int (σ 0 4), .int ((σ 0 4) + u1)]) (rest := []) G.1 (ct_Qu_refillBetween l D dA adr A hA N (gx_el 1 v2.toNatClampNeg) (σ 0 4) ((σ 0 4) + u1) σ σ_14 hc_15) (cwV 2 ht gi_Bo_136 rfl rfl rfl (by decide +kernel) ⟨Nat.le_of_ble_eq_true rfl, Nat.le_of_ble_eq_true rfl⟩) (gx_preV G hI cl_Qu (gx_ci_q (gx_el_q hi_13))) rfl rfl hl.1 rfl (lv_room (Nat.le_of_ble_eq_true rfl)) d_Bo_tick_36 ⟨Nat.zero_le _, Nat.zero_le _⟩) hI (st1 := []) rfl (fun H locs hI => ?_)
      refine lv_iinc (v := v2 + 1) (lv' := [(2, .int (v2 + 1)), (0, .ref (adr 0)), (1, .int u1)]) hx hb d_Bo_tick_39 hl (k := 0) rfl rfl (by decide) rfl (fun ls hl => ?_)
      refine lv_goto (tgt := 15) hx hb d_Bo_tick_42 (by decide) ?_
      exact ih (v2 + 1) σ_14 H locs ls hf hI (lv_sub hl [0, 1, 2] rfl)
set_option maxHeartbeats 4000000 in
set_option maxRecDepth 100000 in
theorem ct_Bo_tick (l : Launch) (D : va_G) (dA : Nat → ClassId) (adr : Nat → Nat) (A : Nat → Prop) (hA : gx_A A adr) (N : Nat) (p0 : Int32) (σ : gx_M) (r : Int32) (σ' : gx_M) (hf : fn_Bo_tick N p0 σ = some (r, σ')) : Met l y_Bo_tick w_Bo_tick rm_Bo_tick (gx_Pc D dA adr σ [.ref (adr 0), .int p0]) (gx_Q D dA adr A (some (.int r)) σ') 0 0 A := by
  refine Met.ofW (cc := b_Bo_tick) (maxL := 3) (ret := some .int) (by decide) rfl ?_
  intro p e s m args below meth c s₁ B hml hv
  obtain ⟨rfl, hP, hK⟩ := hv
  have hx := B.exec
  have hb := B.bytes
  have hr := B.returns
  have hlocks := B.notSynchronized
  have ht : ∀ w ∈ gx_tb, w.before _ s = true := fun w h => atoms_spec (ws := w_Bo_tick) B.pre w (List.mem_cons_of_mem _ h)
  have hown : s.vm.findClass R_Bo = some m.cls := findClass_of_methodNamed B.named
  have G : gx_G p m c b_Bo_tick 3 s _ gx_tb R_Bo D dA := ⟨⟨hx, hb, hml, hown, ht⟩, hK⟩
  have hI : gx_I D dA adr A s.heap σ s.heap [] := ⟨hP, va_S.rf⟩
  have hl := lv_entry ([.ref (adr 0), .int p0]) (n := 3) (Nat.le_of_ble_eq_true rfl)
  rw [lg_entry_eq]
  generalize (lg_sl ([.ref (adr 0), .int p0]) ++ List.replicate (3 - (lg_sl ([.ref (adr 0), .int p0])).length) Slot.unset).toArray = ls at hl ⊢
  have hl : lv_has ls 3 [(0, .ref (adr 0)), (1, .int p0)] := hl
  rw [fn_Bo_tick] at hf
  refine lv_iload_n hx hb d_Bo_tick_0 rfl (lv_at hl 1 rfl) ?_
  refine lv_iconst (v := 1) hx hb d_Bo_tick_1 (by decide) ?_
  refine lv_sipush (v := 1000) hx hb d_Bo_tick_2 (by decide) ?_
  obtain ⟨r_3, σ_1, hc_2, hf⟩ := gx_bde hf
  refine gx_go (va_runS (As := [.int p0, .int ((1 : Int32)), .int ((1000 : Int32))]) (rest := []) G.1 (ct_Bo_within l D dA adr A hA N p0 ((1 : Int32)) ((1000 : Int32)) σ r_3 σ_1 hc_2) (cwS 3 ht gi_Bo_45 rfl rfl rfl (by decide +kernel) ⟨Nat.le_of_ble_eq_true rfl, Nat.le_of_ble_eq_true rfl⟩) (gx_pre G hI) rfl rfl hl.1 rfl (lv_room (Nat.le_of_ble_eq_true rfl)) d_Bo_tick_5 ⟨Nat.zero_le _, Nat.zero_le _⟩) hI (st1 := [.int r_3]) rfl (fun H locs hI => ?_)
  refine lv_if_ne (tgt := 13) hx hb d_Bo_tick_8 (by decide) (fun c_4 => ?_) (fun c_4 => ?_)
  · replace hf := (if_neg c_4).symm.trans hf
    refine lv_iconst (v := 0) hx hb d_Bo_tick_13 (by decide) ?_
    refine lv_istore_n (i := 2) (lv' := [(2, .int ((0 : Int32))), (0, .ref (adr 0)), (1, .int p0)]) hx hb d_Bo_tick_14 rfl hl (by decide) rfl (fun ls hl => ?_)
    exact wl_Bo_tick_L15 G hr hlocks hA N _ p0 N ((0 : Int32)) σ_1 _ _ ls hf hI (lv_sub hl [0, 1, 2] rfl)
  · replace hf := (if_pos c_4).symm.trans hf
    refine lv_iconst (v := (-1)) hx hb d_Bo_tick_11 (by decide) ?_
    cases hf
    exact W.iret hx hb hr (gx_F hI) hI.2.2.2 d_Bo_tick_12
def fn_Bo_revive (N : Nat) (p0 : Int32) (σ : gx_M) : Option (Int32 × gx_M) := gx_bd (fn_Ro_find N 24 p0 σ) (fun x_3 σ_1 => gx_mt x_3 (some ((-1 : Int32), σ_1)) (fun o_4 => if 42 ≤ o_4 ∧ o_4 < 722 then (if (σ_1 o_4 10) = ((5 : Int32)) then (gx_bd (fn_Ro_hasLiveKey N 24 (σ_1 o_4 5) σ_1) (fun r_9 σ_7 => if r_9 = 0 then (gx_lt (gx_up σ_7 o_4 6 ((0 : Int32))) (fun σ_11 => gx_bv (fn_Ro_enter N 24 o_4 ((1 : Int32)) σ_11) (fun σ_12 => gx_bv (fn_Jn_write N 24 σ_12) (fun σ_14 => some ((0 : Int32), σ_14))))) else (some ((-3 : Int32), σ_7)))) else (some ((-1 : Int32), σ_1))) else none))
set_option maxHeartbeats 4000000 in
set_option maxRecDepth 100000 in
theorem ct_Bo_revive (l : Launch) (D : va_G) (dA : Nat → ClassId) (adr : Nat → Nat) (A : Nat → Prop) (hA : gx_A A adr) (N : Nat) (p0 : Int32) (σ : gx_M) (r : Int32) (σ' : gx_M) (hf : fn_Bo_revive N p0 σ = some (r, σ')) : Met l y_Bo_revive w_Bo_revive rm_Bo_revive (gx_Pc D dA adr σ [.ref (adr 0), .int p0]) (gx_Q D dA adr A (some (.int r)) σ') 0 0 A := by
  refine Met.ofW (cc := b_Bo_revive) (maxL := 3) (ret := some .int) (by decide) rfl ?_
  intro p e s m args below meth c s₁ B hml hv
  obtain ⟨rfl, hP, hK⟩ := hv
  have hx := B.exec
  have hb := B.bytes
  have hr := B.returns
  have hlocks := B.notSynchronized
  have ht : ∀ w ∈ gx_tb, w.before _ s = true := fun w h => atoms_spec (ws := w_Bo_revive) B.pre w (List.mem_cons_of_mem _ h)
  have hown : s.vm.findClass R_Bo = some m.cls := findClass_of_methodNamed B.named
  have G : gx_G p m c b_Bo_revive 3 s _ gx_tb R_Bo D dA := ⟨⟨hx, hb, hml, hown, ht⟩, hK⟩
  have hI : gx_I D dA adr A s.heap σ s.heap [] := ⟨hP, va_S.rf⟩
  have hl := lv_entry ([.ref (adr 0), .int p0]) (n := 3) (Nat.le_of_ble_eq_true rfl)
  rw [lg_entry_eq]
  generalize (lg_sl ([.ref (adr 0), .int p0]) ++ List.replicate (3 - (lg_sl ([.ref (adr 0), .int p0])).length) Slot.unset).toArray = ls at hl ⊢
  have hl : lv_has ls 3 [(0, .ref (adr 0)), (1, .int p0)] := hl
  rw [fn_Bo_revive] at hf
  refine lv_aload_n hx hb d_Bo_revive_0 rfl (lv_at hl 0 rfl) ?_
  refine gx_getR (o' := 24) G hI cl_Bo (by decide) 2 (by decide) (by decide) fl_Bo_23 d_Bo_revive_1 ?_
  refine lv_iload_n hx hb d_Bo_revive_4 rfl (lv_at hl 1 rfl) ?_
  obtain ⟨x_3, σ_1, hc_2, hf⟩ := gx_bde hf
  rcases x_3 with _ | o_4
  · replace hf := gx_mtn hf
    refine gx_go (va_runV (As := [.int p0]) (rest := []) G.1 (ct_Ro_find l D dA adr A hA N 24 p0 σ none σ_1 hc_2) (cwV 1 ht gi_Bo_86 rfl rfl rfl (by decide +kernel) ⟨Nat.le_of_ble_eq_true rfl, Nat.le_of_ble_eq_true rfl⟩) (gx_preV G hI cl_Ro (gx_ci_r (by decide))) rfl rfl hl.1 rfl (lv_room (Nat.le_of_ble_eq_true rfl)) d_Bo_revive_5 ⟨Nat.zero_le _, Nat.zero_le _⟩) hI (st1 := [.null]) rfl (fun H locs hI => ?_)
    refine lv_astore_nN (i := 2) (lv' := [(2, .null), (0, .ref (adr 0)), (1, .int p0)]) hx hb d_Bo_revive_8 rfl hl (by decide) rfl (fun ls hl => ?_)
    refine lv_aload_nN hx hb d_Bo_revive_9 rfl (lv_at hl 0 rfl) ?_
    refine lv_ifnullN (tgt := 21) hx hb d_Bo_revive_10 (by decide) ?_
    refine lv_iconst (v := (-1)) hx hb d_Bo_revive_21 (by decide) ?_
    cases hf
    exact W.iret hx hb hr (gx_F hI) hI.2.2.2 d_Bo_revive_22
  · replace hf := gx_mts hf
    obtain ⟨hg_5, hf⟩ := gx_gd hf
    refine gx_go (va_runV (As := [.int p0]) (rest := []) G.1 (ct_Ro_find l D dA adr A hA N 24 p0 σ (some o_4) σ_1 hc_2) (cwV 1 ht gi_Bo_86 rfl rfl rfl (by decide +kernel) ⟨Nat.le_of_ble_eq_true rfl, Nat.le_of_ble_eq_true rfl⟩) (gx_preV G hI cl_Ro (gx_ci_r (by decide))) rfl rfl hl.1 rfl (lv_room (Nat.le_of_ble_eq_true rfl)) d_Bo_revive_5 ⟨Nat.zero_le _, Nat.zero_le _⟩) hI (st1 := [.ref (adr o_4)]) rfl (fun H locs hI => ?_)
    refine lv_astore_n (i := 2) (lv' := [(2, .ref (adr o_4)), (0, .ref (adr 0)), (1, .int p0)]) hx hb d_Bo_revive_8 rfl hl (by decide) rfl (fun ls hl => ?_)
    refine lv_aload_n hx hb d_Bo_revive_9 rfl (lv_at hl 0 rfl) ?_
    refine lv_ifnull hx hb d_Bo_revive_10 ?_
    refine lv_aload_n hx hb d_Bo_revive_13 rfl (lv_at hl 0 rfl) ?_
    refine gx_getI G hI cl_Jb (gx_ci_j hg_5) 10 (by decide) (gx_rf_j hg_5 10) fl_Bo_97 d_Bo_revive_14 ?_
    refine lv_iconst (v := 5) hx hb d_Bo_revive_17 (by decide) ?_
    refine lv_icmp_eq (tgt := 23) hx hb d_Bo_revive_18 (by decide) (fun c_6 => ?_) (fun c_6 => ?_)
    · replace hf := (if_pos c_6).symm.trans hf
      refine lv_aload_n hx hb d_Bo_revive_23 rfl (lv_at hl 1 rfl) ?_
      refine gx_getR (o' := 24) G hI cl_Bo (by decide) 2 (by decide) (by decide) fl_Bo_23 d_Bo_revive_24 ?_
      refine lv_aload_n hx hb d_Bo_revive_27 rfl (lv_at hl 0 rfl) ?_
      refine gx_getI G hI cl_Jb (gx_ci_j hg_5) 5 (by decide) (gx_rf_j hg_5 5) fl_Bo_68 d_Bo_revive_28 ?_
      obtain ⟨r_9, σ_7, hc_8, hf⟩ := gx_bde hf
      refine gx_go (va_runV (As := [.int (σ_1 o_4 5)]) (rest := []) G.1 (ct_Ro_hasLiveKey l D dA adr A hA N 24 (σ_1 o_4 5) σ_1 r_9 σ_7 hc_8) (cwV 1 ht gi_Bo_53 rfl rfl rfl (by decide +kernel) ⟨Nat.le_of_ble_eq_true rfl, Nat.le_of_ble_eq_true rfl⟩) (gx_preV G hI cl_Ro (gx_ci_r (by decide))) rfl rfl hl.1 rfl (lv_room (Nat.le_of_ble_eq_true rfl)) d_Bo_revive_31 ⟨Nat.zero_le _, Nat.zero_le _⟩) hI (st1 := [.int r_9]) rfl (fun H locs hI => ?_)
      refine lv_if_eq (tgt := 40) hx hb d_Bo_revive_34 (by decide) (fun c_10 => ?_) (fun c_10 => ?_)
      · replace hf := (if_pos c_10).symm.trans hf
        refine lv_aload_n hx hb d_Bo_revive_40 rfl (lv_at hl 0 rfl) ?_
        refine lv_iconst (v := 0) hx hb d_Bo_revive_41 (by decide) ?_
        obtain ⟨σ_11, eσ_11, hf⟩ := gx_lte hf
        refine gx_put G hI hA cl_Jb (gx_ci_j hg_5) 6 (by decide) (gx_rf_j hg_5 6) fl_Bo_143 rfl rfl rfl eσ_11 d_Bo_revive_42 (fun H locs hI => ?_)
        refine lv_aload_n hx hb d_Bo_revive_45 rfl (lv_at hl 1 rfl) ?_
        refine gx_getR (o' := 24) G hI cl_Bo (by decide) 2 (by decide) (by decide) fl_Bo_23 d_Bo_revive_46 ?_
        refine lv_aload_n hx hb d_Bo_revive_49 rfl (lv_at hl 0 rfl) ?_
        refine lv_iconst (v := 1) hx hb d_Bo_revive_50 (by decide) ?_
        obtain ⟨σ_12, hc_13, hf⟩ := gx_bve hf
        refine gx_go (va_runV (As := [.ref (adr o_4), .int ((1 : Int32))]) (rest := []) G.1 (ct_Ro_enter l D dA adr A hA N 24 o_4 ((1 : Int32)) σ_11 σ_12 hc_13) (cwV 2 ht gi_Bo_71 rfl rfl rfl (by decide +kernel) ⟨Nat.le_of_ble_eq_true rfl, Nat.le_of_ble_eq_true rfl⟩) (gx_preV G hI cl_Ro (gx_ci_r (by decide))) rfl rfl hl.1 rfl (lv_room (Nat.le_of_ble_eq_true rfl)) d_Bo_revive_51 ⟨Nat.zero_le _, Nat.zero_le _⟩) hI (st1 := []) rfl (fun H locs hI => ?_)
        refine lv_aload_n hx hb d_Bo_revive_54 rfl (lv_at hl 1 rfl) ?_
        refine gx_getR (o' := 6) G hI cl_Bo (by decide) 3 (by decide) (by decide) fl_Bo_30 d_Bo_revive_55 ?_
        refine lv_aload_n hx hb d_Bo_revive_58 rfl (lv_at hl 1 rfl) ?_
        refine gx_getR (o' := 24) G hI cl_Bo (by decide) 2 (by decide) (by decide) fl_Bo_23 d_Bo_revive_59 ?_
        obtain ⟨σ_14, hc_15, hf⟩ := gx_bve hf
        refine gx_go (va_runV (As := [.ref (adr 24)]) (rest := []) G.1 (ct_Jn_write l D dA adr A hA N 24 σ_12 σ_14 hc_15) (cwV 1 ht gi_Bo_79 rfl rfl rfl (by decide +kernel) ⟨Nat.le_of_ble_eq_true rfl, Nat.le_of_ble_eq_true rfl⟩) (gx_preV G hI cl_Jn (by decide)) rfl rfl hl.1 rfl (lv_room (Nat.le_of_ble_eq_true rfl)) d_Bo_revive_62 ⟨Nat.zero_le _, Nat.zero_le _⟩) hI (st1 := []) rfl (fun H locs hI => ?_)
        refine lv_iconst (v := 0) hx hb d_Bo_revive_65 (by decide) ?_
        cases hf
        exact W.iret hx hb hr (gx_F hI) hI.2.2.2 d_Bo_revive_66
      · replace hf := (if_neg c_10).symm.trans hf
        refine lv_bipush (v := (-3)) hx hb d_Bo_revive_37 (by decide) ?_
        cases hf
        exact W.iret hx hb hr (gx_F hI) hI.2.2.2 d_Bo_revive_39
    · replace hf := (if_neg c_6).symm.trans hf
      refine lv_iconst (v := (-1)) hx hb d_Bo_revive_21 (by decide) ?_
      cases hf
      exact W.iret hx hb hr (gx_F hI) hI.2.2.2 d_Bo_revive_22
def fn_Bo_kill (N : Nat) (p0 : Int32) (σ : gx_M) : Option (Int32 × gx_M) := gx_bd (fn_Ro_find N 24 p0 σ) (fun x_3 σ_1 => gx_mt x_3 (some ((-1 : Int32), σ_1)) (fun o_4 => if 42 ≤ o_4 ∧ o_4 < 722 then (gx_bd (fn_Jb_isLive N o_4 σ_1) (fun r_8 σ_6 => if r_8 = 0 then (some ((-1 : Int32), σ_6)) else (if (σ_6 o_4 10) = ((2 : Int32)) then (some ((-1 : Int32), σ_6)) else (gx_bv (fn_Ro_bury N 24 o_4 σ_6) (fun σ_11 => gx_bv (fn_Jn_write N 24 σ_11) (fun σ_13 => some ((0 : Int32), σ_13))))))) else none))
set_option maxHeartbeats 4000000 in
set_option maxRecDepth 100000 in
theorem ct_Bo_kill (l : Launch) (D : va_G) (dA : Nat → ClassId) (adr : Nat → Nat) (A : Nat → Prop) (hA : gx_A A adr) (N : Nat) (p0 : Int32) (σ : gx_M) (r : Int32) (σ' : gx_M) (hf : fn_Bo_kill N p0 σ = some (r, σ')) : Met l y_Bo_kill w_Bo_kill rm_Bo_kill (gx_Pc D dA adr σ [.ref (adr 0), .int p0]) (gx_Q D dA adr A (some (.int r)) σ') 0 0 A := by
  refine Met.ofW (cc := b_Bo_kill) (maxL := 3) (ret := some .int) (by decide) rfl ?_
  intro p e s m args below meth c s₁ B hml hv
  obtain ⟨rfl, hP, hK⟩ := hv
  have hx := B.exec
  have hb := B.bytes
  have hr := B.returns
  have hlocks := B.notSynchronized
  have ht : ∀ w ∈ gx_tb, w.before _ s = true := fun w h => atoms_spec (ws := w_Bo_kill) B.pre w (List.mem_cons_of_mem _ h)
  have hown : s.vm.findClass R_Bo = some m.cls := findClass_of_methodNamed B.named
  have G : gx_G p m c b_Bo_kill 3 s _ gx_tb R_Bo D dA := ⟨⟨hx, hb, hml, hown, ht⟩, hK⟩
  have hI : gx_I D dA adr A s.heap σ s.heap [] := ⟨hP, va_S.rf⟩
  have hl := lv_entry ([.ref (adr 0), .int p0]) (n := 3) (Nat.le_of_ble_eq_true rfl)
  rw [lg_entry_eq]
  generalize (lg_sl ([.ref (adr 0), .int p0]) ++ List.replicate (3 - (lg_sl ([.ref (adr 0), .int p0])).length) Slot.unset).toArray = ls at hl ⊢
  have hl : lv_has ls 3 [(0, .ref (adr 0)), (1, .int p0)] := hl
  rw [fn_Bo_kill] at hf
  refine lv_aload_n hx hb d_Bo_kill_0 rfl (lv_at hl 0 rfl) ?_
  refine gx_getR (o' := 24) G hI cl_Bo (by decide) 2 (by decide) (by decide) fl_Bo_23 d_Bo_kill_1 ?_
  refine lv_iload_n hx hb d_Bo_kill_4 rfl (lv_at hl 1 rfl) ?_
  obtain ⟨x_3, σ_1, hc_2, hf⟩ := gx_bde hf
  rcases x_3 with _ | o_4
  · replace hf := gx_mtn hf
    refine gx_go (va_runV (As := [.int p0]) (rest := []) G.1 (ct_Ro_find l D dA adr A hA N 24 p0 σ none σ_1 hc_2) (cwV 1 ht gi_Bo_86 rfl rfl rfl (by decide +kernel) ⟨Nat.le_of_ble_eq_true rfl, Nat.le_of_ble_eq_true rfl⟩) (gx_preV G hI cl_Ro (gx_ci_r (by decide))) rfl rfl hl.1 rfl (lv_room (Nat.le_of_ble_eq_true rfl)) d_Bo_kill_5 ⟨Nat.zero_le _, Nat.zero_le _⟩) hI (st1 := [.null]) rfl (fun H locs hI => ?_)
    refine lv_astore_nN (i := 2) (lv' := [(2, .null), (0, .ref (adr 0)), (1, .int p0)]) hx hb d_Bo_kill_8 rfl hl (by decide) rfl (fun ls hl => ?_)
    refine lv_aload_nN hx hb d_Bo_kill_9 rfl (lv_at hl 0 rfl) ?_
    refine lv_ifnullN (tgt := 28) hx hb d_Bo_kill_10 (by decide) ?_
    refine lv_iconst (v := (-1)) hx hb d_Bo_kill_28 (by decide) ?_
    cases hf
    exact W.iret hx hb hr (gx_F hI) hI.2.2.2 d_Bo_kill_29
  · replace hf := gx_mts hf
    obtain ⟨hg_5, hf⟩ := gx_gd hf
    refine gx_go (va_runV (As := [.int p0]) (rest := []) G.1 (ct_Ro_find l D dA adr A hA N 24 p0 σ (some o_4) σ_1 hc_2) (cwV 1 ht gi_Bo_86 rfl rfl rfl (by decide +kernel) ⟨Nat.le_of_ble_eq_true rfl, Nat.le_of_ble_eq_true rfl⟩) (gx_preV G hI cl_Ro (gx_ci_r (by decide))) rfl rfl hl.1 rfl (lv_room (Nat.le_of_ble_eq_true rfl)) d_Bo_kill_5 ⟨Nat.zero_le _, Nat.zero_le _⟩) hI (st1 := [.ref (adr o_4)]) rfl (fun H locs hI => ?_)
    refine lv_astore_n (i := 2) (lv' := [(2, .ref (adr o_4)), (0, .ref (adr 0)), (1, .int p0)]) hx hb d_Bo_kill_8 rfl hl (by decide) rfl (fun ls hl => ?_)
    refine lv_aload_n hx hb d_Bo_kill_9 rfl (lv_at hl 0 rfl) ?_
    refine lv_ifnull hx hb d_Bo_kill_10 ?_
    refine lv_aload_n hx hb d_Bo_kill_13 rfl (lv_at hl 0 rfl) ?_
    obtain ⟨r_8, σ_6, hc_7, hf⟩ := gx_bde hf
    refine gx_go (va_runV (As := []) (rest := []) G.1 (ct_Jb_isLive l D dA adr A hA N o_4 σ_1 r_8 σ_6 hc_7) (cwV 0 ht gi_Bo_90 rfl rfl rfl (by decide +kernel) ⟨Nat.le_of_ble_eq_true rfl, Nat.le_of_ble_eq_true rfl⟩) (gx_preV G hI cl_Jb (gx_ci_j hg_5)) rfl rfl hl.1 rfl (lv_room (Nat.le_of_ble_eq_true rfl)) d_Bo_kill_14 ⟨Nat.zero_le _, Nat.zero_le _⟩) hI (st1 := [.int r_8]) rfl (fun H locs hI => ?_)
    refine lv_if_eq (tgt := 28) hx hb d_Bo_kill_17 (by decide) (fun c_9 => ?_) (fun c_9 => ?_)
    · replace hf := (if_pos c_9).symm.trans hf
      refine lv_iconst (v := (-1)) hx hb d_Bo_kill_28 (by decide) ?_
      cases hf
      exact W.iret hx hb hr (gx_F hI) hI.2.2.2 d_Bo_kill_29
    · replace hf := (if_neg c_9).symm.trans hf
      refine lv_aload_n hx hb d_Bo_kill_20 rfl (lv_at hl 0 rfl) ?_
      refine gx_getI G hI cl_Jb (gx_ci_j hg_5) 10 (by decide) (gx_rf_j hg_5 10) fl_Bo_97 d_Bo_kill_21 ?_
      refine lv_iconst (v := 2) hx hb d_Bo_kill_24 (by decide) ?_
      refine lv_icmp_ne (tgt := 30) hx hb d_Bo_kill_25 (by decide) (fun c_10 => ?_) (fun c_10 => ?_)
      · replace hf := (if_neg c_10).symm.trans hf
        refine lv_aload_n hx hb d_Bo_kill_30 rfl (lv_at hl 1 rfl) ?_
        refine gx_getR (o' := 24) G hI cl_Bo (by decide) 2 (by decide) (by decide) fl_Bo_23 d_Bo_kill_31 ?_
        refine lv_aload_n hx hb d_Bo_kill_34 rfl (lv_at hl 0 rfl) ?_
        obtain ⟨σ_11, hc_12, hf⟩ := gx_bve hf
        refine gx_go (va_runV (As := [.ref (adr o_4)]) (rest := []) G.1 (ct_Ro_bury l D dA adr A hA N 24 o_4 σ_6 σ_11 hc_12) (cwV 1 ht gi_Bo_146 rfl rfl rfl (by decide +kernel) ⟨Nat.le_of_ble_eq_true rfl, Nat.le_of_ble_eq_true rfl⟩) (gx_preV G hI cl_Ro (gx_ci_r (by decide))) rfl rfl hl.1 rfl (lv_room (Nat.le_of_ble_eq_true rfl)) d_Bo_kill_35 ⟨Nat.zero_le _, Nat.zero_le _⟩) hI (st1 := []) rfl (fun H locs hI => ?_)
        refine lv_aload_n hx hb d_Bo_kill_38 rfl (lv_at hl 1 rfl) ?_
        refine gx_getR (o' := 6) G hI cl_Bo (by decide) 3 (by decide) (by decide) fl_Bo_30 d_Bo_kill_39 ?_
        refine lv_aload_n hx hb d_Bo_kill_42 rfl (lv_at hl 1 rfl) ?_
        refine gx_getR (o' := 24) G hI cl_Bo (by decide) 2 (by decide) (by decide) fl_Bo_23 d_Bo_kill_43 ?_
        obtain ⟨σ_13, hc_14, hf⟩ := gx_bve hf
        refine gx_go (va_runV (As := [.ref (adr 24)]) (rest := []) G.1 (ct_Jn_write l D dA adr A hA N 24 σ_11 σ_13 hc_14) (cwV 1 ht gi_Bo_79 rfl rfl rfl (by decide +kernel) ⟨Nat.le_of_ble_eq_true rfl, Nat.le_of_ble_eq_true rfl⟩) (gx_preV G hI cl_Jn (by decide)) rfl rfl hl.1 rfl (lv_room (Nat.le_of_ble_eq_true rfl)) d_Bo_kill_46 ⟨Nat.zero_le _, Nat.zero_le _⟩) hI (st1 := []) rfl (fun H locs hI => ?_)
        refine lv_iconst (v := 0) hx hb d_Bo_kill_49 (by decide) ?_
        cases hf
        exact W.iret hx hb hr (gx_F hI) hI.2.2.2 d_Bo_kill_50
      · replace hf := (if_pos c_10).symm.trans hf
        refine lv_iconst (v := (-1)) hx hb d_Bo_kill_28 (by decide) ?_
        cases hf
        exact W.iret hx hb hr (gx_F hI) hI.2.2.2 d_Bo_kill_29
def fn_Bo_flush (N : Nat) (σ : gx_M) : Option (Int32 × gx_M) := gx_bd (fn_Jn_flushAll N 24 σ) (fun r_3 σ_1 => some (r_3, σ_1))
set_option maxHeartbeats 4000000 in
set_option maxRecDepth 100000 in
theorem ct_Bo_flush (l : Launch) (D : va_G) (dA : Nat → ClassId) (adr : Nat → Nat) (A : Nat → Prop) (hA : gx_A A adr) (N : Nat) (σ : gx_M) (r : Int32) (σ' : gx_M) (hf : fn_Bo_flush N σ = some (r, σ')) : Met l y_Bo_flush w_Bo_flush rm_Bo_flush (gx_Pc D dA adr σ [.ref (adr 0)]) (gx_Q D dA adr A (some (.int r)) σ') 0 0 A := by
  refine Met.ofW (cc := b_Bo_flush) (maxL := 1) (ret := some .int) (by decide) rfl ?_
  intro p e s m args below meth c s₁ B hml hv
  obtain ⟨rfl, hP, hK⟩ := hv
  have hx := B.exec
  have hb := B.bytes
  have hr := B.returns
  have hlocks := B.notSynchronized
  have ht : ∀ w ∈ gx_tb, w.before _ s = true := fun w h => atoms_spec (ws := w_Bo_flush) B.pre w (List.mem_cons_of_mem _ h)
  have hown : s.vm.findClass R_Bo = some m.cls := findClass_of_methodNamed B.named
  have G : gx_G p m c b_Bo_flush 1 s _ gx_tb R_Bo D dA := ⟨⟨hx, hb, hml, hown, ht⟩, hK⟩
  have hI : gx_I D dA adr A s.heap σ s.heap [] := ⟨hP, va_S.rf⟩
  have hl := lv_entry ([.ref (adr 0)]) (n := 1) (Nat.le_of_ble_eq_true rfl)
  rw [lg_entry_eq]
  generalize (lg_sl ([.ref (adr 0)]) ++ List.replicate (1 - (lg_sl ([.ref (adr 0)])).length) Slot.unset).toArray = ls at hl ⊢
  have hl : lv_has ls 1 [(0, .ref (adr 0))] := hl
  rw [fn_Bo_flush] at hf
  refine lv_aload_n hx hb d_Bo_flush_0 rfl (lv_at hl 0 rfl) ?_
  refine gx_getR (o' := 6) G hI cl_Bo (by decide) 3 (by decide) (by decide) fl_Bo_30 d_Bo_flush_1 ?_
  refine lv_aload_n hx hb d_Bo_flush_4 rfl (lv_at hl 0 rfl) ?_
  refine gx_getR (o' := 24) G hI cl_Bo (by decide) 2 (by decide) (by decide) fl_Bo_23 d_Bo_flush_5 ?_
  obtain ⟨r_3, σ_1, hc_2, hf⟩ := gx_bde hf
  refine gx_go (va_runV (As := [.ref (adr 24)]) (rest := []) G.1 (ct_Jn_flushAll l D dA adr A hA N 24 σ r_3 σ_1 hc_2) (cwV 1 ht gi_Bo_149 rfl rfl rfl (by decide +kernel) ⟨Nat.le_of_ble_eq_true rfl, Nat.le_of_ble_eq_true rfl⟩) (gx_preV G hI cl_Jn (by decide)) rfl rfl hl.1 rfl (lv_room (Nat.le_of_ble_eq_true rfl)) d_Bo_flush_8 ⟨Nat.zero_le _, Nat.zero_le _⟩) hI (st1 := [.int r_3]) rfl (fun H locs hI => ?_)
  cases hf
  exact W.iret hx hb hr (gx_F hI) hI.2.2.2 d_Bo_flush_11
def fn_Bo_crash_L34 (N : Nat) (u2 : Int32) : Nat → Int32 → gx_M → Option (Int32 × gx_M)
  | 0, _, _ => none
  | n + 1, v3, σ => if ((4 : Int32)) ≤ v3 then (gx_lt (gx_up σ 0 5 ((-1 : Int32))) (fun σ_10 => gx_bd (fn_Jn_flushAll N 24 σ_10) (fun r_13 σ_11 => some (u2, σ_11)))) else (if 0 ≤ v3 ∧ v3 < 4 then (gx_bv (fn_Qu_restart N (gx_el 1 v3.toNatClampNeg) σ) (fun σ_15 => fn_Bo_crash_L34 N u2 n (v3 + 1) σ_15)) else none)
def fn_Bo_crash (N : Nat) (p0 : Int32) (σ : gx_M) : Option (Int32 × gx_M) := gx_bd (fn_Jn_restore N 24 p0 σ) (fun r_3 σ_1 => gx_bv (fn_Ro_releaseReserved N 24 σ_1) (fun σ_4 => gx_bd (fn_Ro_settleDue N 24 (σ_4 0 4) σ_4) (fun r_8 σ_6 => fn_Bo_crash_L34 N r_3 N ((0 : Int32)) σ_6)))
set_option maxHeartbeats 4000000 in
set_option maxRecDepth 100000 in
theorem wl_Bo_crash_L34 {p : Program} {l : Launch} {e : Env} {s : State} {m : MethodId} {args : Array Value} {below : List Frame} {meth : Method} {c : Code} {D : va_G} {dA : Nat → ClassId} {adr : Nat → Nat} {A : Nat → Prop} (G : gx_G p m c b_Bo_crash 4 s args gx_tb R_Bo D dA) (hr : meth.sig.returnType = some .int) (hlocks : meth.locks = false) (hA : gx_A A adr) (N : Nat) (res : Int32 × gx_M) (u2 : Int32) : ∀ (n : Nat) (v3 : Int32) (σ : gx_M) (H : Heap) (locs : List Loc) (ls : Array Slot), fn_Bo_crash_L34 N u2 n v3 σ = some res → gx_I D dA adr A s.heap σ H locs → lv_has ls 4 [(3, .int v3), (2, .int u2), (0, .ref (adr 0))] → W p l e (headSpec w_Bo_crash rm_Bo_crash).room s m args below meth c H locs 0 0 (MQ below (gx_Q D dA adr A (some (.int res.1)) res.2) args s 0 0 A) (F0 m 34 ls []) := by
  obtain ⟨⟨hx, hb, hml, hown, ht⟩, hK⟩ := id G
  intro n
  induction n with
  | zero =>
    intro v3 σ H locs ls hf
    cases hf
  | succ n ih =>
    intro v3 σ H locs ls hf hI hl
    rw [fn_Bo_crash_L34] at hf
    refine lv_iload_n hx hb d_Bo_crash_34 rfl (lv_at hl 0 rfl) ?_
    refine lv_iconst (v := 4) hx hb d_Bo_crash_35 (by decide) ?_
    refine lv_icmp_ge (tgt := 54) hx hb d_Bo_crash_36 (by decide) (fun c_9 => ?_) (fun c_9 => ?_)
    · replace hf := (if_pos c_9).symm.trans hf
      refine lv_aload_n hx hb d_Bo_crash_54 rfl (lv_at hl 2 rfl) ?_
      refine lv_iconst (v := (-1)) hx hb d_Bo_crash_55 (by decide) ?_
      obtain ⟨σ_10, eσ_10, hf⟩ := gx_lte hf
      refine gx_put G hI hA cl_Bo (by decide) 5 (by decide) (by decide) fl_Bo_38 rfl rfl rfl eσ_10 d_Bo_crash_56 (fun H locs hI => ?_)
      refine lv_aload_n hx hb d_Bo_crash_59 rfl (lv_at hl 2 rfl) ?_
      refine gx_getR (o' := 6) G hI cl_Bo (by decide) 3 (by decide) (by decide) fl_Bo_30 d_Bo_crash_60 ?_
      refine lv_aload_n hx hb d_Bo_crash_63 rfl (lv_at hl 2 rfl) ?_
      refine gx_getR (o' := 24) G hI cl_Bo (by decide) 2 (by decide) (by decide) fl_Bo_23 d_Bo_crash_64 ?_
      obtain ⟨r_13, σ_11, hc_12, hf⟩ := gx_bde hf
      refine gx_go (va_runV (As := [.ref (adr 24)]) (rest := []) G.1 (ct_Jn_flushAll l D dA adr A hA N 24 σ_10 r_13 σ_11 hc_12) (cwV 1 ht gi_Bo_149 rfl rfl rfl (by decide +kernel) ⟨Nat.le_of_ble_eq_true rfl, Nat.le_of_ble_eq_true rfl⟩) (gx_preV G hI cl_Jn (by decide)) rfl rfl hl.1 rfl (lv_room (Nat.le_of_ble_eq_true rfl)) d_Bo_crash_67 ⟨Nat.zero_le _, Nat.zero_le _⟩) hI (st1 := [.int r_13]) rfl (fun H locs hI => ?_)
      refine lv_pop hx hb d_Bo_crash_70 rfl ?_
      refine lv_iload_n hx hb d_Bo_crash_71 rfl (lv_at hl 1 rfl) ?_
      cases hf
      exact W.iret hx hb hr (gx_F hI) hI.2.2.2 d_Bo_crash_72
    · replace hf := (if_neg c_9).symm.trans hf
      refine lv_aload_n hx hb d_Bo_crash_39 rfl (lv_at hl 2 rfl) ?_
      refine gx_getR (o' := 1) G hI cl_Bo (by decide) 1 (by decide) (by decide) fl_Bo_15 d_Bo_crash_40 ?_
      refine lv_iload_n hx hb d_Bo_crash_43 rfl (lv_at hl 0 rfl) ?_
      obtain ⟨hi_14, hf⟩ := gx_gd hf
      refine gx_aldQ G hI hi_14 d_Bo_crash_44 ?_
      obtain ⟨σ_15, hc_16, hf⟩ := gx_bve hf
      refine gx_go (va_runV (As := []) (rest := []) G.1 (ct_Qu_restart l D dA adr A hA N (gx_el 1 v3.toNatClampNeg) σ σ_15 hc_16) (cwV 0 ht gi_Bo_160 rfl rfl rfl (by decide +kernel) ⟨Nat.le_of_ble_eq_true rfl, Nat.le_of_ble_eq_true rfl⟩) (gx_preV G hI cl_Qu (gx_ci_q (gx_el_q hi_14))) rfl rfl hl.1 rfl (lv_room (Nat.le_of_ble_eq_true rfl)) d_Bo_crash_45 ⟨Nat.zero_le _, Nat.zero_le _⟩) hI (st1 := []) rfl (fun H locs hI => ?_)
      refine lv_iinc (v := v3 + 1) (lv' := [(3, .int (v3 + 1)), (2, .int u2), (0, .ref (adr 0))]) hx hb d_Bo_crash_48 hl (k := 0) rfl rfl (by decide) rfl (fun ls hl => ?_)
      refine lv_goto (tgt := 34) hx hb d_Bo_crash_51 (by decide) ?_
      exact ih (v3 + 1) σ_15 H locs ls hf hI (lv_sub hl [0, 1, 2] rfl)
set_option maxHeartbeats 4000000 in
set_option maxRecDepth 100000 in
theorem ct_Bo_crash (l : Launch) (D : va_G) (dA : Nat → ClassId) (adr : Nat → Nat) (A : Nat → Prop) (hA : gx_A A adr) (N : Nat) (p0 : Int32) (σ : gx_M) (r : Int32) (σ' : gx_M) (hf : fn_Bo_crash N p0 σ = some (r, σ')) : Met l y_Bo_crash w_Bo_crash rm_Bo_crash (gx_Pc D dA adr σ [.ref (adr 0), .int p0]) (gx_Q D dA adr A (some (.int r)) σ') 0 0 A := by
  refine Met.ofW (cc := b_Bo_crash) (maxL := 4) (ret := some .int) (by decide) rfl ?_
  intro p e s m args below meth c s₁ B hml hv
  obtain ⟨rfl, hP, hK⟩ := hv
  have hx := B.exec
  have hb := B.bytes
  have hr := B.returns
  have hlocks := B.notSynchronized
  have ht : ∀ w ∈ gx_tb, w.before _ s = true := fun w h => atoms_spec (ws := w_Bo_crash) B.pre w (List.mem_cons_of_mem _ h)
  have hown : s.vm.findClass R_Bo = some m.cls := findClass_of_methodNamed B.named
  have G : gx_G p m c b_Bo_crash 4 s _ gx_tb R_Bo D dA := ⟨⟨hx, hb, hml, hown, ht⟩, hK⟩
  have hI : gx_I D dA adr A s.heap σ s.heap [] := ⟨hP, va_S.rf⟩
  have hl := lv_entry ([.ref (adr 0), .int p0]) (n := 4) (Nat.le_of_ble_eq_true rfl)
  rw [lg_entry_eq]
  generalize (lg_sl ([.ref (adr 0), .int p0]) ++ List.replicate (4 - (lg_sl ([.ref (adr 0), .int p0])).length) Slot.unset).toArray = ls at hl ⊢
  have hl : lv_has ls 4 [(0, .ref (adr 0)), (1, .int p0)] := hl
  rw [fn_Bo_crash] at hf
  refine lv_aload_n hx hb d_Bo_crash_0 rfl (lv_at hl 0 rfl) ?_
  refine gx_getR (o' := 6) G hI cl_Bo (by decide) 3 (by decide) (by decide) fl_Bo_30 d_Bo_crash_1 ?_
  refine lv_aload_n hx hb d_Bo_crash_4 rfl (lv_at hl 0 rfl) ?_
  refine gx_getR (o' := 24) G hI cl_Bo (by decide) 2 (by decide) (by decide) fl_Bo_23 d_Bo_crash_5 ?_
  refine lv_iload_n hx hb d_Bo_crash_8 rfl (lv_at hl 1 rfl) ?_
  obtain ⟨r_3, σ_1, hc_2, hf⟩ := gx_bde hf
  refine gx_go (va_runV (As := [.ref (adr 24), .int p0]) (rest := []) G.1 (ct_Jn_restore l D dA adr A hA N 24 p0 σ r_3 σ_1 hc_2) (cwV 2 ht gi_Bo_153 rfl rfl rfl (by decide +kernel) ⟨Nat.le_of_ble_eq_true rfl, Nat.le_of_ble_eq_true rfl⟩) (gx_preV G hI cl_Jn (by decide)) rfl rfl hl.1 rfl (lv_room (Nat.le_of_ble_eq_true rfl)) d_Bo_crash_9 ⟨Nat.zero_le _, Nat.zero_le _⟩) hI (st1 := [.int r_3]) rfl (fun H locs hI => ?_)
  refine lv_istore_n (i := 2) (lv' := [(2, .int r_3), (0, .ref (adr 0)), (1, .int p0)]) hx hb d_Bo_crash_12 rfl hl (by decide) rfl (fun ls hl => ?_)
  refine lv_aload_n hx hb d_Bo_crash_13 rfl (lv_at hl 1 rfl) ?_
  refine gx_getR (o' := 24) G hI cl_Bo (by decide) 2 (by decide) (by decide) fl_Bo_23 d_Bo_crash_14 ?_
  obtain ⟨σ_4, hc_5, hf⟩ := gx_bve hf
  refine gx_go (va_runV (As := []) (rest := []) G.1 (ct_Ro_releaseReserved l D dA adr A hA N 24 σ_1 σ_4 hc_5) (cwV 0 ht gi_Bo_157 rfl rfl rfl (by decide +kernel) ⟨Nat.le_of_ble_eq_true rfl, Nat.le_of_ble_eq_true rfl⟩) (gx_preV G hI cl_Ro (gx_ci_r (by decide))) rfl rfl hl.1 rfl (lv_room (Nat.le_of_ble_eq_true rfl)) d_Bo_crash_17 ⟨Nat.zero_le _, Nat.zero_le _⟩) hI (st1 := []) rfl (fun H locs hI => ?_)
  refine lv_aload_n hx hb d_Bo_crash_20 rfl (lv_at hl 1 rfl) ?_
  refine gx_getR (o' := 24) G hI cl_Bo (by decide) 2 (by decide) (by decide) fl_Bo_23 d_Bo_crash_21 ?_
  refine lv_aload_n hx hb d_Bo_crash_24 rfl (lv_at hl 1 rfl) ?_
  refine gx_getI G hI cl_Bo (by decide) 4 (by decide) (by decide) fl_Bo_34 d_Bo_crash_25 ?_
  obtain ⟨r_8, σ_6, hc_7, hf⟩ := gx_bde hf
  refine gx_go (va_runV (As := [.int (σ_4 0 4)]) (rest := []) G.1 (ct_Ro_settleDue l D dA adr A hA N 24 (σ_4 0 4) σ_4 r_8 σ_6 hc_7) (cwV 1 ht gi_Bo_139 rfl rfl rfl (by decide +kernel) ⟨Nat.le_of_ble_eq_true rfl, Nat.le_of_ble_eq_true rfl⟩) (gx_preV G hI cl_Ro (gx_ci_r (by decide))) rfl rfl hl.1 rfl (lv_room (Nat.le_of_ble_eq_true rfl)) d_Bo_crash_28 ⟨Nat.zero_le _, Nat.zero_le _⟩) hI (st1 := [.int r_8]) rfl (fun H locs hI => ?_)
  refine lv_pop hx hb d_Bo_crash_31 rfl ?_
  refine lv_iconst (v := 0) hx hb d_Bo_crash_32 (by decide) ?_
  refine lv_istore_n (i := 3) (lv' := [(3, .int ((0 : Int32))), (2, .int r_3), (0, .ref (adr 0)), (1, .int p0)]) hx hb d_Bo_crash_33 rfl hl (by decide) rfl (fun ls hl => ?_)
  exact wl_Bo_crash_L34 G hr hlocks hA N _ r_3 N ((0 : Int32)) σ_6 _ _ ls hf hI (lv_sub hl [0, 1, 2] rfl)
def fn_Bo_state (N : Nat) (p0 : Int32) (σ : gx_M) : Option (Int32 × gx_M) := gx_bd (fn_Ro_find N 24 p0 σ) (fun x_3 σ_1 => gx_mt x_3 (some ((-1 : Int32), σ_1)) (fun o_4 => if 42 ≤ o_4 ∧ o_4 < 722 then (some (σ_1 o_4 10, σ_1)) else none))
set_option maxHeartbeats 4000000 in
set_option maxRecDepth 100000 in
theorem ct_Bo_state (l : Launch) (D : va_G) (dA : Nat → ClassId) (adr : Nat → Nat) (A : Nat → Prop) (hA : gx_A A adr) (N : Nat) (p0 : Int32) (σ : gx_M) (r : Int32) (σ' : gx_M) (hf : fn_Bo_state N p0 σ = some (r, σ')) : Met l y_Bo_state w_Bo_state rm_Bo_state (gx_Pc D dA adr σ [.ref (adr 0), .int p0]) (gx_Q D dA adr A (some (.int r)) σ') 0 0 A := by
  refine Met.ofW (cc := b_Bo_state) (maxL := 3) (ret := some .int) (by decide) rfl ?_
  intro p e s m args below meth c s₁ B hml hv
  obtain ⟨rfl, hP, hK⟩ := hv
  have hx := B.exec
  have hb := B.bytes
  have hr := B.returns
  have hlocks := B.notSynchronized
  have ht : ∀ w ∈ gx_tb, w.before _ s = true := fun w h => atoms_spec (ws := w_Bo_state) B.pre w (List.mem_cons_of_mem _ h)
  have hown : s.vm.findClass R_Bo = some m.cls := findClass_of_methodNamed B.named
  have G : gx_G p m c b_Bo_state 3 s _ gx_tb R_Bo D dA := ⟨⟨hx, hb, hml, hown, ht⟩, hK⟩
  have hI : gx_I D dA adr A s.heap σ s.heap [] := ⟨hP, va_S.rf⟩
  have hl := lv_entry ([.ref (adr 0), .int p0]) (n := 3) (Nat.le_of_ble_eq_true rfl)
  rw [lg_entry_eq]
  generalize (lg_sl ([.ref (adr 0), .int p0]) ++ List.replicate (3 - (lg_sl ([.ref (adr 0), .int p0])).length) Slot.unset).toArray = ls at hl ⊢
  have hl : lv_has ls 3 [(0, .ref (adr 0)), (1, .int p0)] := hl
  rw [fn_Bo_state] at hf
  refine lv_aload_n hx hb d_Bo_state_0 rfl (lv_at hl 0 rfl) ?_
  refine gx_getR (o' := 24) G hI cl_Bo (by decide) 2 (by decide) (by decide) fl_Bo_23 d_Bo_state_1 ?_
  refine lv_iload_n hx hb d_Bo_state_4 rfl (lv_at hl 1 rfl) ?_
  obtain ⟨x_3, σ_1, hc_2, hf⟩ := gx_bde hf
  rcases x_3 with _ | o_4
  · replace hf := gx_mtn hf
    refine gx_go (va_runV (As := [.int p0]) (rest := []) G.1 (ct_Ro_find l D dA adr A hA N 24 p0 σ none σ_1 hc_2) (cwV 1 ht gi_Bo_86 rfl rfl rfl (by decide +kernel) ⟨Nat.le_of_ble_eq_true rfl, Nat.le_of_ble_eq_true rfl⟩) (gx_preV G hI cl_Ro (gx_ci_r (by decide))) rfl rfl hl.1 rfl (lv_room (Nat.le_of_ble_eq_true rfl)) d_Bo_state_5 ⟨Nat.zero_le _, Nat.zero_le _⟩) hI (st1 := [.null]) rfl (fun H locs hI => ?_)
    refine lv_astore_nN (i := 2) (lv' := [(2, .null), (0, .ref (adr 0)), (1, .int p0)]) hx hb d_Bo_state_8 rfl hl (by decide) rfl (fun ls hl => ?_)
    refine lv_aload_nN hx hb d_Bo_state_9 rfl (lv_at hl 0 rfl) ?_
    refine lv_ifnonnullN hx hb d_Bo_state_10 ?_
    refine lv_iconst (v := (-1)) hx hb d_Bo_state_13 (by decide) ?_
    refine lv_goto (tgt := 21) hx hb d_Bo_state_14 (by decide) ?_
    cases hf
    exact W.iret hx hb hr (gx_F hI) hI.2.2.2 d_Bo_state_21
  · replace hf := gx_mts hf
    obtain ⟨hg_5, hf⟩ := gx_gd hf
    refine gx_go (va_runV (As := [.int p0]) (rest := []) G.1 (ct_Ro_find l D dA adr A hA N 24 p0 σ (some o_4) σ_1 hc_2) (cwV 1 ht gi_Bo_86 rfl rfl rfl (by decide +kernel) ⟨Nat.le_of_ble_eq_true rfl, Nat.le_of_ble_eq_true rfl⟩) (gx_preV G hI cl_Ro (gx_ci_r (by decide))) rfl rfl hl.1 rfl (lv_room (Nat.le_of_ble_eq_true rfl)) d_Bo_state_5 ⟨Nat.zero_le _, Nat.zero_le _⟩) hI (st1 := [.ref (adr o_4)]) rfl (fun H locs hI => ?_)
    refine lv_astore_n (i := 2) (lv' := [(2, .ref (adr o_4)), (0, .ref (adr 0)), (1, .int p0)]) hx hb d_Bo_state_8 rfl hl (by decide) rfl (fun ls hl => ?_)
    refine lv_aload_n hx hb d_Bo_state_9 rfl (lv_at hl 0 rfl) ?_
    refine lv_ifnonnull (tgt := 17) hx hb d_Bo_state_10 (by decide) ?_
    refine lv_aload_n hx hb d_Bo_state_17 rfl (lv_at hl 0 rfl) ?_
    refine gx_getI G hI cl_Jb (gx_ci_j hg_5) 10 (by decide) (gx_rf_j hg_5 10) fl_Bo_97 d_Bo_state_18 ?_
    cases hf
    exact W.iret hx hb hr (gx_F hI) hI.2.2.2 d_Bo_state_21
def fn_Bo_failures (N : Nat) (p0 : Int32) (σ : gx_M) : Option (Int32 × gx_M) := gx_bd (fn_Ro_find N 24 p0 σ) (fun x_3 σ_1 => gx_mt x_3 (some ((-1 : Int32), σ_1)) (fun o_4 => if 42 ≤ o_4 ∧ o_4 < 722 then (some (σ_1 o_4 6, σ_1)) else none))
set_option maxHeartbeats 4000000 in
set_option maxRecDepth 100000 in
theorem ct_Bo_failures (l : Launch) (D : va_G) (dA : Nat → ClassId) (adr : Nat → Nat) (A : Nat → Prop) (hA : gx_A A adr) (N : Nat) (p0 : Int32) (σ : gx_M) (r : Int32) (σ' : gx_M) (hf : fn_Bo_failures N p0 σ = some (r, σ')) : Met l y_Bo_failures w_Bo_failures rm_Bo_failures (gx_Pc D dA adr σ [.ref (adr 0), .int p0]) (gx_Q D dA adr A (some (.int r)) σ') 0 0 A := by
  refine Met.ofW (cc := b_Bo_failures) (maxL := 3) (ret := some .int) (by decide) rfl ?_
  intro p e s m args below meth c s₁ B hml hv
  obtain ⟨rfl, hP, hK⟩ := hv
  have hx := B.exec
  have hb := B.bytes
  have hr := B.returns
  have hlocks := B.notSynchronized
  have ht : ∀ w ∈ gx_tb, w.before _ s = true := fun w h => atoms_spec (ws := w_Bo_failures) B.pre w (List.mem_cons_of_mem _ h)
  have hown : s.vm.findClass R_Bo = some m.cls := findClass_of_methodNamed B.named
  have G : gx_G p m c b_Bo_failures 3 s _ gx_tb R_Bo D dA := ⟨⟨hx, hb, hml, hown, ht⟩, hK⟩
  have hI : gx_I D dA adr A s.heap σ s.heap [] := ⟨hP, va_S.rf⟩
  have hl := lv_entry ([.ref (adr 0), .int p0]) (n := 3) (Nat.le_of_ble_eq_true rfl)
  rw [lg_entry_eq]
  generalize (lg_sl ([.ref (adr 0), .int p0]) ++ List.replicate (3 - (lg_sl ([.ref (adr 0), .int p0])).length) Slot.unset).toArray = ls at hl ⊢
  have hl : lv_has ls 3 [(0, .ref (adr 0)), (1, .int p0)] := hl
  rw [fn_Bo_failures] at hf
  refine lv_aload_n hx hb d_Bo_failures_0 rfl (lv_at hl 0 rfl) ?_
  refine gx_getR (o' := 24) G hI cl_Bo (by decide) 2 (by decide) (by decide) fl_Bo_23 d_Bo_failures_1 ?_
  refine lv_iload_n hx hb d_Bo_failures_4 rfl (lv_at hl 1 rfl) ?_
  obtain ⟨x_3, σ_1, hc_2, hf⟩ := gx_bde hf
  rcases x_3 with _ | o_4
  · replace hf := gx_mtn hf
    refine gx_go (va_runV (As := [.int p0]) (rest := []) G.1 (ct_Ro_find l D dA adr A hA N 24 p0 σ none σ_1 hc_2) (cwV 1 ht gi_Bo_86 rfl rfl rfl (by decide +kernel) ⟨Nat.le_of_ble_eq_true rfl, Nat.le_of_ble_eq_true rfl⟩) (gx_preV G hI cl_Ro (gx_ci_r (by decide))) rfl rfl hl.1 rfl (lv_room (Nat.le_of_ble_eq_true rfl)) d_Bo_failures_5 ⟨Nat.zero_le _, Nat.zero_le _⟩) hI (st1 := [.null]) rfl (fun H locs hI => ?_)
    refine lv_astore_nN (i := 2) (lv' := [(2, .null), (0, .ref (adr 0)), (1, .int p0)]) hx hb d_Bo_failures_8 rfl hl (by decide) rfl (fun ls hl => ?_)
    refine lv_aload_nN hx hb d_Bo_failures_9 rfl (lv_at hl 0 rfl) ?_
    refine lv_ifnonnullN hx hb d_Bo_failures_10 ?_
    refine lv_iconst (v := (-1)) hx hb d_Bo_failures_13 (by decide) ?_
    refine lv_goto (tgt := 21) hx hb d_Bo_failures_14 (by decide) ?_
    cases hf
    exact W.iret hx hb hr (gx_F hI) hI.2.2.2 d_Bo_failures_21
  · replace hf := gx_mts hf
    obtain ⟨hg_5, hf⟩ := gx_gd hf
    refine gx_go (va_runV (As := [.int p0]) (rest := []) G.1 (ct_Ro_find l D dA adr A hA N 24 p0 σ (some o_4) σ_1 hc_2) (cwV 1 ht gi_Bo_86 rfl rfl rfl (by decide +kernel) ⟨Nat.le_of_ble_eq_true rfl, Nat.le_of_ble_eq_true rfl⟩) (gx_preV G hI cl_Ro (gx_ci_r (by decide))) rfl rfl hl.1 rfl (lv_room (Nat.le_of_ble_eq_true rfl)) d_Bo_failures_5 ⟨Nat.zero_le _, Nat.zero_le _⟩) hI (st1 := [.ref (adr o_4)]) rfl (fun H locs hI => ?_)
    refine lv_astore_n (i := 2) (lv' := [(2, .ref (adr o_4)), (0, .ref (adr 0)), (1, .int p0)]) hx hb d_Bo_failures_8 rfl hl (by decide) rfl (fun ls hl => ?_)
    refine lv_aload_n hx hb d_Bo_failures_9 rfl (lv_at hl 0 rfl) ?_
    refine lv_ifnonnull (tgt := 17) hx hb d_Bo_failures_10 (by decide) ?_
    refine lv_aload_n hx hb d_Bo_failures_17 rfl (lv_at hl 0 rfl) ?_
    refine gx_getI G hI cl_Jb (gx_ci_j hg_5) 6 (by decide) (gx_rf_j hg_5 6) fl_Bo_143 d_Bo_failures_18 ?_
    cases hf
    exact W.iret hx hb hr (gx_F hI) hI.2.2.2 d_Bo_failures_21
def fn_Bo_due (N : Nat) (p0 : Int32) (σ : gx_M) : Option (Int32 × gx_M) := gx_bd (fn_Ro_find N 24 p0 σ) (fun x_3 σ_1 => gx_mt x_3 (some ((-1 : Int32), σ_1)) (fun o_4 => if 42 ≤ o_4 ∧ o_4 < 722 then (if (σ_1 o_4 10) = ((6 : Int32)) then (some (σ_1 o_4 8, σ_1)) else (gx_bd (fn_Jb_isTimed N o_4 σ_1) (fun r_9 σ_7 => if r_9 = 0 then (some ((-4 : Int32), σ_7)) else (some (σ_7 o_4 11, σ_7))))) else none))
set_option maxHeartbeats 4000000 in
set_option maxRecDepth 100000 in
theorem ct_Bo_due (l : Launch) (D : va_G) (dA : Nat → ClassId) (adr : Nat → Nat) (A : Nat → Prop) (hA : gx_A A adr) (N : Nat) (p0 : Int32) (σ : gx_M) (r : Int32) (σ' : gx_M) (hf : fn_Bo_due N p0 σ = some (r, σ')) : Met l y_Bo_due w_Bo_due rm_Bo_due (gx_Pc D dA adr σ [.ref (adr 0), .int p0]) (gx_Q D dA adr A (some (.int r)) σ') 0 0 A := by
  refine Met.ofW (cc := b_Bo_due) (maxL := 3) (ret := some .int) (by decide) rfl ?_
  intro p e s m args below meth c s₁ B hml hv
  obtain ⟨rfl, hP, hK⟩ := hv
  have hx := B.exec
  have hb := B.bytes
  have hr := B.returns
  have hlocks := B.notSynchronized
  have ht : ∀ w ∈ gx_tb, w.before _ s = true := fun w h => atoms_spec (ws := w_Bo_due) B.pre w (List.mem_cons_of_mem _ h)
  have hown : s.vm.findClass R_Bo = some m.cls := findClass_of_methodNamed B.named
  have G : gx_G p m c b_Bo_due 3 s _ gx_tb R_Bo D dA := ⟨⟨hx, hb, hml, hown, ht⟩, hK⟩
  have hI : gx_I D dA adr A s.heap σ s.heap [] := ⟨hP, va_S.rf⟩
  have hl := lv_entry ([.ref (adr 0), .int p0]) (n := 3) (Nat.le_of_ble_eq_true rfl)
  rw [lg_entry_eq]
  generalize (lg_sl ([.ref (adr 0), .int p0]) ++ List.replicate (3 - (lg_sl ([.ref (adr 0), .int p0])).length) Slot.unset).toArray = ls at hl ⊢
  have hl : lv_has ls 3 [(0, .ref (adr 0)), (1, .int p0)] := hl
  rw [fn_Bo_due] at hf
  refine lv_aload_n hx hb d_Bo_due_0 rfl (lv_at hl 0 rfl) ?_
  refine gx_getR (o' := 24) G hI cl_Bo (by decide) 2 (by decide) (by decide) fl_Bo_23 d_Bo_due_1 ?_
  refine lv_iload_n hx hb d_Bo_due_4 rfl (lv_at hl 1 rfl) ?_
  obtain ⟨x_3, σ_1, hc_2, hf⟩ := gx_bde hf
  rcases x_3 with _ | o_4
  · replace hf := gx_mtn hf
    refine gx_go (va_runV (As := [.int p0]) (rest := []) G.1 (ct_Ro_find l D dA adr A hA N 24 p0 σ none σ_1 hc_2) (cwV 1 ht gi_Bo_86 rfl rfl rfl (by decide +kernel) ⟨Nat.le_of_ble_eq_true rfl, Nat.le_of_ble_eq_true rfl⟩) (gx_preV G hI cl_Ro (gx_ci_r (by decide))) rfl rfl hl.1 rfl (lv_room (Nat.le_of_ble_eq_true rfl)) d_Bo_due_5 ⟨Nat.zero_le _, Nat.zero_le _⟩) hI (st1 := [.null]) rfl (fun H locs hI => ?_)
    refine lv_astore_nN (i := 2) (lv' := [(2, .null), (0, .ref (adr 0)), (1, .int p0)]) hx hb d_Bo_due_8 rfl hl (by decide) rfl (fun ls hl => ?_)
    refine lv_aload_nN hx hb d_Bo_due_9 rfl (lv_at hl 0 rfl) ?_
    refine lv_ifnonnullN hx hb d_Bo_due_10 ?_
    refine lv_iconst (v := (-1)) hx hb d_Bo_due_13 (by decide) ?_
    cases hf
    exact W.iret hx hb hr (gx_F hI) hI.2.2.2 d_Bo_due_14
  · replace hf := gx_mts hf
    obtain ⟨hg_5, hf⟩ := gx_gd hf
    refine gx_go (va_runV (As := [.int p0]) (rest := []) G.1 (ct_Ro_find l D dA adr A hA N 24 p0 σ (some o_4) σ_1 hc_2) (cwV 1 ht gi_Bo_86 rfl rfl rfl (by decide +kernel) ⟨Nat.le_of_ble_eq_true rfl, Nat.le_of_ble_eq_true rfl⟩) (gx_preV G hI cl_Ro (gx_ci_r (by decide))) rfl rfl hl.1 rfl (lv_room (Nat.le_of_ble_eq_true rfl)) d_Bo_due_5 ⟨Nat.zero_le _, Nat.zero_le _⟩) hI (st1 := [.ref (adr o_4)]) rfl (fun H locs hI => ?_)
    refine lv_astore_n (i := 2) (lv' := [(2, .ref (adr o_4)), (0, .ref (adr 0)), (1, .int p0)]) hx hb d_Bo_due_8 rfl hl (by decide) rfl (fun ls hl => ?_)
    refine lv_aload_n hx hb d_Bo_due_9 rfl (lv_at hl 0 rfl) ?_
    refine lv_ifnonnull (tgt := 15) hx hb d_Bo_due_10 (by decide) ?_
    refine lv_aload_n hx hb d_Bo_due_15 rfl (lv_at hl 0 rfl) ?_
    refine gx_getI G hI cl_Jb (gx_ci_j hg_5) 10 (by decide) (gx_rf_j hg_5 10) fl_Bo_97 d_Bo_due_16 ?_
    refine lv_bipush (v := 6) hx hb d_Bo_due_19 (by decide) ?_
    refine lv_icmp_ne (tgt := 29) hx hb d_Bo_due_21 (by decide) (fun c_6 => ?_) (fun c_6 => ?_)
    · replace hf := (if_neg c_6).symm.trans hf
      refine lv_aload_n hx hb d_Bo_due_29 rfl (lv_at hl 0 rfl) ?_
      obtain ⟨r_9, σ_7, hc_8, hf⟩ := gx_bde hf
      refine gx_go (va_runV (As := []) (rest := []) G.1 (ct_Jb_isTimed l D dA adr A hA N o_4 σ_1 r_9 σ_7 hc_8) (cwV 0 ht gi_Bo_163 rfl rfl rfl (by decide +kernel) ⟨Nat.le_of_ble_eq_true rfl, Nat.le_of_ble_eq_true rfl⟩) (gx_preV G hI cl_Jb (gx_ci_j hg_5)) rfl rfl hl.1 rfl (lv_room (Nat.le_of_ble_eq_true rfl)) d_Bo_due_30 ⟨Nat.zero_le _, Nat.zero_le _⟩) hI (st1 := [.int r_9]) rfl (fun H locs hI => ?_)
      refine lv_if_eq (tgt := 43) hx hb d_Bo_due_33 (by decide) (fun c_10 => ?_) (fun c_10 => ?_)
      · replace hf := (if_pos c_10).symm.trans hf
        refine lv_bipush (v := (-4)) hx hb d_Bo_due_43 (by decide) ?_
        cases hf
        exact W.iret hx hb hr (gx_F hI) hI.2.2.2 d_Bo_due_45
      · replace hf := (if_neg c_10).symm.trans hf
        refine lv_aload_n hx hb d_Bo_due_36 rfl (lv_at hl 0 rfl) ?_
        refine gx_getI G hI cl_Jb (gx_ci_j hg_5) 11 (by decide) (gx_rf_j hg_5 11) fl_Bo_166 d_Bo_due_37 ?_
        refine lv_goto (tgt := 45) hx hb d_Bo_due_40 (by decide) ?_
        cases hf
        exact W.iret hx hb hr (gx_F hI) hI.2.2.2 d_Bo_due_45
    · replace hf := (if_pos c_6).symm.trans hf
      refine lv_aload_n hx hb d_Bo_due_24 rfl (lv_at hl 0 rfl) ?_
      refine gx_getI G hI cl_Jb (gx_ci_j hg_5) 8 (by decide) (gx_rf_j hg_5 8) fl_Bo_100 d_Bo_due_25 ?_
      cases hf
      exact W.iret hx hb hr (gx_F hI) hI.2.2.2 d_Bo_due_28
def fn_Bo_holding (N : Nat) (p0 : Int32) (σ : gx_M) : Option (Int32 × gx_M) := gx_bd (fn_Bo_isWorker N p0 σ) (fun r_3 σ_1 => if r_3 = 0 then (some ((-1 : Int32), σ_1)) else (gx_bd (fn_Ro_reservedBy N 24 p0 σ_1) (fun x_7 σ_5 => gx_mt x_7 (gx_bd (fn_Bo_numberOrNone N none σ_5) (fun r_12 σ_10 => some (r_12, σ_10))) (fun o_8 => if 42 ≤ o_8 ∧ o_8 < 722 then (gx_bd (fn_Bo_numberOrNone N (some o_8) σ_5) (fun r_15 σ_13 => some (r_15, σ_13))) else none))))
set_option maxHeartbeats 4000000 in
set_option maxRecDepth 100000 in
theorem ct_Bo_holding (l : Launch) (D : va_G) (dA : Nat → ClassId) (adr : Nat → Nat) (A : Nat → Prop) (hA : gx_A A adr) (N : Nat) (p0 : Int32) (σ : gx_M) (r : Int32) (σ' : gx_M) (hf : fn_Bo_holding N p0 σ = some (r, σ')) : Met l y_Bo_holding w_Bo_holding rm_Bo_holding (gx_Pc D dA adr σ [.ref (adr 0), .int p0]) (gx_Q D dA adr A (some (.int r)) σ') 0 0 A := by
  refine Met.ofW (cc := b_Bo_holding) (maxL := 2) (ret := some .int) (by decide) rfl ?_
  intro p e s m args below meth c s₁ B hml hv
  obtain ⟨rfl, hP, hK⟩ := hv
  have hx := B.exec
  have hb := B.bytes
  have hr := B.returns
  have hlocks := B.notSynchronized
  have ht : ∀ w ∈ gx_tb, w.before _ s = true := fun w h => atoms_spec (ws := w_Bo_holding) B.pre w (List.mem_cons_of_mem _ h)
  have hown : s.vm.findClass R_Bo = some m.cls := findClass_of_methodNamed B.named
  have G : gx_G p m c b_Bo_holding 2 s _ gx_tb R_Bo D dA := ⟨⟨hx, hb, hml, hown, ht⟩, hK⟩
  have hI : gx_I D dA adr A s.heap σ s.heap [] := ⟨hP, va_S.rf⟩
  have hl := lv_entry ([.ref (adr 0), .int p0]) (n := 2) (Nat.le_of_ble_eq_true rfl)
  rw [lg_entry_eq]
  generalize (lg_sl ([.ref (adr 0), .int p0]) ++ List.replicate (2 - (lg_sl ([.ref (adr 0), .int p0])).length) Slot.unset).toArray = ls at hl ⊢
  have hl : lv_has ls 2 [(0, .ref (adr 0)), (1, .int p0)] := hl
  rw [fn_Bo_holding] at hf
  refine lv_iload_n hx hb d_Bo_holding_0 rfl (lv_at hl 1 rfl) ?_
  obtain ⟨r_3, σ_1, hc_2, hf⟩ := gx_bde hf
  refine gx_go (va_runS (As := [.int p0]) (rest := []) G.1 (ct_Bo_isWorker l D dA adr A hA N p0 σ r_3 σ_1 hc_2) (cwS 1 ht gi_Bo_110 rfl rfl rfl (by decide +kernel) ⟨Nat.le_of_ble_eq_true rfl, Nat.le_of_ble_eq_true rfl⟩) (gx_pre G hI) rfl rfl hl.1 rfl (lv_room (Nat.le_of_ble_eq_true rfl)) d_Bo_holding_1 ⟨Nat.zero_le _, Nat.zero_le _⟩) hI (st1 := [.int r_3]) rfl (fun H locs hI => ?_)
  refine lv_if_ne (tgt := 9) hx hb d_Bo_holding_4 (by decide) (fun c_4 => ?_) (fun c_4 => ?_)
  · replace hf := (if_neg c_4).symm.trans hf
    refine lv_aload_n hx hb d_Bo_holding_9 rfl (lv_at hl 0 rfl) ?_
    refine gx_getR (o' := 24) G hI cl_Bo (by decide) 2 (by decide) (by decide) fl_Bo_23 d_Bo_holding_10 ?_
    refine lv_iload_n hx hb d_Bo_holding_13 rfl (lv_at hl 1 rfl) ?_
    obtain ⟨x_7, σ_5, hc_6, hf⟩ := gx_bde hf
    rcases x_7 with _ | o_8
    · replace hf := gx_mtn hf
      refine gx_go (va_runV (As := [.int p0]) (rest := []) G.1 (ct_Ro_reservedBy l D dA adr A hA N 24 p0 σ_1 none σ_5 hc_6) (cwV 1 ht gi_Bo_113 rfl rfl rfl (by decide +kernel) ⟨Nat.le_of_ble_eq_true rfl, Nat.le_of_ble_eq_true rfl⟩) (gx_preV G hI cl_Ro (gx_ci_r (by decide))) rfl rfl hl.1 rfl (lv_room (Nat.le_of_ble_eq_true rfl)) d_Bo_holding_14 ⟨Nat.zero_le _, Nat.zero_le _⟩) hI (st1 := [.null]) rfl (fun H locs hI => ?_)
      obtain ⟨r_12, σ_10, hc_11, hf⟩ := gx_bde hf
      refine gx_go (va_runS (As := [.null]) (rest := []) G.1 (ct_Bo_numberOrNone l D dA adr A hA N none σ_5 r_12 σ_10 hc_11) (cwS 1 ht gi_Bo_169 rfl rfl rfl (by decide +kernel) ⟨Nat.le_of_ble_eq_true rfl, Nat.le_of_ble_eq_true rfl⟩) (gx_pre G hI) rfl rfl hl.1 rfl (lv_room (Nat.le_of_ble_eq_true rfl)) d_Bo_holding_17 ⟨Nat.zero_le _, Nat.zero_le _⟩) hI (st1 := [.int r_12]) rfl (fun H locs hI => ?_)
      cases hf
      exact W.iret hx hb hr (gx_F hI) hI.2.2.2 d_Bo_holding_20
    · replace hf := gx_mts hf
      obtain ⟨hg_9, hf⟩ := gx_gd hf
      refine gx_go (va_runV (As := [.int p0]) (rest := []) G.1 (ct_Ro_reservedBy l D dA adr A hA N 24 p0 σ_1 (some o_8) σ_5 hc_6) (cwV 1 ht gi_Bo_113 rfl rfl rfl (by decide +kernel) ⟨Nat.le_of_ble_eq_true rfl, Nat.le_of_ble_eq_true rfl⟩) (gx_preV G hI cl_Ro (gx_ci_r (by decide))) rfl rfl hl.1 rfl (lv_room (Nat.le_of_ble_eq_true rfl)) d_Bo_holding_14 ⟨Nat.zero_le _, Nat.zero_le _⟩) hI (st1 := [.ref (adr o_8)]) rfl (fun H locs hI => ?_)
      obtain ⟨r_15, σ_13, hc_14, hf⟩ := gx_bde hf
      refine gx_go (va_runS (As := [.ref (adr o_8)]) (rest := []) G.1 (ct_Bo_numberOrNone l D dA adr A hA N (some o_8) σ_5 r_15 σ_13 hc_14) (cwS 1 ht gi_Bo_169 rfl rfl rfl (by decide +kernel) ⟨Nat.le_of_ble_eq_true rfl, Nat.le_of_ble_eq_true rfl⟩) (gx_pre G hI) rfl rfl hl.1 rfl (lv_room (Nat.le_of_ble_eq_true rfl)) d_Bo_holding_17 ⟨Nat.zero_le _, Nat.zero_le _⟩) hI (st1 := [.int r_15]) rfl (fun H locs hI => ?_)
      cases hf
      exact W.iret hx hb hr (gx_F hI) hI.2.2.2 d_Bo_holding_20
  · replace hf := (if_pos c_4).symm.trans hf
    refine lv_iconst (v := (-1)) hx hb d_Bo_holding_7 (by decide) ?_
    cases hf
    exact W.iret hx hb hr (gx_F hI) hI.2.2.2 d_Bo_holding_8
def fn_Bo_line (N : Nat) (p0 : Int32) (p1 : Int32) (σ : gx_M) : Option (Int32 × gx_M) := gx_bd (fn_Bo_isQueue N p0 σ) (fun r_3 σ_1 => if r_3 = 0 then (some ((-1 : Int32), σ_1)) else (if 0 ≤ p1 then (gx_bd (fn_Ro_inLine N 24 p0 p1 σ_1) (fun x_8 σ_6 => gx_mt x_8 (gx_bd (fn_Bo_numberOrNone N none σ_6) (fun r_13 σ_11 => some (r_13, σ_11))) (fun o_9 => if 42 ≤ o_9 ∧ o_9 < 722 then (gx_bd (fn_Bo_numberOrNone N (some o_9) σ_6) (fun r_16 σ_14 => some (r_16, σ_14))) else none))) else (some ((-4 : Int32), σ_1))))
set_option maxHeartbeats 4000000 in
set_option maxRecDepth 100000 in
theorem ct_Bo_line (l : Launch) (D : va_G) (dA : Nat → ClassId) (adr : Nat → Nat) (A : Nat → Prop) (hA : gx_A A adr) (N : Nat) (p0 : Int32) (p1 : Int32) (σ : gx_M) (r : Int32) (σ' : gx_M) (hf : fn_Bo_line N p0 p1 σ = some (r, σ')) : Met l y_Bo_line w_Bo_line rm_Bo_line (gx_Pc D dA adr σ [.ref (adr 0), .int p0, .int p1]) (gx_Q D dA adr A (some (.int r)) σ') 0 0 A := by
  refine Met.ofW (cc := b_Bo_line) (maxL := 3) (ret := some .int) (by decide) rfl ?_
  intro p e s m args below meth c s₁ B hml hv
  obtain ⟨rfl, hP, hK⟩ := hv
  have hx := B.exec
  have hb := B.bytes
  have hr := B.returns
  have hlocks := B.notSynchronized
  have ht : ∀ w ∈ gx_tb, w.before _ s = true := fun w h => atoms_spec (ws := w_Bo_line) B.pre w (List.mem_cons_of_mem _ h)
  have hown : s.vm.findClass R_Bo = some m.cls := findClass_of_methodNamed B.named
  have G : gx_G p m c b_Bo_line 3 s _ gx_tb R_Bo D dA := ⟨⟨hx, hb, hml, hown, ht⟩, hK⟩
  have hI : gx_I D dA adr A s.heap σ s.heap [] := ⟨hP, va_S.rf⟩
  have hl := lv_entry ([.ref (adr 0), .int p0, .int p1]) (n := 3) (Nat.le_of_ble_eq_true rfl)
  rw [lg_entry_eq]
  generalize (lg_sl ([.ref (adr 0), .int p0, .int p1]) ++ List.replicate (3 - (lg_sl ([.ref (adr 0), .int p0, .int p1])).length) Slot.unset).toArray = ls at hl ⊢
  have hl : lv_has ls 3 [(0, .ref (adr 0)), (1, .int p0), (2, .int p1)] := hl
  rw [fn_Bo_line] at hf
  refine lv_iload_n hx hb d_Bo_line_0 rfl (lv_at hl 1 rfl) ?_
  obtain ⟨r_3, σ_1, hc_2, hf⟩ := gx_bde hf
  refine gx_go (va_runS (As := [.int p0]) (rest := []) G.1 (ct_Bo_isQueue l D dA adr A hA N p0 σ r_3 σ_1 hc_2) (cwS 1 ht gi_Bo_41 rfl rfl rfl (by decide +kernel) ⟨Nat.le_of_ble_eq_true rfl, Nat.le_of_ble_eq_true rfl⟩) (gx_pre G hI) rfl rfl hl.1 rfl (lv_room (Nat.le_of_ble_eq_true rfl)) d_Bo_line_1 ⟨Nat.zero_le _, Nat.zero_le _⟩) hI (st1 := [.int r_3]) rfl (fun H locs hI => ?_)
  refine lv_if_ne (tgt := 9) hx hb d_Bo_line_4 (by decide) (fun c_4 => ?_) (fun c_4 => ?_)
  · replace hf := (if_neg c_4).symm.trans hf
    refine lv_iload_n hx hb d_Bo_line_9 rfl (lv_at hl 2 rfl) ?_
    refine lv_if_ge (tgt := 18) hx hb d_Bo_line_10 (by decide) (fun c_5 => ?_) (fun c_5 => ?_)
    · replace hf := (if_pos c_5).symm.trans hf
      refine lv_aload_n hx hb d_Bo_line_18 rfl (lv_at hl 0 rfl) ?_
      refine gx_getR (o' := 24) G hI cl_Bo (by decide) 2 (by decide) (by decide) fl_Bo_23 d_Bo_line_19 ?_
      refine lv_iload_n hx hb d_Bo_line_22 rfl (lv_at hl 1 rfl) ?_
      refine lv_iload_n hx hb d_Bo_line_23 rfl (lv_at hl 2 rfl) ?_
      obtain ⟨x_8, σ_6, hc_7, hf⟩ := gx_bde hf
      rcases x_8 with _ | o_9
      · replace hf := gx_mtn hf
        refine gx_go (va_runV (As := [.int p0, .int p1]) (rest := []) G.1 (ct_Ro_inLine l D dA adr A hA N 24 p0 p1 σ_1 none σ_6 hc_7) (cwV 2 ht gi_Bo_173 rfl rfl rfl (by decide +kernel) ⟨Nat.le_of_ble_eq_true rfl, Nat.le_of_ble_eq_true rfl⟩) (gx_preV G hI cl_Ro (gx_ci_r (by decide))) rfl rfl hl.1 rfl (lv_room (Nat.le_of_ble_eq_true rfl)) d_Bo_line_24 ⟨Nat.zero_le _, Nat.zero_le _⟩) hI (st1 := [.null]) rfl (fun H locs hI => ?_)
        obtain ⟨r_13, σ_11, hc_12, hf⟩ := gx_bde hf
        refine gx_go (va_runS (As := [.null]) (rest := []) G.1 (ct_Bo_numberOrNone l D dA adr A hA N none σ_6 r_13 σ_11 hc_12) (cwS 1 ht gi_Bo_169 rfl rfl rfl (by decide +kernel) ⟨Nat.le_of_ble_eq_true rfl, Nat.le_of_ble_eq_true rfl⟩) (gx_pre G hI) rfl rfl hl.1 rfl (lv_room (Nat.le_of_ble_eq_true rfl)) d_Bo_line_27 ⟨Nat.zero_le _, Nat.zero_le _⟩) hI (st1 := [.int r_13]) rfl (fun H locs hI => ?_)
        cases hf
        exact W.iret hx hb hr (gx_F hI) hI.2.2.2 d_Bo_line_30
      · replace hf := gx_mts hf
        obtain ⟨hg_10, hf⟩ := gx_gd hf
        refine gx_go (va_runV (As := [.int p0, .int p1]) (rest := []) G.1 (ct_Ro_inLine l D dA adr A hA N 24 p0 p1 σ_1 (some o_9) σ_6 hc_7) (cwV 2 ht gi_Bo_173 rfl rfl rfl (by decide +kernel) ⟨Nat.le_of_ble_eq_true rfl, Nat.le_of_ble_eq_true rfl⟩) (gx_preV G hI cl_Ro (gx_ci_r (by decide))) rfl rfl hl.1 rfl (lv_room (Nat.le_of_ble_eq_true rfl)) d_Bo_line_24 ⟨Nat.zero_le _, Nat.zero_le _⟩) hI (st1 := [.ref (adr o_9)]) rfl (fun H locs hI => ?_)
        obtain ⟨r_16, σ_14, hc_15, hf⟩ := gx_bde hf
        refine gx_go (va_runS (As := [.ref (adr o_9)]) (rest := []) G.1 (ct_Bo_numberOrNone l D dA adr A hA N (some o_9) σ_6 r_16 σ_14 hc_15) (cwS 1 ht gi_Bo_169 rfl rfl rfl (by decide +kernel) ⟨Nat.le_of_ble_eq_true rfl, Nat.le_of_ble_eq_true rfl⟩) (gx_pre G hI) rfl rfl hl.1 rfl (lv_room (Nat.le_of_ble_eq_true rfl)) d_Bo_line_27 ⟨Nat.zero_le _, Nat.zero_le _⟩) hI (st1 := [.int r_16]) rfl (fun H locs hI => ?_)
        cases hf
        exact W.iret hx hb hr (gx_F hI) hI.2.2.2 d_Bo_line_30
    · replace hf := (if_neg c_5).symm.trans hf
      refine lv_bipush (v := (-4)) hx hb d_Bo_line_13 (by decide) ?_
      refine lv_goto (tgt := 30) hx hb d_Bo_line_15 (by decide) ?_
      cases hf
      exact W.iret hx hb hr (gx_F hI) hI.2.2.2 d_Bo_line_30
  · replace hf := (if_pos c_4).symm.trans hf
    refine lv_iconst (v := (-1)) hx hb d_Bo_line_7 (by decide) ?_
    cases hf
    exact W.iret hx hb hr (gx_F hI) hI.2.2.2 d_Bo_line_8
def fn_Bo_count (N : Nat) (p0 : Int32) (σ : gx_M) : Option (Int32 × gx_M) := gx_bd (fn_Bo_within N p0 ((0 : Int32)) ((7 : Int32)) σ) (fun r_3 σ_1 => if r_3 = 0 then (gx_bd (fn_Bo_within N p0 ((11 : Int32)) ((14 : Int32)) σ_1) (fun r_7 σ_5 => if r_7 = 0 then (if p0 = 8 then (some (σ_5 24 1, σ_5)) else (if p0 = 9 then (some (σ_5 6 1, σ_5)) else (if p0 = 10 then (some (σ_5 0 4, σ_5)) else (some ((-1 : Int32), σ_5))))) else (if 0 ≤ (p0 - ((11 : Int32))) ∧ (p0 - ((11 : Int32))) < 4 then (some (σ_5 (gx_el 1 (p0 - ((11 : Int32))).toNatClampNeg) 3, σ_5)) else none))) else (gx_bd (fn_Ro_countIn N 24 p0 σ_1) (fun r_12 σ_10 => some (r_12, σ_10))))
set_option maxHeartbeats 4000000 in
set_option maxRecDepth 100000 in
theorem ct_Bo_count (l : Launch) (D : va_G) (dA : Nat → ClassId) (adr : Nat → Nat) (A : Nat → Prop) (hA : gx_A A adr) (N : Nat) (p0 : Int32) (σ : gx_M) (r : Int32) (σ' : gx_M) (hf : fn_Bo_count N p0 σ = some (r, σ')) : Met l y_Bo_count w_Bo_count rm_Bo_count (gx_Pc D dA adr σ [.ref (adr 0), .int p0]) (gx_Q D dA adr A (some (.int r)) σ') 0 0 A := by
  refine Met.ofW (cc := b_Bo_count) (maxL := 2) (ret := some .int) (by decide) rfl ?_
  intro p e s m args below meth c s₁ B hml hv
  obtain ⟨rfl, hP, hK⟩ := hv
  have hx := B.exec
  have hb := B.bytes
  have hr := B.returns
  have hlocks := B.notSynchronized
  have ht : ∀ w ∈ gx_tb, w.before _ s = true := fun w h => atoms_spec (ws := w_Bo_count) B.pre w (List.mem_cons_of_mem _ h)
  have hown : s.vm.findClass R_Bo = some m.cls := findClass_of_methodNamed B.named
  have G : gx_G p m c b_Bo_count 2 s _ gx_tb R_Bo D dA := ⟨⟨hx, hb, hml, hown, ht⟩, hK⟩
  have hI : gx_I D dA adr A s.heap σ s.heap [] := ⟨hP, va_S.rf⟩
  have hl := lv_entry ([.ref (adr 0), .int p0]) (n := 2) (Nat.le_of_ble_eq_true rfl)
  rw [lg_entry_eq]
  generalize (lg_sl ([.ref (adr 0), .int p0]) ++ List.replicate (2 - (lg_sl ([.ref (adr 0), .int p0])).length) Slot.unset).toArray = ls at hl ⊢
  have hl : lv_has ls 2 [(0, .ref (adr 0)), (1, .int p0)] := hl
  rw [fn_Bo_count] at hf
  refine lv_iload_n hx hb d_Bo_count_0 rfl (lv_at hl 1 rfl) ?_
  refine lv_iconst (v := 0) hx hb d_Bo_count_1 (by decide) ?_
  refine lv_bipush (v := 7) hx hb d_Bo_count_2 (by decide) ?_
  obtain ⟨r_3, σ_1, hc_2, hf⟩ := gx_bde hf
  refine gx_go (va_runS (As := [.int p0, .int ((0 : Int32)), .int ((7 : Int32))]) (rest := []) G.1 (ct_Bo_within l D dA adr A hA N p0 ((0 : Int32)) ((7 : Int32)) σ r_3 σ_1 hc_2) (cwS 3 ht gi_Bo_45 rfl rfl rfl (by decide +kernel) ⟨Nat.le_of_ble_eq_true rfl, Nat.le_of_ble_eq_true rfl⟩) (gx_pre G hI) rfl rfl hl.1 rfl (lv_room (Nat.le_of_ble_eq_true rfl)) d_Bo_count_4 ⟨Nat.zero_le _, Nat.zero_le _⟩) hI (st1 := [.int r_3]) rfl (fun H locs hI => ?_)
  refine lv_if_eq (tgt := 19) hx hb d_Bo_count_7 (by decide) (fun c_4 => ?_) (fun c_4 => ?_)
  · replace hf := (if_pos c_4).symm.trans hf
    refine lv_iload_n hx hb d_Bo_count_19 rfl (lv_at hl 1 rfl) ?_
    refine lv_bipush (v := 11) hx hb d_Bo_count_20 (by decide) ?_
    refine lv_bipush (v := 14) hx hb d_Bo_count_22 (by decide) ?_
    obtain ⟨r_7, σ_5, hc_6, hf⟩ := gx_bde hf
    refine gx_go (va_runS (As := [.int p0, .int ((11 : Int32)), .int ((14 : Int32))]) (rest := []) G.1 (ct_Bo_within l D dA adr A hA N p0 ((11 : Int32)) ((14 : Int32)) σ_1 r_7 σ_5 hc_6) (cwS 3 ht gi_Bo_45 rfl rfl rfl (by decide +kernel) ⟨Nat.le_of_ble_eq_true rfl, Nat.le_of_ble_eq_true rfl⟩) (gx_pre G hI) rfl rfl hl.1 rfl (lv_room (Nat.le_of_ble_eq_true rfl)) d_Bo_count_24 ⟨Nat.zero_le _, Nat.zero_le _⟩) hI (st1 := [.int r_7]) rfl (fun H locs hI => ?_)
    refine lv_if_eq (tgt := 43) hx hb d_Bo_count_27 (by decide) (fun c_8 => ?_) (fun c_8 => ?_)
    · replace hf := (if_pos c_8).symm.trans hf
      refine lv_iload_n hx hb d_Bo_count_43 rfl (lv_at hl 1 rfl) ?_
      by_cases n8 : p0 = 8
      · replace hf := (if_pos n8).symm.trans hf
        refine lv_tableIn (tgt := 72) hx hb d_Bo_count_44 (by rw [n8]; decide) (by rw [n8]; decide) (by rw [n8]; rfl) (by decide) ?_
        refine lv_aload_n hx hb d_Bo_count_72 rfl (lv_at hl 0 rfl) ?_
        refine gx_getR (o' := 24) G hI cl_Bo (by decide) 2 (by decide) (by decide) fl_Bo_23 d_Bo_count_73 ?_
        refine gx_getI G hI cl_Ro (gx_ci_r (by decide)) 1 (by decide) (gx_rf_r (by decide) (by decide)) fl_Bo_182 d_Bo_count_76 ?_
        cases hf
        exact W.iret hx hb hr (gx_F hI) hI.2.2.2 d_Bo_count_79
      · replace hf := (if_neg n8).symm.trans hf
        by_cases n9 : p0 = 9
        · replace hf := (if_pos n9).symm.trans hf
          refine lv_tableIn (tgt := 80) hx hb d_Bo_count_44 (by rw [n9]; decide) (by rw [n9]; decide) (by rw [n9]; rfl) (by decide) ?_
          refine lv_aload_n hx hb d_Bo_count_80 rfl (lv_at hl 0 rfl) ?_
          refine gx_getR (o' := 6) G hI cl_Bo (by decide) 3 (by decide) (by decide) fl_Bo_30 d_Bo_count_81 ?_
          refine gx_getI G hI cl_Jn (by decide) 1 (by decide) (by decide) fl_Bo_185 d_Bo_count_84 ?_
          cases hf
          exact W.iret hx hb hr (gx_F hI) hI.2.2.2 d_Bo_count_87
        · replace hf := (if_neg n9).symm.trans hf
          by_cases n10 : p0 = 10
          · replace hf := (if_pos n10).symm.trans hf
            refine lv_tableIn (tgt := 88) hx hb d_Bo_count_44 (by rw [n10]; decide) (by rw [n10]; decide) (by rw [n10]; rfl) (by decide) ?_
            refine lv_aload_n hx hb d_Bo_count_88 rfl (lv_at hl 0 rfl) ?_
            refine gx_getI G hI cl_Bo (by decide) 4 (by decide) (by decide) fl_Bo_34 d_Bo_count_89 ?_
            cases hf
            exact W.iret hx hb hr (gx_F hI) hI.2.2.2 d_Bo_count_92
          · replace hf := (if_neg n10).symm.trans hf
            refine lv_tableOut (tgt := 93) hx hb d_Bo_count_44 (gx_sw8 n8 n9 n10) (by decide) ?_
            refine lv_iconst (v := (-1)) hx hb d_Bo_count_93 (by decide) ?_
            cases hf
            exact W.iret hx hb hr (gx_F hI) hI.2.2.2 d_Bo_count_94
    · replace hf := (if_neg c_8).symm.trans hf
      refine lv_aload_n hx hb d_Bo_count_30 rfl (lv_at hl 0 rfl) ?_
      refine gx_getR (o' := 1) G hI cl_Bo (by decide) 1 (by decide) (by decide) fl_Bo_15 d_Bo_count_31 ?_
      refine lv_iload_n hx hb d_Bo_count_34 rfl (lv_at hl 1 rfl) ?_
      refine lv_bipush (v := 11) hx hb d_Bo_count_35 (by decide) ?_
      refine lv_isub hx hb d_Bo_count_37 ?_
      obtain ⟨hi_9, hf⟩ := gx_gd hf
      refine gx_aldQ G hI hi_9 d_Bo_count_38 ?_
      refine gx_getI G hI cl_Qu (gx_ci_q (gx_el_q hi_9)) 3 (by decide) (gx_rf_q (gx_el_q hi_9) 3) fl_Bo_179 d_Bo_count_39 ?_
      cases hf
      exact W.iret hx hb hr (gx_F hI) hI.2.2.2 d_Bo_count_42
  · replace hf := (if_neg c_4).symm.trans hf
    refine lv_aload_n hx hb d_Bo_count_10 rfl (lv_at hl 0 rfl) ?_
    refine gx_getR (o' := 24) G hI cl_Bo (by decide) 2 (by decide) (by decide) fl_Bo_23 d_Bo_count_11 ?_
    refine lv_iload_n hx hb d_Bo_count_14 rfl (lv_at hl 1 rfl) ?_
    obtain ⟨r_12, σ_10, hc_11, hf⟩ := gx_bde hf
    refine gx_go (va_runV (As := [.int p0]) (rest := []) G.1 (ct_Ro_countIn l D dA adr A hA N 24 p0 σ_1 r_12 σ_10 hc_11) (cwV 1 ht gi_Bo_176 rfl rfl rfl (by decide +kernel) ⟨Nat.le_of_ble_eq_true rfl, Nat.le_of_ble_eq_true rfl⟩) (gx_preV G hI cl_Ro (gx_ci_r (by decide))) rfl rfl hl.1 rfl (lv_room (Nat.le_of_ble_eq_true rfl)) d_Bo_count_15 ⟨Nat.zero_le _, Nat.zero_le _⟩) hI (st1 := [.int r_12]) rfl (fun H locs hI => ?_)
    cases hf
    exact W.iret hx hb hr (gx_F hI) hI.2.2.2 d_Bo_count_18
end

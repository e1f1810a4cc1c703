def R_law : String := "JobBoardLaw"
theorem gx_gi {cd : Cond} (h : cd ∈ gx_tb) : GoodIn gx_tb (cd :: gx_tb) := by
  intro w hw
  have hm : w ∈ gx_tb := by
    rcases List.mem_cons.mp hw with rfl | hw
    · exact h
    · exact hw
  exact ⟨hm, good_of_word (gx_tbg hm)⟩
theorem is_Bo : Cond.instantiable R_Bo 6 ∈ gx_tb := gx_m 9 (by decide +kernel) (by decide +kernel)
def w_Bo_init : List Cond := .code y_Bo_init b_Bo_init 3 none :: gx_tb
theorem co_Bo_init : Cond.code y_Bo_init b_Bo_init 3 none ∈ gx_tb := gx_m 12 (by decide +kernel) (by decide +kernel)
theorem im_Bo_init : Cond.instanceMethod y_Bo_init ∈ gx_tb := gx_m 11 (by decide +kernel) (by decide +kernel)
theorem gi_Bo_init : GoodIn gx_tb w_Bo_init := gx_gi co_Bo_init
theorem is_Qu : Cond.instantiable R_Qu 6 ∈ gx_tb := gx_m 18 (by decide +kernel) (by decide +kernel)
def w_Qu_init : List Cond := .code y_Qu_init b_Qu_init 1 none :: gx_tb
theorem co_Qu_init : Cond.code y_Qu_init b_Qu_init 1 none ∈ gx_tb := gx_m 21 (by decide +kernel) (by decide +kernel)
theorem im_Qu_init : Cond.instanceMethod y_Qu_init ∈ gx_tb := gx_m 20 (by decide +kernel) (by decide +kernel)
theorem gi_Qu_init : GoodIn gx_tb w_Qu_init := gx_gi co_Qu_init
theorem is_Jn : Cond.instantiable R_Jn 2 ∈ gx_tb := gx_m 134 (by decide +kernel) (by decide +kernel)
def w_Jn_init : List Cond := .code y_Jn_init b_Jn_init 2 none :: gx_tb
theorem co_Jn_init : Cond.code y_Jn_init b_Jn_init 2 none ∈ gx_tb := gx_m 137 (by decide +kernel) (by decide +kernel)
theorem im_Jn_init : Cond.instanceMethod y_Jn_init ∈ gx_tb := gx_m 136 (by decide +kernel) (by decide +kernel)
theorem gi_Jn_init : GoodIn gx_tb w_Jn_init := gx_gi co_Jn_init
theorem is_Ro : Cond.instantiable R_Ro 3 ∈ gx_tb := gx_m 46 (by decide +kernel) (by decide +kernel)
def w_Ro_init : List Cond := .code y_Ro_init b_Ro_init 2 none :: gx_tb
theorem co_Ro_init : Cond.code y_Ro_init b_Ro_init 2 none ∈ gx_tb := gx_m 49 (by decide +kernel) (by decide +kernel)
theorem im_Ro_init : Cond.instanceMethod y_Ro_init ∈ gx_tb := gx_m 48 (by decide +kernel) (by decide +kernel)
theorem gi_Ro_init : GoodIn gx_tb w_Ro_init := gx_gi co_Ro_init
theorem is_Jb : Cond.instantiable R_Jb 14 ∈ gx_tb := gx_m 53 (by decide +kernel) (by decide +kernel)
def w_Jb_init : List Cond := .code y_Jb_init b_Jb_init 2 none :: gx_tb
theorem co_Jb_init : Cond.code y_Jb_init b_Jb_init 2 none ∈ gx_tb := gx_m 56 (by decide +kernel) (by decide +kernel)
theorem im_Jb_init : Cond.instanceMethod y_Jb_init ∈ gx_tb := gx_m 55 (by decide +kernel) (by decide +kernel)
theorem gi_Jb_init : GoodIn gx_tb w_Jb_init := gx_gi co_Jb_init
theorem is_Mo : Cond.instantiable R_Mo 16 ∈ gx_tb := gx_m 419 (by decide +kernel) (by decide +kernel)
def w_Mo_init : List Cond := .code y_Mo_init b_Mo_init 3 none :: gx_tb
theorem co_Mo_init : Cond.code y_Mo_init b_Mo_init 3 none ∈ gx_tb := gx_m 422 (by decide +kernel) (by decide +kernel)
theorem im_Mo_init : Cond.instanceMethod y_Mo_init ∈ gx_tb := gx_m 421 (by decide +kernel) (by decide +kernel)
theorem gi_Mo_init : GoodIn gx_tb w_Mo_init := gx_gi co_Mo_init
theorem im_oi : Cond.instanceMethod Lib.objectInit ∈ gx_tb := gx_m 14 (by decide +kernel) (by decide +kernel)
theorem co_oi : Cond.code Lib.objectInit ⟨#[0xb1]⟩ 1 none ∈ gx_tb := gx_m 15 (by decide +kernel) (by decide +kernel)
theorem ac_int : Cond.arrayClass (newarray.typeOf .int) ∈ gx_tb := gx_m 473 (by decide +kernel) (by decide +kernel)
theorem ac_boolean : Cond.arrayClass (newarray.typeOf .boolean) ∈ gx_tb := gx_m 474 (by decide +kernel) (by decide +kernel)
theorem ao_Qu : Cond.arrayOver (.object R_Qu) ∈ lw_tbl := List.mem_append_right _ (List.mem_of_getElem? (i := 17) (by decide +kernel))
theorem ao_Ro : Cond.arrayOver (.object R_Ro) ∈ lw_tbl := List.mem_append_right _ (List.mem_of_getElem? (i := 140) (by decide +kernel))
theorem ao_Jb : Cond.arrayOver (.object R_Jb) ∈ lw_tbl := List.mem_append_right _ (List.mem_of_getElem? (i := 52) (by decide +kernel))
theorem mo_Bo_1 : Cond.methodLink R_Bo 1 Lib.objectInit ∈ gx_tb := gx_m 13 (by decide +kernel) (by decide +kernel)
theorem ck_Bo_13 : Cond.classLink R_Bo 13 R_Qu ∈ gx_tb := gx_m 16 (by decide +kernel) (by decide +kernel)
theorem mi_Bo_19 : Cond.methodLink R_Bo 19 y_Qu_init ∈ gx_tb := gx_m 19 (by decide +kernel) (by decide +kernel)
theorem ck_Bo_20 : Cond.classLink R_Bo 20 R_Ro ∈ gx_tb := gx_m 45 (by decide +kernel) (by decide +kernel)
theorem mi_Bo_22 : Cond.methodLink R_Bo 22 y_Ro_init ∈ gx_tb := gx_m 47 (by decide +kernel) (by decide +kernel)
theorem ck_Bo_27 : Cond.classLink R_Bo 27 R_Jn ∈ gx_tb := gx_m 133 (by decide +kernel) (by decide +kernel)
theorem mi_Bo_29 : Cond.methodLink R_Bo 29 y_Jn_init ∈ gx_tb := gx_m 135 (by decide +kernel) (by decide +kernel)
theorem mo_Qu_1 : Cond.methodLink R_Qu 1 Lib.objectInit ∈ gx_tb := gx_m 22 (by decide +kernel) (by decide +kernel)
theorem mo_Jn_3 : Cond.methodLink R_Jn 3 Lib.objectInit ∈ gx_tb := gx_m 138 (by decide +kernel) (by decide +kernel)
theorem ck_Jn_9 : Cond.classLink R_Jn 9 R_Ro ∈ gx_tb := gx_m 139 (by decide +kernel) (by decide +kernel)
theorem mi_Jn_17 : Cond.methodLink R_Jn 17 y_Ro_init ∈ gx_tb := gx_m 141 (by decide +kernel) (by decide +kernel)
theorem mo_Ro_3 : Cond.methodLink R_Ro 3 Lib.objectInit ∈ gx_tb := gx_m 50 (by decide +kernel) (by decide +kernel)
theorem ck_Ro_9 : Cond.classLink R_Ro 9 R_Jb ∈ gx_tb := gx_m 51 (by decide +kernel) (by decide +kernel)
theorem mi_Ro_17 : Cond.methodLink R_Ro 17 y_Jb_init ∈ gx_tb := gx_m 54 (by decide +kernel) (by decide +kernel)
theorem mo_Jb_3 : Cond.methodLink R_Jb 3 Lib.objectInit ∈ gx_tb := gx_m 57 (by decide +kernel) (by decide +kernel)
theorem fl_Jb_9 : Cond.fieldLink R_Jb 9 R_Jb (F_Jb 0).2.1 (F_Jb 0).2.2.1 ∈ gx_tb := gx_m 58 (by decide +kernel) (by decide +kernel)
theorem mo_Mo_1 : Cond.methodLink R_Mo 1 Lib.objectInit ∈ gx_tb := gx_m 423 (by decide +kernel) (by decide +kernel)
theorem ck_La_7 : Cond.classLink R_law 7 R_Bo ∈ gx_tb := gx_m 8 (by decide +kernel) (by decide +kernel)
theorem mi_La_15 : Cond.methodLink R_law 15 y_Bo_init ∈ gx_tb := gx_m 10 (by decide +kernel) (by decide +kernel)
theorem ck_La_18 : Cond.classLink R_law 18 R_Mo ∈ gx_tb := gx_m 418 (by decide +kernel) (by decide +kernel)
theorem mi_La_20 : Cond.methodLink R_law 20 y_Mo_init ∈ gx_tb := gx_m 420 (by decide +kernel) (by decide +kernel)
theorem im_Bo_queue : Cond.instanceMethod y_Bo_queue ∈ gx_tb := gx_m 170 (by decide +kernel) (by decide +kernel)
theorem se_Bo_queue : Cond.selects R_Bo y_Bo_queue y_Bo_queue ∈ gx_tb := gx_m 171 (by decide +kernel) (by decide +kernel)
theorem gi_La_21 : GoodIn gx_tb (wsV R_law 21 R_Bo y_Bo_queue w_Bo_queue) := gx_gv (gx_m 169 (by decide +kernel) (by decide +kernel)) im_Bo_queue se_Bo_queue in_Bo co_Bo_queue
theorem im_Mo_queue : Cond.instanceMethod y_Mo_queue ∈ gx_tb := gx_m 484 (by decide +kernel) (by decide +kernel)
theorem se_Mo_queue : Cond.selects R_Mo y_Mo_queue y_Mo_queue ∈ gx_tb := gx_m 485 (by decide +kernel) (by decide +kernel)
theorem gi_La_25 : GoodIn gx_tb (wsV R_law 25 R_Mo y_Mo_queue w_Mo_queue) := gx_gv (gx_m 483 (by decide +kernel) (by decide +kernel)) im_Mo_queue se_Mo_queue in_Mo co_Mo_queue
theorem im_Bo_key : Cond.instanceMethod y_Bo_key ∈ gx_tb := gx_m 188 (by decide +kernel) (by decide +kernel)
theorem se_Bo_key : Cond.selects R_Bo y_Bo_key y_Bo_key ∈ gx_tb := gx_m 189 (by decide +kernel) (by decide +kernel)
theorem gi_La_26 : GoodIn gx_tb (wsV R_law 26 R_Bo y_Bo_key w_Bo_key) := gx_gv (gx_m 187 (by decide +kernel) (by decide +kernel)) im_Bo_key se_Bo_key in_Bo co_Bo_key
theorem im_Mo_key : Cond.instanceMethod y_Mo_key ∈ gx_tb := gx_m 492 (by decide +kernel) (by decide +kernel)
theorem se_Mo_key : Cond.selects R_Mo y_Mo_key y_Mo_key ∈ gx_tb := gx_m 493 (by decide +kernel) (by decide +kernel)
theorem gi_La_30 : GoodIn gx_tb (wsV R_law 30 R_Mo y_Mo_key w_Mo_key) := gx_gv (gx_m 491 (by decide +kernel) (by decide +kernel)) im_Mo_key se_Mo_key in_Mo co_Mo_key
theorem im_Bo_submit : Cond.instanceMethod y_Bo_submit ∈ gx_tb := gx_m 192 (by decide +kernel) (by decide +kernel)
theorem se_Bo_submit : Cond.selects R_Bo y_Bo_submit y_Bo_submit ∈ gx_tb := gx_m 193 (by decide +kernel) (by decide +kernel)
theorem gi_La_31 : GoodIn gx_tb (wsV R_law 31 R_Bo y_Bo_submit w_Bo_submit) := gx_gv (gx_m 191 (by decide +kernel) (by decide +kernel)) im_Bo_submit se_Bo_submit in_Bo co_Bo_submit
theorem im_Mo_submit : Cond.instanceMethod y_Mo_submit ∈ gx_tb := gx_m 496 (by decide +kernel) (by decide +kernel)
theorem se_Mo_submit : Cond.selects R_Mo y_Mo_submit y_Mo_submit ∈ gx_tb := gx_m 497 (by decide +kernel) (by decide +kernel)
theorem gi_La_35 : GoodIn gx_tb (wsV R_law 35 R_Mo y_Mo_submit w_Mo_submit) := gx_gv (gx_m 495 (by decide +kernel) (by decide +kernel)) im_Mo_submit se_Mo_submit in_Mo co_Mo_submit
theorem im_Bo_hold : Cond.instanceMethod y_Bo_hold ∈ gx_tb := gx_m 236 (by decide +kernel) (by decide +kernel)
theorem se_Bo_hold : Cond.selects R_Bo y_Bo_hold y_Bo_hold ∈ gx_tb := gx_m 237 (by decide +kernel) (by decide +kernel)
theorem gi_La_36 : GoodIn gx_tb (wsV R_law 36 R_Bo y_Bo_hold w_Bo_hold) := gx_gv (gx_m 235 (by decide +kernel) (by decide +kernel)) im_Bo_hold se_Bo_hold in_Bo co_Bo_hold
theorem im_Mo_hold : Cond.instanceMethod y_Mo_hold ∈ gx_tb := gx_m 528 (by decide +kernel) (by decide +kernel)
theorem se_Mo_hold : Cond.selects R_Mo y_Mo_hold y_Mo_hold ∈ gx_tb := gx_m 529 (by decide +kernel) (by decide +kernel)
theorem gi_La_40 : GoodIn gx_tb (wsV R_law 40 R_Mo y_Mo_hold w_Mo_hold) := gx_gv (gx_m 527 (by decide +kernel) (by decide +kernel)) im_Mo_hold se_Mo_hold in_Mo co_Mo_hold
theorem im_Bo_join : Cond.instanceMethod y_Bo_join ∈ gx_tb := gx_m 240 (by decide +kernel) (by decide +kernel)
theorem se_Bo_join : Cond.selects R_Bo y_Bo_join y_Bo_join ∈ gx_tb := gx_m 241 (by decide +kernel) (by decide +kernel)
theorem gi_La_41 : GoodIn gx_tb (wsV R_law 41 R_Bo y_Bo_join w_Bo_join) := gx_gv (gx_m 239 (by decide +kernel) (by decide +kernel)) im_Bo_join se_Bo_join in_Bo co_Bo_join
theorem im_Mo_join : Cond.instanceMethod y_Mo_join ∈ gx_tb := gx_m 532 (by decide +kernel) (by decide +kernel)
theorem se_Mo_join : Cond.selects R_Mo y_Mo_join y_Mo_join ∈ gx_tb := gx_m 533 (by decide +kernel) (by decide +kernel)
theorem gi_La_44 : GoodIn gx_tb (wsV R_law 44 R_Mo y_Mo_join w_Mo_join) := gx_gv (gx_m 531 (by decide +kernel) (by decide +kernel)) im_Mo_join se_Mo_join in_Mo co_Mo_join
theorem im_Bo_seal : Cond.instanceMethod y_Bo_seal ∈ gx_tb := gx_m 249 (by decide +kernel) (by decide +kernel)
theorem se_Bo_seal : Cond.selects R_Bo y_Bo_seal y_Bo_seal ∈ gx_tb := gx_m 250 (by decide +kernel) (by decide +kernel)
theorem gi_La_45 : GoodIn gx_tb (wsV R_law 45 R_Bo y_Bo_seal w_Bo_seal) := gx_gv (gx_m 248 (by decide +kernel) (by decide +kernel)) im_Bo_seal se_Bo_seal in_Bo co_Bo_seal
theorem im_Mo_seal : Cond.instanceMethod y_Mo_seal ∈ gx_tb := gx_m 540 (by decide +kernel) (by decide +kernel)
theorem se_Mo_seal : Cond.selects R_Mo y_Mo_seal y_Mo_seal ∈ gx_tb := gx_m 541 (by decide +kernel) (by decide +kernel)
theorem gi_La_48 : GoodIn gx_tb (wsV R_law 48 R_Mo y_Mo_seal w_Mo_seal) := gx_gv (gx_m 539 (by decide +kernel) (by decide +kernel)) im_Mo_seal se_Mo_seal in_Mo co_Mo_seal
theorem im_Bo_take : Cond.instanceMethod y_Bo_take ∈ gx_tb := gx_m 258 (by decide +kernel) (by decide +kernel)
theorem se_Bo_take : Cond.selects R_Bo y_Bo_take y_Bo_take ∈ gx_tb := gx_m 259 (by decide +kernel) (by decide +kernel)
theorem gi_La_49 : GoodIn gx_tb (wsV R_law 49 R_Bo y_Bo_take w_Bo_take) := gx_gv (gx_m 257 (by decide +kernel) (by decide +kernel)) im_Bo_take se_Bo_take in_Bo co_Bo_take
theorem im_Mo_take : Cond.instanceMethod y_Mo_take ∈ gx_tb := gx_m 544 (by decide +kernel) (by decide +kernel)
theorem se_Mo_take : Cond.selects R_Mo y_Mo_take y_Mo_take ∈ gx_tb := gx_m 545 (by decide +kernel) (by decide +kernel)
theorem gi_La_52 : GoodIn gx_tb (wsV R_law 52 R_Mo y_Mo_take w_Mo_take) := gx_gv (gx_m 543 (by decide +kernel) (by decide +kernel)) im_Mo_take se_Mo_take in_Mo co_Mo_take
theorem im_Bo_ack : Cond.instanceMethod y_Bo_ack ∈ gx_tb := gx_m 297 (by decide +kernel) (by decide +kernel)
theorem se_Bo_ack : Cond.selects R_Bo y_Bo_ack y_Bo_ack ∈ gx_tb := gx_m 298 (by decide +kernel) (by decide +kernel)
theorem gi_La_53 : GoodIn gx_tb (wsV R_law 53 R_Bo y_Bo_ack w_Bo_ack) := gx_gv (gx_m 296 (by decide +kernel) (by decide +kernel)) im_Bo_ack se_Bo_ack in_Bo co_Bo_ack
theorem im_Mo_ack : Cond.instanceMethod y_Mo_ack ∈ gx_tb := gx_m 568 (by decide +kernel) (by decide +kernel)
theorem se_Mo_ack : Cond.selects R_Mo y_Mo_ack y_Mo_ack ∈ gx_tb := gx_m 569 (by decide +kernel) (by decide +kernel)
theorem gi_La_56 : GoodIn gx_tb (wsV R_law 56 R_Mo y_Mo_ack w_Mo_ack) := gx_gv (gx_m 567 (by decide +kernel) (by decide +kernel)) im_Mo_ack se_Mo_ack in_Mo co_Mo_ack
theorem im_Bo_fail : Cond.instanceMethod y_Bo_fail ∈ gx_tb := gx_m 301 (by decide +kernel) (by decide +kernel)
theorem se_Bo_fail : Cond.selects R_Bo y_Bo_fail y_Bo_fail ∈ gx_tb := gx_m 302 (by decide +kernel) (by decide +kernel)
theorem gi_La_57 : GoodIn gx_tb (wsV R_law 57 R_Bo y_Bo_fail w_Bo_fail) := gx_gv (gx_m 300 (by decide +kernel) (by decide +kernel)) im_Bo_fail se_Bo_fail in_Bo co_Bo_fail
theorem im_Mo_fail : Cond.instanceMethod y_Mo_fail ∈ gx_tb := gx_m 572 (by decide +kernel) (by decide +kernel)
theorem se_Mo_fail : Cond.selects R_Mo y_Mo_fail y_Mo_fail ∈ gx_tb := gx_m 573 (by decide +kernel) (by decide +kernel)
theorem gi_La_60 : GoodIn gx_tb (wsV R_law 60 R_Mo y_Mo_fail w_Mo_fail) := gx_gv (gx_m 571 (by decide +kernel) (by decide +kernel)) im_Mo_fail se_Mo_fail in_Mo co_Mo_fail
theorem im_Bo_tick : Cond.instanceMethod y_Bo_tick ∈ gx_tb := gx_m 329 (by decide +kernel) (by decide +kernel)
theorem se_Bo_tick : Cond.selects R_Bo y_Bo_tick y_Bo_tick ∈ gx_tb := gx_m 330 (by decide +kernel) (by decide +kernel)
theorem gi_La_61 : GoodIn gx_tb (wsV R_law 61 R_Bo y_Bo_tick w_Bo_tick) := gx_gv (gx_m 328 (by decide +kernel) (by decide +kernel)) im_Bo_tick se_Bo_tick in_Bo co_Bo_tick
theorem im_Mo_tick : Cond.instanceMethod y_Mo_tick ∈ gx_tb := gx_m 584 (by decide +kernel) (by decide +kernel)
theorem se_Mo_tick : Cond.selects R_Mo y_Mo_tick y_Mo_tick ∈ gx_tb := gx_m 585 (by decide +kernel) (by decide +kernel)
theorem gi_La_64 : GoodIn gx_tb (wsV R_law 64 R_Mo y_Mo_tick w_Mo_tick) := gx_gv (gx_m 583 (by decide +kernel) (by decide +kernel)) im_Mo_tick se_Mo_tick in_Mo co_Mo_tick
theorem im_Bo_revive : Cond.instanceMethod y_Bo_revive ∈ gx_tb := gx_m 351 (by decide +kernel) (by decide +kernel)
theorem se_Bo_revive : Cond.selects R_Bo y_Bo_revive y_Bo_revive ∈ gx_tb := gx_m 352 (by decide +kernel) (by decide +kernel)
theorem gi_La_65 : GoodIn gx_tb (wsV R_law 65 R_Bo y_Bo_revive w_Bo_revive) := gx_gv (gx_m 350 (by decide +kernel) (by decide +kernel)) im_Bo_revive se_Bo_revive in_Bo co_Bo_revive
theorem im_Mo_revive : Cond.instanceMethod y_Mo_revive ∈ gx_tb := gx_m 592 (by decide +kernel) (by decide +kernel)
theorem se_Mo_revive : Cond.selects R_Mo y_Mo_revive y_Mo_revive ∈ gx_tb := gx_m 593 (by decide +kernel) (by decide +kernel)
theorem gi_La_68 : GoodIn gx_tb (wsV R_law 68 R_Mo y_Mo_revive w_Mo_revive) := gx_gv (gx_m 591 (by decide +kernel) (by decide +kernel)) im_Mo_revive se_Mo_revive in_Mo co_Mo_revive
theorem im_Bo_kill : Cond.instanceMethod y_Bo_kill ∈ gx_tb := gx_m 355 (by decide +kernel) (by decide +kernel)
theorem se_Bo_kill : Cond.selects R_Bo y_Bo_kill y_Bo_kill ∈ gx_tb := gx_m 356 (by decide +kernel) (by decide +kernel)
theorem gi_La_69 : GoodIn gx_tb (wsV R_law 69 R_Bo y_Bo_kill w_Bo_kill) := gx_gv (gx_m 354 (by decide +kernel) (by decide +kernel)) im_Bo_kill se_Bo_kill in_Bo co_Bo_kill
theorem im_Mo_kill : Cond.instanceMethod y_Mo_kill ∈ gx_tb := gx_m 596 (by decide +kernel) (by decide +kernel)
theorem se_Mo_kill : Cond.selects R_Mo y_Mo_kill y_Mo_kill ∈ gx_tb := gx_m 597 (by decide +kernel) (by decide +kernel)
theorem gi_La_72 : GoodIn gx_tb (wsV R_law 72 R_Mo y_Mo_kill w_Mo_kill) := gx_gv (gx_m 595 (by decide +kernel) (by decide +kernel)) im_Mo_kill se_Mo_kill in_Mo co_Mo_kill
theorem im_Bo_flush : Cond.instanceMethod y_Bo_flush ∈ gx_tb := gx_m 360 (by decide +kernel) (by decide +kernel)
theorem se_Bo_flush : Cond.selects R_Bo y_Bo_flush y_Bo_flush ∈ gx_tb := gx_m 361 (by decide +kernel) (by decide +kernel)
theorem gi_La_73 : GoodIn gx_tb (wsV R_law 73 R_Bo y_Bo_flush w_Bo_flush) := gx_gv (gx_m 359 (by decide +kernel) (by decide +kernel)) im_Bo_flush se_Bo_flush in_Bo co_Bo_flush
theorem im_Mo_flush : Cond.instanceMethod y_Mo_flush ∈ gx_tb := gx_m 476 (by decide +kernel) (by decide +kernel)
theorem se_Mo_flush : Cond.selects R_Mo y_Mo_flush y_Mo_flush ∈ gx_tb := gx_m 477 (by decide +kernel) (by decide +kernel)
theorem gi_La_77 : GoodIn gx_tb (wsV R_law 77 R_Mo y_Mo_flush w_Mo_flush) := gx_gv (gx_m 475 (by decide +kernel) (by decide +kernel)) im_Mo_flush se_Mo_flush in_Mo co_Mo_flush
theorem im_Bo_crash : Cond.instanceMethod y_Bo_crash ∈ gx_tb := gx_m 365 (by decide +kernel) (by decide +kernel)
theorem se_Bo_crash : Cond.selects R_Bo y_Bo_crash y_Bo_crash ∈ gx_tb := gx_m 366 (by decide +kernel) (by decide +kernel)
theorem gi_La_78 : GoodIn gx_tb (wsV R_law 78 R_Bo y_Bo_crash w_Bo_crash) := gx_gv (gx_m 364 (by decide +kernel) (by decide +kernel)) im_Bo_crash se_Bo_crash in_Bo co_Bo_crash
theorem im_Mo_crash : Cond.instanceMethod y_Mo_crash ∈ gx_tb := gx_m 600 (by decide +kernel) (by decide +kernel)
theorem se_Mo_crash : Cond.selects R_Mo y_Mo_crash y_Mo_crash ∈ gx_tb := gx_m 601 (by decide +kernel) (by decide +kernel)
theorem gi_La_81 : GoodIn gx_tb (wsV R_law 81 R_Mo y_Mo_crash w_Mo_crash) := gx_gv (gx_m 599 (by decide +kernel) (by decide +kernel)) im_Mo_crash se_Mo_crash in_Mo co_Mo_crash
theorem im_Bo_state : Cond.instanceMethod y_Bo_state ∈ gx_tb := gx_m 382 (by decide +kernel) (by decide +kernel)
theorem se_Bo_state : Cond.selects R_Bo y_Bo_state y_Bo_state ∈ gx_tb := gx_m 383 (by decide +kernel) (by decide +kernel)
theorem gi_La_82 : GoodIn gx_tb (wsV R_law 82 R_Bo y_Bo_state w_Bo_state) := gx_gv (gx_m 381 (by decide +kernel) (by decide +kernel)) im_Bo_state se_Bo_state in_Bo co_Bo_state
theorem im_Mo_state : Cond.instanceMethod y_Mo_state ∈ gx_tb := gx_m 604 (by decide +kernel) (by decide +kernel)
theorem se_Mo_state : Cond.selects R_Mo y_Mo_state y_Mo_state ∈ gx_tb := gx_m 605 (by decide +kernel) (by decide +kernel)
theorem gi_La_85 : GoodIn gx_tb (wsV R_law 85 R_Mo y_Mo_state w_Mo_state) := gx_gv (gx_m 603 (by decide +kernel) (by decide +kernel)) im_Mo_state se_Mo_state in_Mo co_Mo_state
theorem im_Bo_failures : Cond.instanceMethod y_Bo_failures ∈ gx_tb := gx_m 386 (by decide +kernel) (by decide +kernel)
theorem se_Bo_failures : Cond.selects R_Bo y_Bo_failures y_Bo_failures ∈ gx_tb := gx_m 387 (by decide +kernel) (by decide +kernel)
theorem gi_La_86 : GoodIn gx_tb (wsV R_law 86 R_Bo y_Bo_failures w_Bo_failures) := gx_gv (gx_m 385 (by decide +kernel) (by decide +kernel)) im_Bo_failures se_Bo_failures in_Bo co_Bo_failures
theorem im_Mo_failures : Cond.instanceMethod y_Mo_failures ∈ gx_tb := gx_m 608 (by decide +kernel) (by decide +kernel)
theorem se_Mo_failures : Cond.selects R_Mo y_Mo_failures y_Mo_failures ∈ gx_tb := gx_m 609 (by decide +kernel) (by decide +kernel)
theorem gi_La_89 : GoodIn gx_tb (wsV R_law 89 R_Mo y_Mo_failures w_Mo_failures) := gx_gv (gx_m 607 (by decide +kernel) (by decide +kernel)) im_Mo_failures se_Mo_failures in_Mo co_Mo_failures
theorem im_Bo_due : Cond.instanceMethod y_Bo_due ∈ gx_tb := gx_m 390 (by decide +kernel) (by decide +kernel)
theorem se_Bo_due : Cond.selects R_Bo y_Bo_due y_Bo_due ∈ gx_tb := gx_m 391 (by decide +kernel) (by decide +kernel)
theorem gi_La_90 : GoodIn gx_tb (wsV R_law 90 R_Bo y_Bo_due w_Bo_due) := gx_gv (gx_m 389 (by decide +kernel) (by decide +kernel)) im_Bo_due se_Bo_due in_Bo co_Bo_due
theorem im_Mo_due : Cond.instanceMethod y_Mo_due ∈ gx_tb := gx_m 612 (by decide +kernel) (by decide +kernel)
theorem se_Mo_due : Cond.selects R_Mo y_Mo_due y_Mo_due ∈ gx_tb := gx_m 613 (by decide +kernel) (by decide +kernel)
theorem gi_La_93 : GoodIn gx_tb (wsV R_law 93 R_Mo y_Mo_due w_Mo_due) := gx_gv (gx_m 611 (by decide +kernel) (by decide +kernel)) im_Mo_due se_Mo_due in_Mo co_Mo_due
theorem im_Bo_holding : Cond.instanceMethod y_Bo_holding ∈ gx_tb := gx_m 395 (by decide +kernel) (by decide +kernel)
theorem se_Bo_holding : Cond.selects R_Bo y_Bo_holding y_Bo_holding ∈ gx_tb := gx_m 396 (by decide +kernel) (by decide +kernel)
theorem gi_La_94 : GoodIn gx_tb (wsV R_law 94 R_Bo y_Bo_holding w_Bo_holding) := gx_gv (gx_m 394 (by decide +kernel) (by decide +kernel)) im_Bo_holding se_Bo_holding in_Bo co_Bo_holding
theorem gi_La_97 : GoodIn gx_tb (wsV R_law 97 R_Mo y_Mo_holding w_Mo_holding) := gx_gv (gx_m 615 (by decide +kernel) (by decide +kernel)) im_Mo_holding se_Mo_holding in_Mo co_Mo_holding
theorem im_Bo_line : Cond.instanceMethod y_Bo_line ∈ gx_tb := gx_m 402 (by decide +kernel) (by decide +kernel)
theorem se_Bo_line : Cond.selects R_Bo y_Bo_line y_Bo_line ∈ gx_tb := gx_m 403 (by decide +kernel) (by decide +kernel)
theorem gi_La_98 : GoodIn gx_tb (wsV R_law 98 R_Bo y_Bo_line w_Bo_line) := gx_gv (gx_m 401 (by decide +kernel) (by decide +kernel)) im_Bo_line se_Bo_line in_Bo co_Bo_line
theorem im_Mo_line : Cond.instanceMethod y_Mo_line ∈ gx_tb := gx_m 617 (by decide +kernel) (by decide +kernel)
theorem se_Mo_line : Cond.selects R_Mo y_Mo_line y_Mo_line ∈ gx_tb := gx_m 618 (by decide +kernel) (by decide +kernel)
theorem gi_La_101 : GoodIn gx_tb (wsV R_law 101 R_Mo y_Mo_line w_Mo_line) := gx_gv (gx_m 616 (by decide +kernel) (by decide +kernel)) im_Mo_line se_Mo_line in_Mo co_Mo_line
theorem im_Bo_count : Cond.instanceMethod y_Bo_count ∈ gx_tb := gx_m 411 (by decide +kernel) (by decide +kernel)
theorem se_Bo_count : Cond.selects R_Bo y_Bo_count y_Bo_count ∈ gx_tb := gx_m 412 (by decide +kernel) (by decide +kernel)
theorem gi_La_102 : GoodIn gx_tb (wsV R_law 102 R_Bo y_Bo_count w_Bo_count) := gx_gv (gx_m 410 (by decide +kernel) (by decide +kernel)) im_Bo_count se_Bo_count in_Bo co_Bo_count
theorem im_Mo_count : Cond.instanceMethod y_Mo_count ∈ gx_tb := gx_m 621 (by decide +kernel) (by decide +kernel)
theorem se_Mo_count : Cond.selects R_Mo y_Mo_count y_Mo_count ∈ gx_tb := gx_m 622 (by decide +kernel) (by decide +kernel)
theorem gi_La_105 : GoodIn gx_tb (wsV R_law 105 R_Mo y_Mo_count w_Mo_count) := gx_gv (gx_m 620 (by decide +kernel) (by decide +kernel)) im_Mo_count se_Mo_count in_Mo co_Mo_count
theorem d_Bo_init_0 : decode b_Bo_init 0 = .ok (.aload_n 0, 1) := by decide +kernel
theorem d_Bo_init_1 : decode b_Bo_init 1 = .ok (.invokespecial 1, 3) := by decide +kernel
theorem d_Bo_init_4 : decode b_Bo_init 4 = .ok (.aload_n 0, 1) := by decide +kernel
theorem d_Bo_init_5 : decode b_Bo_init 5 = .ok (.iload_n 1, 1) := by decide +kernel
theorem d_Bo_init_6 : decode b_Bo_init 6 = .ok (.iconst 1, 1) := by decide +kernel
theorem d_Bo_init_7 : decode b_Bo_init 7 = .ok (.if_icmp .ne 7, 3) := by decide +kernel
theorem d_Bo_init_10 : decode b_Bo_init 10 = .ok (.iconst 1, 1) := by decide +kernel
theorem d_Bo_init_11 : decode b_Bo_init 11 = .ok (.goto 4, 3) := by decide +kernel
theorem d_Bo_init_14 : decode b_Bo_init 14 = .ok (.iconst 0, 1) := by decide +kernel
theorem d_Bo_init_15 : decode b_Bo_init 15 = .ok (.putfield 9, 3) := by decide +kernel
theorem d_Bo_init_18 : decode b_Bo_init 18 = .ok (.aload_n 0, 1) := by decide +kernel
theorem d_Bo_init_19 : decode b_Bo_init 19 = .ok (.iconst 4, 1) := by decide +kernel
theorem d_Bo_init_20 : decode b_Bo_init 20 = .ok (.anewarray 13, 3) := by decide +kernel
theorem d_Bo_init_23 : decode b_Bo_init 23 = .ok (.putfield 15, 3) := by decide +kernel
theorem d_Bo_init_26 : decode b_Bo_init 26 = .ok (.iconst 0, 1) := by decide +kernel
theorem d_Bo_init_27 : decode b_Bo_init 27 = .ok (.istore_n 2, 1) := by decide +kernel
theorem d_Bo_init_28 : decode b_Bo_init 28 = .ok (.iload_n 2, 1) := by decide +kernel
theorem d_Bo_init_29 : decode b_Bo_init 29 = .ok (.iconst 4, 1) := by decide +kernel
theorem d_Bo_init_30 : decode b_Bo_init 30 = .ok (.if_icmp .ge 22, 3) := by decide +kernel
theorem d_Bo_init_33 : decode b_Bo_init 33 = .ok (.aload_n 0, 1) := by decide +kernel
theorem d_Bo_init_34 : decode b_Bo_init 34 = .ok (.getfield 15, 3) := by decide +kernel
theorem d_Bo_init_37 : decode b_Bo_init 37 = .ok (.iload_n 2, 1) := by decide +kernel
theorem d_Bo_init_38 : decode b_Bo_init 38 = .ok (.new 13, 3) := by decide +kernel
theorem d_Bo_init_41 : decode b_Bo_init 41 = .ok (.dup, 1) := by decide +kernel
theorem d_Bo_init_42 : decode b_Bo_init 42 = .ok (.invokespecial 19, 3) := by decide +kernel
theorem d_Bo_init_45 : decode b_Bo_init 45 = .ok (.aastore, 1) := by decide +kernel
theorem d_Bo_init_46 : decode b_Bo_init 46 = .ok (.iinc 2 1, 3) := by decide +kernel
theorem d_Bo_init_49 : decode b_Bo_init 49 = .ok (.goto (-21), 3) := by decide +kernel
theorem d_Bo_init_52 : decode b_Bo_init 52 = .ok (.aload_n 0, 1) := by decide +kernel
theorem d_Bo_init_53 : decode b_Bo_init 53 = .ok (.new 20, 3) := by decide +kernel
theorem d_Bo_init_56 : decode b_Bo_init 56 = .ok (.dup, 1) := by decide +kernel
theorem d_Bo_init_57 : decode b_Bo_init 57 = .ok (.invokespecial 22, 3) := by decide +kernel
theorem d_Bo_init_60 : decode b_Bo_init 60 = .ok (.putfield 23, 3) := by decide +kernel
theorem d_Bo_init_63 : decode b_Bo_init 63 = .ok (.aload_n 0, 1) := by decide +kernel
theorem d_Bo_init_64 : decode b_Bo_init 64 = .ok (.new 27, 3) := by decide +kernel
theorem d_Bo_init_67 : decode b_Bo_init 67 = .ok (.dup, 1) := by decide +kernel
theorem d_Bo_init_68 : decode b_Bo_init 68 = .ok (.invokespecial 29, 3) := by decide +kernel
theorem d_Bo_init_71 : decode b_Bo_init 71 = .ok (.putfield 30, 3) := by decide +kernel
theorem d_Bo_init_74 : decode b_Bo_init 74 = .ok (.aload_n 0, 1) := by decide +kernel
theorem d_Bo_init_75 : decode b_Bo_init 75 = .ok (.iconst 0, 1) := by decide +kernel
theorem d_Bo_init_76 : decode b_Bo_init 76 = .ok (.putfield 34, 3) := by decide +kernel
theorem d_Bo_init_79 : decode b_Bo_init 79 = .ok (.aload_n 0, 1) := by decide +kernel
theorem d_Bo_init_80 : decode b_Bo_init 80 = .ok (.iconst (-1), 1) := by decide +kernel
theorem d_Bo_init_81 : decode b_Bo_init 81 = .ok (.putfield 38, 3) := by decide +kernel
theorem d_Bo_init_84 : decode b_Bo_init 84 = .ok (.return_, 1) := by decide +kernel
theorem d_Qu_init_0 : decode b_Qu_init 0 = .ok (.aload_n 0, 1) := by decide +kernel
theorem d_Qu_init_1 : decode b_Qu_init 1 = .ok (.invokespecial 1, 3) := by decide +kernel
theorem d_Qu_init_4 : decode b_Qu_init 4 = .ok (.aload_n 0, 1) := by decide +kernel
theorem d_Qu_init_5 : decode b_Qu_init 5 = .ok (.iconst 1, 1) := by decide +kernel
theorem d_Qu_init_6 : decode b_Qu_init 6 = .ok (.putfield 7, 3) := by decide +kernel
theorem d_Qu_init_9 : decode b_Qu_init 9 = .ok (.aload_n 0, 1) := by decide +kernel
theorem d_Qu_init_10 : decode b_Qu_init 10 = .ok (.iconst 1, 1) := by decide +kernel
theorem d_Qu_init_11 : decode b_Qu_init 11 = .ok (.putfield 13, 3) := by decide +kernel
theorem d_Qu_init_14 : decode b_Qu_init 14 = .ok (.return_, 1) := by decide +kernel
theorem d_Jn_init_0 : decode b_Jn_init 0 = .ok (.aload_n 0, 1) := by decide +kernel
theorem d_Jn_init_1 : decode b_Jn_init 1 = .ok (.invokespecial 3, 3) := by decide +kernel
theorem d_Jn_init_4 : decode b_Jn_init 4 = .ok (.aload_n 0, 1) := by decide +kernel
theorem d_Jn_init_5 : decode b_Jn_init 5 = .ok (.bipush 16, 2) := by decide +kernel
theorem d_Jn_init_7 : decode b_Jn_init 7 = .ok (.anewarray 9, 3) := by decide +kernel
theorem d_Jn_init_10 : decode b_Jn_init 10 = .ok (.putfield 11, 3) := by decide +kernel
theorem d_Jn_init_13 : decode b_Jn_init 13 = .ok (.iconst 0, 1) := by decide +kernel
theorem d_Jn_init_14 : decode b_Jn_init 14 = .ok (.istore_n 1, 1) := by decide +kernel
theorem d_Jn_init_15 : decode b_Jn_init 15 = .ok (.iload_n 1, 1) := by decide +kernel
theorem d_Jn_init_16 : decode b_Jn_init 16 = .ok (.bipush 16, 2) := by decide +kernel
theorem d_Jn_init_18 : decode b_Jn_init 18 = .ok (.if_icmp .ge 22, 3) := by decide +kernel
theorem d_Jn_init_21 : decode b_Jn_init 21 = .ok (.aload_n 0, 1) := by decide +kernel
theorem d_Jn_init_22 : decode b_Jn_init 22 = .ok (.getfield 11, 3) := by decide +kernel
theorem d_Jn_init_25 : decode b_Jn_init 25 = .ok (.iload_n 1, 1) := by decide +kernel
theorem d_Jn_init_26 : decode b_Jn_init 26 = .ok (.new 9, 3) := by decide +kernel
theorem d_Jn_init_29 : decode b_Jn_init 29 = .ok (.dup, 1) := by decide +kernel
theorem d_Jn_init_30 : decode b_Jn_init 30 = .ok (.invokespecial 17, 3) := by decide +kernel
theorem d_Jn_init_33 : decode b_Jn_init 33 = .ok (.aastore, 1) := by decide +kernel
theorem d_Jn_init_34 : decode b_Jn_init 34 = .ok (.iinc 1 1, 3) := by decide +kernel
theorem d_Jn_init_37 : decode b_Jn_init 37 = .ok (.goto (-22), 3) := by decide +kernel
theorem d_Jn_init_40 : decode b_Jn_init 40 = .ok (.return_, 1) := by decide +kernel
theorem d_Ro_init_0 : decode b_Ro_init 0 = .ok (.aload_n 0, 1) := by decide +kernel
theorem d_Ro_init_1 : decode b_Ro_init 1 = .ok (.invokespecial 3, 3) := by decide +kernel
theorem d_Ro_init_4 : decode b_Ro_init 4 = .ok (.aload_n 0, 1) := by decide +kernel
theorem d_Ro_init_5 : decode b_Ro_init 5 = .ok (.bipush 40, 2) := by decide +kernel
theorem d_Ro_init_7 : decode b_Ro_init 7 = .ok (.anewarray 9, 3) := by decide +kernel
theorem d_Ro_init_10 : decode b_Ro_init 10 = .ok (.putfield 11, 3) := by decide +kernel
theorem d_Ro_init_13 : decode b_Ro_init 13 = .ok (.iconst 0, 1) := by decide +kernel
theorem d_Ro_init_14 : decode b_Ro_init 14 = .ok (.istore_n 1, 1) := by decide +kernel
theorem d_Ro_init_15 : decode b_Ro_init 15 = .ok (.iload_n 1, 1) := by decide +kernel
theorem d_Ro_init_16 : decode b_Ro_init 16 = .ok (.bipush 40, 2) := by decide +kernel
theorem d_Ro_init_18 : decode b_Ro_init 18 = .ok (.if_icmp .ge 23, 3) := by decide +kernel
theorem d_Ro_init_21 : decode b_Ro_init 21 = .ok (.aload_n 0, 1) := by decide +kernel
theorem d_Ro_init_22 : decode b_Ro_init 22 = .ok (.getfield 11, 3) := by decide +kernel
theorem d_Ro_init_25 : decode b_Ro_init 25 = .ok (.iload_n 1, 1) := by decide +kernel
theorem d_Ro_init_26 : decode b_Ro_init 26 = .ok (.new 9, 3) := by decide +kernel
theorem d_Ro_init_29 : decode b_Ro_init 29 = .ok (.dup, 1) := by decide +kernel
theorem d_Ro_init_30 : decode b_Ro_init 30 = .ok (.iload_n 1, 1) := by decide +kernel
theorem d_Ro_init_31 : decode b_Ro_init 31 = .ok (.invokespecial 17, 3) := by decide +kernel
theorem d_Ro_init_34 : decode b_Ro_init 34 = .ok (.aastore, 1) := by decide +kernel
theorem d_Ro_init_35 : decode b_Ro_init 35 = .ok (.iinc 1 1, 3) := by decide +kernel
theorem d_Ro_init_38 : decode b_Ro_init 38 = .ok (.goto (-23), 3) := by decide +kernel
theorem d_Ro_init_41 : decode b_Ro_init 41 = .ok (.return_, 1) := by decide +kernel
theorem d_Jb_init_0 : decode b_Jb_init 0 = .ok (.aload_n 0, 1) := by decide +kernel
theorem d_Jb_init_1 : decode b_Jb_init 1 = .ok (.invokespecial 3, 3) := by decide +kernel
theorem d_Jb_init_4 : decode b_Jb_init 4 = .ok (.aload_n 0, 1) := by decide +kernel
theorem d_Jb_init_5 : decode b_Jb_init 5 = .ok (.iload_n 1, 1) := by decide +kernel
theorem d_Jb_init_6 : decode b_Jb_init 6 = .ok (.putfield 9, 3) := by decide +kernel
theorem d_Jb_init_9 : decode b_Jb_init 9 = .ok (.return_, 1) := by decide +kernel
theorem d_Mo_init_0 : decode b_Mo_init 0 = .ok (.aload_n 0, 1) := by decide +kernel
theorem d_Mo_init_1 : decode b_Mo_init 1 = .ok (.invokespecial 1, 3) := by decide +kernel
theorem d_Mo_init_4 : decode b_Mo_init 4 = .ok (.aload_n 0, 1) := by decide +kernel
theorem d_Mo_init_5 : decode b_Mo_init 5 = .ok (.iconst 0, 1) := by decide +kernel
theorem d_Mo_init_6 : decode b_Mo_init 6 = .ok (.putfield 7, 3) := by decide +kernel
theorem d_Mo_init_9 : decode b_Mo_init 9 = .ok (.aload_n 0, 1) := by decide +kernel
theorem d_Mo_init_10 : decode b_Mo_init 10 = .ok (.iconst 4, 1) := by decide +kernel
theorem d_Mo_init_11 : decode b_Mo_init 11 = .ok (.newarray .int, 2) := by decide +kernel
theorem d_Mo_init_13 : decode b_Mo_init 13 = .ok (.putfield 13, 3) := by decide +kernel
theorem d_Mo_init_16 : decode b_Mo_init 16 = .ok (.aload_n 0, 1) := by decide +kernel
theorem d_Mo_init_17 : decode b_Mo_init 17 = .ok (.iconst 4, 1) := by decide +kernel
theorem d_Mo_init_18 : decode b_Mo_init 18 = .ok (.newarray .int, 2) := by decide +kernel
theorem d_Mo_init_20 : decode b_Mo_init 20 = .ok (.putfield 17, 3) := by decide +kernel
theorem d_Mo_init_23 : decode b_Mo_init 23 = .ok (.aload_n 0, 1) := by decide +kernel
theorem d_Mo_init_24 : decode b_Mo_init 24 = .ok (.iconst 4, 1) := by decide +kernel
theorem d_Mo_init_25 : decode b_Mo_init 25 = .ok (.newarray .int, 2) := by decide +kernel
theorem d_Mo_init_27 : decode b_Mo_init 27 = .ok (.putfield 20, 3) := by decide +kernel
theorem d_Mo_init_30 : decode b_Mo_init 30 = .ok (.aload_n 0, 1) := by decide +kernel
theorem d_Mo_init_31 : decode b_Mo_init 31 = .ok (.iconst 4, 1) := by decide +kernel
theorem d_Mo_init_32 : decode b_Mo_init 32 = .ok (.newarray .int, 2) := by decide +kernel
theorem d_Mo_init_34 : decode b_Mo_init 34 = .ok (.putfield 23, 3) := by decide +kernel
theorem d_Mo_init_37 : decode b_Mo_init 37 = .ok (.aload_n 0, 1) := by decide +kernel
theorem d_Mo_init_38 : decode b_Mo_init 38 = .ok (.iconst 4, 1) := by decide +kernel
theorem d_Mo_init_39 : decode b_Mo_init 39 = .ok (.newarray .int, 2) := by decide +kernel
theorem d_Mo_init_41 : decode b_Mo_init 41 = .ok (.putfield 26, 3) := by decide +kernel
theorem d_Mo_init_44 : decode b_Mo_init 44 = .ok (.aload_n 0, 1) := by decide +kernel
theorem d_Mo_init_45 : decode b_Mo_init 45 = .ok (.iconst 4, 1) := by decide +kernel
theorem d_Mo_init_46 : decode b_Mo_init 46 = .ok (.newarray .int, 2) := by decide +kernel
theorem d_Mo_init_48 : decode b_Mo_init 48 = .ok (.putfield 29, 3) := by decide +kernel
theorem d_Mo_init_51 : decode b_Mo_init 51 = .ok (.aload_n 0, 1) := by decide +kernel
theorem d_Mo_init_52 : decode b_Mo_init 52 = .ok (.iconst (-1), 1) := by decide +kernel
theorem d_Mo_init_53 : decode b_Mo_init 53 = .ok (.putfield 32, 3) := by decide +kernel
theorem d_Mo_init_56 : decode b_Mo_init 56 = .ok (.aload_n 0, 1) := by decide +kernel
theorem d_Mo_init_57 : decode b_Mo_init 57 = .ok (.iconst 0, 1) := by decide +kernel
theorem d_Mo_init_58 : decode b_Mo_init 58 = .ok (.putfield 35, 3) := by decide +kernel
theorem d_Mo_init_61 : decode b_Mo_init 61 = .ok (.aload_n 0, 1) := by decide +kernel
theorem d_Mo_init_62 : decode b_Mo_init 62 = .ok (.iconst 0, 1) := by decide +kernel
theorem d_Mo_init_63 : decode b_Mo_init 63 = .ok (.putfield 38, 3) := by decide +kernel
theorem d_Mo_init_66 : decode b_Mo_init 66 = .ok (.aload_n 0, 1) := by decide +kernel
theorem d_Mo_init_67 : decode b_Mo_init 67 = .ok (.iconst 0, 1) := by decide +kernel
theorem d_Mo_init_68 : decode b_Mo_init 68 = .ok (.putfield 41, 3) := by decide +kernel
theorem d_Mo_init_71 : decode b_Mo_init 71 = .ok (.aload_n 0, 1) := by decide +kernel
theorem d_Mo_init_72 : decode b_Mo_init 72 = .ok (.sipush 520, 3) := by decide +kernel
theorem d_Mo_init_75 : decode b_Mo_init 75 = .ok (.newarray .int, 2) := by decide +kernel
theorem d_Mo_init_77 : decode b_Mo_init 77 = .ok (.putfield 44, 3) := by decide +kernel
theorem d_Mo_init_80 : decode b_Mo_init 80 = .ok (.aload_n 0, 1) := by decide +kernel
theorem d_Mo_init_81 : decode b_Mo_init 81 = .ok (.sipush 8320, 3) := by decide +kernel
theorem d_Mo_init_84 : decode b_Mo_init 84 = .ok (.newarray .int, 2) := by decide +kernel
theorem d_Mo_init_86 : decode b_Mo_init 86 = .ok (.putfield 47, 3) := by decide +kernel
theorem d_Mo_init_89 : decode b_Mo_init 89 = .ok (.aload_n 0, 1) := by decide +kernel
theorem d_Mo_init_90 : decode b_Mo_init 90 = .ok (.bipush 16, 2) := by decide +kernel
theorem d_Mo_init_92 : decode b_Mo_init 92 = .ok (.newarray .int, 2) := by decide +kernel
theorem d_Mo_init_94 : decode b_Mo_init 94 = .ok (.putfield 50, 3) := by decide +kernel
theorem d_Mo_init_97 : decode b_Mo_init 97 = .ok (.aload_n 0, 1) := by decide +kernel
theorem d_Mo_init_98 : decode b_Mo_init 98 = .ok (.bipush 40, 2) := by decide +kernel
theorem d_Mo_init_100 : decode b_Mo_init 100 = .ok (.newarray .boolean, 2) := by decide +kernel
theorem d_Mo_init_102 : decode b_Mo_init 102 = .ok (.putfield 53, 3) := by decide +kernel
theorem d_Mo_init_105 : decode b_Mo_init 105 = .ok (.aload_n 0, 1) := by decide +kernel
theorem d_Mo_init_106 : decode b_Mo_init 106 = .ok (.iload_n 1, 1) := by decide +kernel
theorem d_Mo_init_107 : decode b_Mo_init 107 = .ok (.iconst 1, 1) := by decide +kernel
theorem d_Mo_init_108 : decode b_Mo_init 108 = .ok (.if_icmp .ne 7, 3) := by decide +kernel
theorem d_Mo_init_111 : decode b_Mo_init 111 = .ok (.iconst 1, 1) := by decide +kernel
theorem d_Mo_init_112 : decode b_Mo_init 112 = .ok (.goto 4, 3) := by decide +kernel
theorem d_Mo_init_115 : decode b_Mo_init 115 = .ok (.iconst 0, 1) := by decide +kernel
theorem d_Mo_init_116 : decode b_Mo_init 116 = .ok (.putfield 57, 3) := by decide +kernel
theorem d_Mo_init_119 : decode b_Mo_init 119 = .ok (.iconst 0, 1) := by decide +kernel
theorem d_Mo_init_120 : decode b_Mo_init 120 = .ok (.istore_n 2, 1) := by decide +kernel
theorem d_Mo_init_121 : decode b_Mo_init 121 = .ok (.iload_n 2, 1) := by decide +kernel
theorem d_Mo_init_122 : decode b_Mo_init 122 = .ok (.iconst 4, 1) := by decide +kernel
theorem d_Mo_init_123 : decode b_Mo_init 123 = .ok (.if_icmp .ge 23, 3) := by decide +kernel
theorem d_Mo_init_126 : decode b_Mo_init 126 = .ok (.aload_n 0, 1) := by decide +kernel
theorem d_Mo_init_127 : decode b_Mo_init 127 = .ok (.getfield 13, 3) := by decide +kernel
theorem d_Mo_init_130 : decode b_Mo_init 130 = .ok (.iload_n 2, 1) := by decide +kernel
theorem d_Mo_init_131 : decode b_Mo_init 131 = .ok (.iconst 1, 1) := by decide +kernel
theorem d_Mo_init_132 : decode b_Mo_init 132 = .ok (.iastore, 1) := by decide +kernel
theorem d_Mo_init_133 : decode b_Mo_init 133 = .ok (.aload_n 0, 1) := by decide +kernel
theorem d_Mo_init_134 : decode b_Mo_init 134 = .ok (.getfield 26, 3) := by decide +kernel
theorem d_Mo_init_137 : decode b_Mo_init 137 = .ok (.iload_n 2, 1) := by decide +kernel
theorem d_Mo_init_138 : decode b_Mo_init 138 = .ok (.iconst 1, 1) := by decide +kernel
theorem d_Mo_init_139 : decode b_Mo_init 139 = .ok (.iastore, 1) := by decide +kernel
theorem d_Mo_init_140 : decode b_Mo_init 140 = .ok (.iinc 2 1, 3) := by decide +kernel
theorem d_Mo_init_143 : decode b_Mo_init 143 = .ok (.goto (-22), 3) := by decide +kernel
theorem d_Mo_init_146 : decode b_Mo_init 146 = .ok (.return_, 1) := by decide +kernel

theorem d_Jb_isLive_0 : decode b_Jb_isLive 0 = .ok (.aload_n 0, 1) := by decide +kernel
theorem d_Jb_isLive_1 : decode b_Jb_isLive 1 = .ok (.getfield 43, 3) := by decide +kernel
theorem d_Jb_isLive_4 : decode b_Jb_isLive 4 = .ok (.iconst 4, 1) := by decide +kernel
theorem d_Jb_isLive_5 : decode b_Jb_isLive 5 = .ok (.if_icmp .eq 24, 3) := by decide +kernel
theorem d_Jb_isLive_8 : decode b_Jb_isLive 8 = .ok (.aload_n 0, 1) := by decide +kernel
theorem d_Jb_isLive_9 : decode b_Jb_isLive 9 = .ok (.getfield 43, 3) := by decide +kernel
theorem d_Jb_isLive_12 : decode b_Jb_isLive 12 = .ok (.iconst 5, 1) := by decide +kernel
theorem d_Jb_isLive_13 : decode b_Jb_isLive 13 = .ok (.if_icmp .eq 16, 3) := by decide +kernel
theorem d_Jb_isLive_16 : decode b_Jb_isLive 16 = .ok (.aload_n 0, 1) := by decide +kernel
theorem d_Jb_isLive_17 : decode b_Jb_isLive 17 = .ok (.getfield 43, 3) := by decide +kernel
theorem d_Jb_isLive_20 : decode b_Jb_isLive 20 = .ok (.bipush 7, 2) := by decide +kernel
theorem d_Jb_isLive_22 : decode b_Jb_isLive 22 = .ok (.if_icmp .eq 7, 3) := by decide +kernel
theorem d_Jb_isLive_25 : decode b_Jb_isLive 25 = .ok (.iconst 1, 1) := by decide +kernel
theorem d_Jb_isLive_26 : decode b_Jb_isLive 26 = .ok (.goto 4, 3) := by decide +kernel
theorem d_Jb_isLive_29 : decode b_Jb_isLive 29 = .ok (.iconst 0, 1) := by decide +kernel
theorem d_Jb_isLive_30 : decode b_Jb_isLive 30 = .ok (.ireturn, 1) := by decide +kernel
theorem d_Jb_isTimed_0 : decode b_Jb_isTimed 0 = .ok (.aload_n 0, 1) := by decide +kernel
theorem d_Jb_isTimed_1 : decode b_Jb_isTimed 1 = .ok (.getfield 43, 3) := by decide +kernel
theorem d_Jb_isTimed_4 : decode b_Jb_isTimed 4 = .ok (.ifCond .eq 19, 3) := by decide +kernel
theorem d_Jb_isTimed_7 : decode b_Jb_isTimed 7 = .ok (.aload_n 0, 1) := by decide +kernel
theorem d_Jb_isTimed_8 : decode b_Jb_isTimed 8 = .ok (.getfield 43, 3) := by decide +kernel
theorem d_Jb_isTimed_11 : decode b_Jb_isTimed 11 = .ok (.iconst 3, 1) := by decide +kernel
theorem d_Jb_isTimed_12 : decode b_Jb_isTimed 12 = .ok (.if_icmp .eq 11, 3) := by decide +kernel
theorem d_Jb_isTimed_15 : decode b_Jb_isTimed 15 = .ok (.aload_n 0, 1) := by decide +kernel
theorem d_Jb_isTimed_16 : decode b_Jb_isTimed 16 = .ok (.getfield 43, 3) := by decide +kernel
theorem d_Jb_isTimed_19 : decode b_Jb_isTimed 19 = .ok (.iconst 2, 1) := by decide +kernel
theorem d_Jb_isTimed_20 : decode b_Jb_isTimed 20 = .ok (.if_icmp .ne 7, 3) := by decide +kernel
theorem d_Jb_isTimed_23 : decode b_Jb_isTimed 23 = .ok (.iconst 1, 1) := by decide +kernel
theorem d_Jb_isTimed_24 : decode b_Jb_isTimed 24 = .ok (.goto 4, 3) := by decide +kernel
theorem d_Jb_isTimed_27 : decode b_Jb_isTimed 27 = .ok (.iconst 0, 1) := by decide +kernel
theorem d_Jb_isTimed_28 : decode b_Jb_isTimed 28 = .ok (.ireturn, 1) := by decide +kernel
theorem d_Jb_waitUntil_0 : decode b_Jb_waitUntil 0 = .ok (.aload_n 0, 1) := by decide +kernel
theorem d_Jb_waitUntil_1 : decode b_Jb_waitUntil 1 = .ok (.iload_n 1, 1) := by decide +kernel
theorem d_Jb_waitUntil_2 : decode b_Jb_waitUntil 2 = .ok (.putfield 43, 3) := by decide +kernel
theorem d_Jb_waitUntil_5 : decode b_Jb_waitUntil 5 = .ok (.aload_n 0, 1) := by decide +kernel
theorem d_Jb_waitUntil_6 : decode b_Jb_waitUntil 6 = .ok (.iload_n 2, 1) := by decide +kernel
theorem d_Jb_waitUntil_7 : decode b_Jb_waitUntil 7 = .ok (.putfield 46, 3) := by decide +kernel
theorem d_Jb_waitUntil_10 : decode b_Jb_waitUntil 10 = .ok (.return_, 1) := by decide +kernel
theorem d_Jb_retryDelay_0 : decode b_Jb_retryDelay 0 = .ok (.sipush 500, 3) := by decide +kernel
theorem d_Jb_retryDelay_3 : decode b_Jb_retryDelay 3 = .ok (.aload_n 0, 1) := by decide +kernel
theorem d_Jb_retryDelay_4 : decode b_Jb_retryDelay 4 = .ok (.getfield 24, 3) := by decide +kernel
theorem d_Jb_retryDelay_7 : decode b_Jb_retryDelay 7 = .ok (.aload_n 0, 1) := by decide +kernel
theorem d_Jb_retryDelay_8 : decode b_Jb_retryDelay 8 = .ok (.getfield 30, 3) := by decide +kernel
theorem d_Jb_retryDelay_11 : decode b_Jb_retryDelay 11 = .ok (.iconst 1, 1) := by decide +kernel
theorem d_Jb_retryDelay_12 : decode b_Jb_retryDelay 12 = .ok (.isub, 1) := by decide +kernel
theorem d_Jb_retryDelay_13 : decode b_Jb_retryDelay 13 = .ok (.ishl, 1) := by decide +kernel
theorem d_Jb_retryDelay_14 : decode b_Jb_retryDelay 14 = .ok (.invokestatic 55, 3) := by decide +kernel
theorem d_Jb_retryDelay_17 : decode b_Jb_retryDelay 17 = .ok (.ireturn, 1) := by decide +kernel
theorem d_Jb_standsBefore_0 : decode b_Jb_standsBefore 0 = .ok (.aload_n 0, 1) := by decide +kernel
theorem d_Jb_standsBefore_1 : decode b_Jb_standsBefore 1 = .ok (.getfield 18, 3) := by decide +kernel
theorem d_Jb_standsBefore_4 : decode b_Jb_standsBefore 4 = .ok (.aload_n 1, 1) := by decide +kernel
theorem d_Jb_standsBefore_5 : decode b_Jb_standsBefore 5 = .ok (.getfield 18, 3) := by decide +kernel
theorem d_Jb_standsBefore_8 : decode b_Jb_standsBefore 8 = .ok (.if_icmp .gt 25, 3) := by decide +kernel
theorem d_Jb_standsBefore_11 : decode b_Jb_standsBefore 11 = .ok (.aload_n 0, 1) := by decide +kernel
theorem d_Jb_standsBefore_12 : decode b_Jb_standsBefore 12 = .ok (.getfield 18, 3) := by decide +kernel
theorem d_Jb_standsBefore_15 : decode b_Jb_standsBefore 15 = .ok (.aload_n 1, 1) := by decide +kernel
theorem d_Jb_standsBefore_16 : decode b_Jb_standsBefore 16 = .ok (.getfield 18, 3) := by decide +kernel
theorem d_Jb_standsBefore_19 : decode b_Jb_standsBefore 19 = .ok (.if_icmp .ne 18, 3) := by decide +kernel
theorem d_Jb_standsBefore_22 : decode b_Jb_standsBefore 22 = .ok (.aload_n 0, 1) := by decide +kernel
theorem d_Jb_standsBefore_23 : decode b_Jb_standsBefore 23 = .ok (.getfield 52, 3) := by decide +kernel
theorem d_Jb_standsBefore_26 : decode b_Jb_standsBefore 26 = .ok (.aload_n 1, 1) := by decide +kernel
theorem d_Jb_standsBefore_27 : decode b_Jb_standsBefore 27 = .ok (.getfield 52, 3) := by decide +kernel
theorem d_Jb_standsBefore_30 : decode b_Jb_standsBefore 30 = .ok (.if_icmp .ge 7, 3) := by decide +kernel
theorem d_Jb_standsBefore_33 : decode b_Jb_standsBefore 33 = .ok (.iconst 1, 1) := by decide +kernel
theorem d_Jb_standsBefore_34 : decode b_Jb_standsBefore 34 = .ok (.goto 4, 3) := by decide +kernel
theorem d_Jb_standsBefore_37 : decode b_Jb_standsBefore 37 = .ok (.iconst 0, 1) := by decide +kernel
theorem d_Jb_standsBefore_38 : decode b_Jb_standsBefore 38 = .ok (.ireturn, 1) := by decide +kernel
theorem d_Jb_begin_0 : decode b_Jb_begin 0 = .ok (.aload_n 0, 1) := by decide +kernel
theorem d_Jb_begin_1 : decode b_Jb_begin 1 = .ok (.iload_n 1, 1) := by decide +kernel
theorem d_Jb_begin_2 : decode b_Jb_begin 2 = .ok (.putfield 15, 3) := by decide +kernel
theorem d_Jb_begin_5 : decode b_Jb_begin 5 = .ok (.aload_n 0, 1) := by decide +kernel
theorem d_Jb_begin_6 : decode b_Jb_begin 6 = .ok (.iload_n 2, 1) := by decide +kernel
theorem d_Jb_begin_7 : decode b_Jb_begin 7 = .ok (.putfield 18, 3) := by decide +kernel
theorem d_Jb_begin_10 : decode b_Jb_begin 10 = .ok (.aload_n 0, 1) := by decide +kernel
theorem d_Jb_begin_11 : decode b_Jb_begin 11 = .ok (.iconst 0, 1) := by decide +kernel
theorem d_Jb_begin_12 : decode b_Jb_begin 12 = .ok (.putfield 21, 3) := by decide +kernel
theorem d_Jb_begin_15 : decode b_Jb_begin 15 = .ok (.aload_n 0, 1) := by decide +kernel
theorem d_Jb_begin_16 : decode b_Jb_begin 16 = .ok (.iconst 1, 1) := by decide +kernel
theorem d_Jb_begin_17 : decode b_Jb_begin 17 = .ok (.putfield 24, 3) := by decide +kernel
theorem d_Jb_begin_20 : decode b_Jb_begin 20 = .ok (.aload_n 0, 1) := by decide +kernel
theorem d_Jb_begin_21 : decode b_Jb_begin 21 = .ok (.iconst (-1), 1) := by decide +kernel
theorem d_Jb_begin_22 : decode b_Jb_begin 22 = .ok (.putfield 27, 3) := by decide +kernel
theorem d_Jb_begin_25 : decode b_Jb_begin 25 = .ok (.aload_n 0, 1) := by decide +kernel
theorem d_Jb_begin_26 : decode b_Jb_begin 26 = .ok (.iconst 0, 1) := by decide +kernel
theorem d_Jb_begin_27 : decode b_Jb_begin 27 = .ok (.putfield 30, 3) := by decide +kernel
theorem d_Jb_begin_30 : decode b_Jb_begin 30 = .ok (.aload_n 0, 1) := by decide +kernel
theorem d_Jb_begin_31 : decode b_Jb_begin 31 = .ok (.iconst (-1), 1) := by decide +kernel
theorem d_Jb_begin_32 : decode b_Jb_begin 32 = .ok (.putfield 33, 3) := by decide +kernel
theorem d_Jb_begin_35 : decode b_Jb_begin 35 = .ok (.aload_n 0, 1) := by decide +kernel
theorem d_Jb_begin_36 : decode b_Jb_begin 36 = .ok (.iconst 0, 1) := by decide +kernel
theorem d_Jb_begin_37 : decode b_Jb_begin 37 = .ok (.putfield 36, 3) := by decide +kernel
theorem d_Jb_begin_40 : decode b_Jb_begin 40 = .ok (.aload_n 0, 1) := by decide +kernel
theorem d_Jb_begin_41 : decode b_Jb_begin 41 = .ok (.iconst 0, 1) := by decide +kernel
theorem d_Jb_begin_42 : decode b_Jb_begin 42 = .ok (.putfield 39, 3) := by decide +kernel
theorem d_Jb_begin_45 : decode b_Jb_begin 45 = .ok (.aload_n 0, 1) := by decide +kernel
theorem d_Jb_begin_46 : decode b_Jb_begin 46 = .ok (.bipush 6, 2) := by decide +kernel
theorem d_Jb_begin_48 : decode b_Jb_begin 48 = .ok (.putfield 43, 3) := by decide +kernel
theorem d_Jb_begin_51 : decode b_Jb_begin 51 = .ok (.aload_n 0, 1) := by decide +kernel
theorem d_Jb_begin_52 : decode b_Jb_begin 52 = .ok (.iconst 0, 1) := by decide +kernel
theorem d_Jb_begin_53 : decode b_Jb_begin 53 = .ok (.putfield 46, 3) := by decide +kernel
theorem d_Jb_begin_56 : decode b_Jb_begin 56 = .ok (.aload_n 0, 1) := by decide +kernel
theorem d_Jb_begin_57 : decode b_Jb_begin 57 = .ok (.iconst 0, 1) := by decide +kernel
theorem d_Jb_begin_58 : decode b_Jb_begin 58 = .ok (.putfield 49, 3) := by decide +kernel
theorem d_Jb_begin_61 : decode b_Jb_begin 61 = .ok (.aload_n 0, 1) := by decide +kernel
theorem d_Jb_begin_62 : decode b_Jb_begin 62 = .ok (.iconst 0, 1) := by decide +kernel
theorem d_Jb_begin_63 : decode b_Jb_begin 63 = .ok (.putfield 52, 3) := by decide +kernel
theorem d_Jb_begin_66 : decode b_Jb_begin 66 = .ok (.return_, 1) := by decide +kernel
theorem d_Jb_copyFrom_0 : decode b_Jb_copyFrom 0 = .ok (.aload_n 0, 1) := by decide +kernel
theorem d_Jb_copyFrom_1 : decode b_Jb_copyFrom 1 = .ok (.aload_n 1, 1) := by decide +kernel
theorem d_Jb_copyFrom_2 : decode b_Jb_copyFrom 2 = .ok (.getfield 15, 3) := by decide +kernel
theorem d_Jb_copyFrom_5 : decode b_Jb_copyFrom 5 = .ok (.putfield 15, 3) := by decide +kernel
theorem d_Jb_copyFrom_8 : decode b_Jb_copyFrom 8 = .ok (.aload_n 0, 1) := by decide +kernel
theorem d_Jb_copyFrom_9 : decode b_Jb_copyFrom 9 = .ok (.aload_n 1, 1) := by decide +kernel
theorem d_Jb_copyFrom_10 : decode b_Jb_copyFrom 10 = .ok (.getfield 18, 3) := by decide +kernel
theorem d_Jb_copyFrom_13 : decode b_Jb_copyFrom 13 = .ok (.putfield 18, 3) := by decide +kernel
theorem d_Jb_copyFrom_16 : decode b_Jb_copyFrom 16 = .ok (.aload_n 0, 1) := by decide +kernel
theorem d_Jb_copyFrom_17 : decode b_Jb_copyFrom 17 = .ok (.aload_n 1, 1) := by decide +kernel
theorem d_Jb_copyFrom_18 : decode b_Jb_copyFrom 18 = .ok (.getfield 21, 3) := by decide +kernel
theorem d_Jb_copyFrom_21 : decode b_Jb_copyFrom 21 = .ok (.putfield 21, 3) := by decide +kernel
theorem d_Jb_copyFrom_24 : decode b_Jb_copyFrom 24 = .ok (.aload_n 0, 1) := by decide +kernel
theorem d_Jb_copyFrom_25 : decode b_Jb_copyFrom 25 = .ok (.aload_n 1, 1) := by decide +kernel
theorem d_Jb_copyFrom_26 : decode b_Jb_copyFrom 26 = .ok (.getfield 24, 3) := by decide +kernel
theorem d_Jb_copyFrom_29 : decode b_Jb_copyFrom 29 = .ok (.putfield 24, 3) := by decide +kernel
theorem d_Jb_copyFrom_32 : decode b_Jb_copyFrom 32 = .ok (.aload_n 0, 1) := by decide +kernel
theorem d_Jb_copyFrom_33 : decode b_Jb_copyFrom 33 = .ok (.aload_n 1, 1) := by decide +kernel
theorem d_Jb_copyFrom_34 : decode b_Jb_copyFrom 34 = .ok (.getfield 27, 3) := by decide +kernel
theorem d_Jb_copyFrom_37 : decode b_Jb_copyFrom 37 = .ok (.putfield 27, 3) := by decide +kernel
theorem d_Jb_copyFrom_40 : decode b_Jb_copyFrom 40 = .ok (.aload_n 0, 1) := by decide +kernel
theorem d_Jb_copyFrom_41 : decode b_Jb_copyFrom 41 = .ok (.aload_n 1, 1) := by decide +kernel
theorem d_Jb_copyFrom_42 : decode b_Jb_copyFrom 42 = .ok (.getfield 30, 3) := by decide +kernel
theorem d_Jb_copyFrom_45 : decode b_Jb_copyFrom 45 = .ok (.putfield 30, 3) := by decide +kernel
theorem d_Jb_copyFrom_48 : decode b_Jb_copyFrom 48 = .ok (.aload_n 0, 1) := by decide +kernel
theorem d_Jb_copyFrom_49 : decode b_Jb_copyFrom 49 = .ok (.aload_n 1, 1) := by decide +kernel
theorem d_Jb_copyFrom_50 : decode b_Jb_copyFrom 50 = .ok (.getfield 33, 3) := by decide +kernel
theorem d_Jb_copyFrom_53 : decode b_Jb_copyFrom 53 = .ok (.putfield 33, 3) := by decide +kernel
theorem d_Jb_copyFrom_56 : decode b_Jb_copyFrom 56 = .ok (.aload_n 0, 1) := by decide +kernel
theorem d_Jb_copyFrom_57 : decode b_Jb_copyFrom 57 = .ok (.aload_n 1, 1) := by decide +kernel
theorem d_Jb_copyFrom_58 : decode b_Jb_copyFrom 58 = .ok (.getfield 36, 3) := by decide +kernel
theorem d_Jb_copyFrom_61 : decode b_Jb_copyFrom 61 = .ok (.putfield 36, 3) := by decide +kernel
theorem d_Jb_copyFrom_64 : decode b_Jb_copyFrom 64 = .ok (.aload_n 0, 1) := by decide +kernel
theorem d_Jb_copyFrom_65 : decode b_Jb_copyFrom 65 = .ok (.aload_n 1, 1) := by decide +kernel
theorem d_Jb_copyFrom_66 : decode b_Jb_copyFrom 66 = .ok (.getfield 39, 3) := by decide +kernel
theorem d_Jb_copyFrom_69 : decode b_Jb_copyFrom 69 = .ok (.putfield 39, 3) := by decide +kernel
theorem d_Jb_copyFrom_72 : decode b_Jb_copyFrom 72 = .ok (.aload_n 0, 1) := by decide +kernel
theorem d_Jb_copyFrom_73 : decode b_Jb_copyFrom 73 = .ok (.aload_n 1, 1) := by decide +kernel
theorem d_Jb_copyFrom_74 : decode b_Jb_copyFrom 74 = .ok (.getfield 43, 3) := by decide +kernel
theorem d_Jb_copyFrom_77 : decode b_Jb_copyFrom 77 = .ok (.putfield 43, 3) := by decide +kernel
theorem d_Jb_copyFrom_80 : decode b_Jb_copyFrom 80 = .ok (.aload_n 0, 1) := by decide +kernel
theorem d_Jb_copyFrom_81 : decode b_Jb_copyFrom 81 = .ok (.aload_n 1, 1) := by decide +kernel
theorem d_Jb_copyFrom_82 : decode b_Jb_copyFrom 82 = .ok (.getfield 46, 3) := by decide +kernel
theorem d_Jb_copyFrom_85 : decode b_Jb_copyFrom 85 = .ok (.putfield 46, 3) := by decide +kernel
theorem d_Jb_copyFrom_88 : decode b_Jb_copyFrom 88 = .ok (.aload_n 0, 1) := by decide +kernel
theorem d_Jb_copyFrom_89 : decode b_Jb_copyFrom 89 = .ok (.aload_n 1, 1) := by decide +kernel
theorem d_Jb_copyFrom_90 : decode b_Jb_copyFrom 90 = .ok (.getfield 49, 3) := by decide +kernel
theorem d_Jb_copyFrom_93 : decode b_Jb_copyFrom 93 = .ok (.putfield 49, 3) := by decide +kernel
theorem d_Jb_copyFrom_96 : decode b_Jb_copyFrom 96 = .ok (.aload_n 0, 1) := by decide +kernel
theorem d_Jb_copyFrom_97 : decode b_Jb_copyFrom 97 = .ok (.aload_n 1, 1) := by decide +kernel
theorem d_Jb_copyFrom_98 : decode b_Jb_copyFrom 98 = .ok (.getfield 52, 3) := by decide +kernel
theorem d_Jb_copyFrom_101 : decode b_Jb_copyFrom 101 = .ok (.putfield 52, 3) := by decide +kernel
theorem d_Jb_copyFrom_104 : decode b_Jb_copyFrom 104 = .ok (.return_, 1) := by decide +kernel
def fn_Jb_isLive (N : Nat) (o0 : Nat) (σ : gx_M) : Option (Int32 × gx_M) := if 42 ≤ o0 ∧ o0 < 722 then (if (σ o0 10) = ((4 : Int32)) then (some ((0 : Int32), σ)) else (if (σ o0 10) = ((5 : Int32)) then (some ((0 : Int32), σ)) else (if (σ o0 10) = ((7 : Int32)) then (some ((0 : Int32), σ)) else (some ((1 : Int32), σ))))) else none
set_option maxHeartbeats 4000000 in
set_option maxRecDepth 100000 in
theorem ct_Jb_isLive (l : Launch) (D : va_G) (dA : Nat → ClassId) (adr : Nat → Nat) (A : Nat → Prop) (hA : gx_A A adr) (N : Nat) (o0 : Nat) (σ : gx_M) (r : Int32) (σ' : gx_M) (hf : fn_Jb_isLive N o0 σ = some (r, σ')) : Met l y_Jb_isLive w_Jb_isLive rm_Jb_isLive (gx_Pc D dA adr σ [.ref (adr o0)]) (gx_Q D dA adr A (some (.int r)) σ') 0 0 A := by
  refine Met.ofW (cc := b_Jb_isLive) (maxL := 1) (ret := some .boolean) (by decide) rfl ?_
  intro p e s m args below meth c s₁ B hml hv
  obtain ⟨rfl, hP, hK⟩ := hv
  have hx := B.exec
  have hb := B.bytes
  have hr := B.returns
  have hlocks := B.notSynchronized
  have ht : ∀ w ∈ gx_tb, w.before _ s = true := fun w h => atoms_spec (ws := w_Jb_isLive) B.pre w (List.mem_cons_of_mem _ h)
  have hown : s.vm.findClass R_Jb = some m.cls := findClass_of_methodNamed B.named
  have G : gx_G p m c b_Jb_isLive 1 s _ gx_tb R_Jb D dA := ⟨⟨hx, hb, hml, hown, ht⟩, hK⟩
  have hI : gx_I D dA adr A s.heap σ s.heap [] := ⟨hP, va_S.rf⟩
  have hl := lv_entry ([.ref (adr o0)]) (n := 1) (Nat.le_of_ble_eq_true rfl)
  rw [lg_entry_eq]
  generalize (lg_sl ([.ref (adr o0)]) ++ List.replicate (1 - (lg_sl ([.ref (adr o0)])).length) Slot.unset).toArray = ls at hl ⊢
  have hl : lv_has ls 1 [(0, .ref (adr o0))] := hl
  rw [fn_Jb_isLive] at hf
  obtain ⟨ho0, hf⟩ := gx_gd hf
  refine lv_aload_n hx hb d_Jb_isLive_0 rfl (lv_at hl 0 rfl) ?_
  refine gx_getI G hI cl_Jb (gx_ci_j ho0) 10 (by decide) (gx_rf_j ho0 10) fl_Jb_43 d_Jb_isLive_1 ?_
  refine lv_iconst (v := 4) hx hb d_Jb_isLive_4 (by decide) ?_
  refine lv_icmp_eq (tgt := 29) hx hb d_Jb_isLive_5 (by decide) (fun c_1 => ?_) (fun c_1 => ?_)
  · replace hf := (if_pos c_1).symm.trans hf
    refine lv_iconst (v := 0) hx hb d_Jb_isLive_29 (by decide) ?_
    cases hf
    exact W.zret (v := (0 : Int32)) hx hb hr (by decide) (gx_F hI) hI.2.2.2 d_Jb_isLive_30
  · replace hf := (if_neg c_1).symm.trans hf
    refine lv_aload_n hx hb d_Jb_isLive_8 rfl (lv_at hl 0 rfl) ?_
    refine gx_getI G hI cl_Jb (gx_ci_j ho0) 10 (by decide) (gx_rf_j ho0 10) fl_Jb_43 d_Jb_isLive_9 ?_
    refine lv_iconst (v := 5) hx hb d_Jb_isLive_12 (by decide) ?_
    refine lv_icmp_eq (tgt := 29) hx hb d_Jb_isLive_13 (by decide) (fun c_2 => ?_) (fun c_2 => ?_)
    · replace hf := (if_pos c_2).symm.trans hf
      refine lv_iconst (v := 0) hx hb d_Jb_isLive_29 (by decide) ?_
      cases hf
      exact W.zret (v := (0 : Int32)) hx hb hr (by decide) (gx_F hI) hI.2.2.2 d_Jb_isLive_30
    · replace hf := (if_neg c_2).symm.trans hf
      refine lv_aload_n hx hb d_Jb_isLive_16 rfl (lv_at hl 0 rfl) ?_
      refine gx_getI G hI cl_Jb (gx_ci_j ho0) 10 (by decide) (gx_rf_j ho0 10) fl_Jb_43 d_Jb_isLive_17 ?_
      refine lv_bipush (v := 7) hx hb d_Jb_isLive_20 (by decide) ?_
      refine lv_icmp_eq (tgt := 29) hx hb d_Jb_isLive_22 (by decide) (fun c_3 => ?_) (fun c_3 => ?_)
      · replace hf := (if_pos c_3).symm.trans hf
        refine lv_iconst (v := 0) hx hb d_Jb_isLive_29 (by decide) ?_
        cases hf
        exact W.zret (v := (0 : Int32)) hx hb hr (by decide) (gx_F hI) hI.2.2.2 d_Jb_isLive_30
      · replace hf := (if_neg c_3).symm.trans hf
        refine lv_iconst (v := 1) hx hb d_Jb_isLive_25 (by decide) ?_
        refine lv_goto (tgt := 30) hx hb d_Jb_isLive_26 (by decide) ?_
        cases hf
        exact W.zret (v := (1 : Int32)) hx hb hr (by decide) (gx_F hI) hI.2.2.2 d_Jb_isLive_30
def fn_Jb_isTimed (N : Nat) (o0 : Nat) (σ : gx_M) : Option (Int32 × gx_M) := if 42 ≤ o0 ∧ o0 < 722 then (if (σ o0 10) = 0 then (some ((1 : Int32), σ)) else (if (σ o0 10) = ((3 : Int32)) then (some ((1 : Int32), σ)) else (if (σ o0 10) = ((2 : Int32)) then (some ((1 : Int32), σ)) else (some ((0 : Int32), σ))))) else none
set_option maxHeartbeats 4000000 in
set_option maxRecDepth 100000 in
theorem ct_Jb_isTimed (l : Launch) (D : va_G) (dA : Nat → ClassId) (adr : Nat → Nat) (A : Nat → Prop) (hA : gx_A A adr) (N : Nat) (o0 : Nat) (σ : gx_M) (r : Int32) (σ' : gx_M) (hf : fn_Jb_isTimed N o0 σ = some (r, σ')) : Met l y_Jb_isTimed w_Jb_isTimed rm_Jb_isTimed (gx_Pc D dA adr σ [.ref (adr o0)]) (gx_Q D dA adr A (some (.int r)) σ') 0 0 A := by
  refine Met.ofW (cc := b_Jb_isTimed) (maxL := 1) (ret := some .boolean) (by decide) rfl ?_
  intro p e s m args below meth c s₁ B hml hv
  obtain ⟨rfl, hP, hK⟩ := hv
  have hx := B.exec
  have hb := B.bytes
  have hr := B.returns
  have hlocks := B.notSynchronized
  have ht : ∀ w ∈ gx_tb, w.before _ s = true := fun w h => atoms_spec (ws := w_Jb_isTimed) B.pre w (List.mem_cons_of_mem _ h)
  have hown : s.vm.findClass R_Jb = some m.cls := findClass_of_methodNamed B.named
  have G : gx_G p m c b_Jb_isTimed 1 s _ gx_tb R_Jb D dA := ⟨⟨hx, hb, hml, hown, ht⟩, hK⟩
  have hI : gx_I D dA adr A s.heap σ s.heap [] := ⟨hP, va_S.rf⟩
  have hl := lv_entry ([.ref (adr o0)]) (n := 1) (Nat.le_of_ble_eq_true rfl)
  rw [lg_entry_eq]
  generalize (lg_sl ([.ref (adr o0)]) ++ List.replicate (1 - (lg_sl ([.ref (adr o0)])).length) Slot.unset).toArray = ls at hl ⊢
  have hl : lv_has ls 1 [(0, .ref (adr o0))] := hl
  rw [fn_Jb_isTimed] at hf
  obtain ⟨ho0, hf⟩ := gx_gd hf
  refine lv_aload_n hx hb d_Jb_isTimed_0 rfl (lv_at hl 0 rfl) ?_
  refine gx_getI G hI cl_Jb (gx_ci_j ho0) 10 (by decide) (gx_rf_j ho0 10) fl_Jb_43 d_Jb_isTimed_1 ?_
  refine lv_if_eq (tgt := 23) hx hb d_Jb_isTimed_4 (by decide) (fun c_1 => ?_) (fun c_1 => ?_)
  · replace hf := (if_pos c_1).symm.trans hf
    refine lv_iconst (v := 1) hx hb d_Jb_isTimed_23 (by decide) ?_
    refine lv_goto (tgt := 28) hx hb d_Jb_isTimed_24 (by decide) ?_
    cases hf
    exact W.zret (v := (1 : Int32)) hx hb hr (by decide) (gx_F hI) hI.2.2.2 d_Jb_isTimed_28
  · replace hf := (if_neg c_1).symm.trans hf
    refine lv_aload_n hx hb d_Jb_isTimed_7 rfl (lv_at hl 0 rfl) ?_
    refine gx_getI G hI cl_Jb (gx_ci_j ho0) 10 (by decide) (gx_rf_j ho0 10) fl_Jb_43 d_Jb_isTimed_8 ?_
    refine lv_iconst (v := 3) hx hb d_Jb_isTimed_11 (by decide) ?_
    refine lv_icmp_eq (tgt := 23) hx hb d_Jb_isTimed_12 (by decide) (fun c_2 => ?_) (fun c_2 => ?_)
    · replace hf := (if_pos c_2).symm.trans hf
      refine lv_iconst (v := 1) hx hb d_Jb_isTimed_23 (by decide) ?_
      refine lv_goto (tgt := 28) hx hb d_Jb_isTimed_24 (by decide) ?_
      cases hf
      exact W.zret (v := (1 : Int32)) hx hb hr (by decide) (gx_F hI) hI.2.2.2 d_Jb_isTimed_28
    · replace hf := (if_neg c_2).symm.trans hf
      refine lv_aload_n hx hb d_Jb_isTimed_15 rfl (lv_at hl 0 rfl) ?_
      refine gx_getI G hI cl_Jb (gx_ci_j ho0) 10 (by decide) (gx_rf_j ho0 10) fl_Jb_43 d_Jb_isTimed_16 ?_
      refine lv_iconst (v := 2) hx hb d_Jb_isTimed_19 (by decide) ?_
      refine lv_icmp_ne (tgt := 27) hx hb d_Jb_isTimed_20 (by decide) (fun c_3 => ?_) (fun c_3 => ?_)
      · replace hf := (if_neg c_3).symm.trans hf
        refine lv_iconst (v := 0) hx hb d_Jb_isTimed_27 (by decide) ?_
        cases hf
        exact W.zret (v := (0 : Int32)) hx hb hr (by decide) (gx_F hI) hI.2.2.2 d_Jb_isTimed_28
      · replace hf := (if_pos c_3).symm.trans hf
        refine lv_iconst (v := 1) hx hb d_Jb_isTimed_23 (by decide) ?_
        refine lv_goto (tgt := 28) hx hb d_Jb_isTimed_24 (by decide) ?_
        cases hf
        exact W.zret (v := (1 : Int32)) hx hb hr (by decide) (gx_F hI) hI.2.2.2 d_Jb_isTimed_28
def fn_Jb_waitUntil (N : Nat) (o0 : Nat) (p0 : Int32) (p1 : Int32) (σ : gx_M) : Option gx_M := if 42 ≤ o0 ∧ o0 < 722 then (gx_lt (gx_up σ o0 10 p0) (fun σ_1 => gx_lt (gx_up σ_1 o0 11 p1) (fun σ_2 => some σ_2))) else none
set_option maxHeartbeats 4000000 in
set_option maxRecDepth 100000 in
theorem ct_Jb_waitUntil (l : Launch) (D : va_G) (dA : Nat → ClassId) (adr : Nat → Nat) (A : Nat → Prop) (hA : gx_A A adr) (N : Nat) (o0 : Nat) (p0 : Int32) (p1 : Int32) (σ : gx_M) (σ' : gx_M) (hf : fn_Jb_waitUntil N o0 p0 p1 σ = some σ') : Met l y_Jb_waitUntil w_Jb_waitUntil rm_Jb_waitUntil (gx_Pc D dA adr σ [.ref (adr o0), .int p0, .int p1]) (gx_Q D dA adr A none σ') 0 0 A := by
  refine Met.ofW (cc := b_Jb_waitUntil) (maxL := 3) (ret := none) (by decide) rfl ?_
  intro p e s m args below meth c s₁ B hml hv
  obtain ⟨rfl, hP, hK⟩ := hv
  have hx := B.exec
  have hb := B.bytes
  have hr := B.returns
  have hlocks := B.notSynchronized
  have ht : ∀ w ∈ gx_tb, w.before _ s = true := fun w h => atoms_spec (ws := w_Jb_waitUntil) B.pre w (List.mem_cons_of_mem _ h)
  have hown : s.vm.findClass R_Jb = some m.cls := findClass_of_methodNamed B.named
  have G : gx_G p m c b_Jb_waitUntil 3 s _ gx_tb R_Jb D dA := ⟨⟨hx, hb, hml, hown, ht⟩, hK⟩
  have hI : gx_I D dA adr A s.heap σ s.heap [] := ⟨hP, va_S.rf⟩
  have hl := lv_entry ([.ref (adr o0), .int p0, .int p1]) (n := 3) (Nat.le_of_ble_eq_true rfl)
  rw [lg_entry_eq]
  generalize (lg_sl ([.ref (adr o0), .int p0, .int p1]) ++ List.replicate (3 - (lg_sl ([.ref (adr o0), .int p0, .int p1])).length) Slot.unset).toArray = ls at hl ⊢
  have hl : lv_has ls 3 [(0, .ref (adr o0)), (1, .int p0), (2, .int p1)] := hl
  rw [fn_Jb_waitUntil] at hf
  obtain ⟨ho0, hf⟩ := gx_gd hf
  refine lv_aload_n hx hb d_Jb_waitUntil_0 rfl (lv_at hl 0 rfl) ?_
  refine lv_iload_n hx hb d_Jb_waitUntil_1 rfl (lv_at hl 1 rfl) ?_
  obtain ⟨σ_1, eσ_1, hf⟩ := gx_lte hf
  refine gx_put G hI hA cl_Jb (gx_ci_j ho0) 10 (by decide) (gx_rf_j ho0 10) fl_Jb_43 rfl rfl rfl eσ_1 d_Jb_waitUntil_2 (fun H locs hI => ?_)
  refine lv_aload_n hx hb d_Jb_waitUntil_5 rfl (lv_at hl 0 rfl) ?_
  refine lv_iload_n hx hb d_Jb_waitUntil_6 rfl (lv_at hl 2 rfl) ?_
  obtain ⟨σ_2, eσ_2, hf⟩ := gx_lte hf
  refine gx_put G hI hA cl_Jb (gx_ci_j ho0) 11 (by decide) (gx_rf_j ho0 11) fl_Jb_46 rfl rfl rfl eσ_2 d_Jb_waitUntil_7 (fun H locs hI => ?_)
  cases hf
  exact W.vret hx hb hr (gx_F hI) hI.2.2.2 d_Jb_waitUntil_10
def fn_Jb_retryDelay (N : Nat) (o0 : Nat) (σ : gx_M) : Option (Int32 × gx_M) := if 42 ≤ o0 ∧ o0 < 722 then (some (if ((σ o0 4) <<< (((σ o0 6) - ((1 : Int32))) &&& 31)) < ((500 : Int32)) then ((σ o0 4) <<< (((σ o0 6) - ((1 : Int32))) &&& 31)) else ((500 : Int32)), σ)) else none
set_option maxHeartbeats 4000000 in
set_option maxRecDepth 100000 in
theorem ct_Jb_retryDelay (l : Launch) (D : va_G) (dA : Nat → ClassId) (adr : Nat → Nat) (A : Nat → Prop) (hA : gx_A A adr) (N : Nat) (o0 : Nat) (σ : gx_M) (r : Int32) (σ' : gx_M) (hf : fn_Jb_retryDelay N o0 σ = some (r, σ')) : Met l y_Jb_retryDelay w_Jb_retryDelay rm_Jb_retryDelay (gx_Pc D dA adr σ [.ref (adr o0)]) (gx_Q D dA adr A (some (.int r)) σ') 0 0 A := by
  refine Met.ofW (cc := b_Jb_retryDelay) (maxL := 1) (ret := some .int) (by decide) rfl ?_
  intro p e s m args below meth c s₁ B hml hv
  obtain ⟨rfl, hP, hK⟩ := hv
  have hx := B.exec
  have hb := B.bytes
  have hr := B.returns
  have hlocks := B.notSynchronized
  have ht : ∀ w ∈ gx_tb, w.before _ s = true := fun w h => atoms_spec (ws := w_Jb_retryDelay) B.pre w (List.mem_cons_of_mem _ h)
  have hown : s.vm.findClass R_Jb = some m.cls := findClass_of_methodNamed B.named
  have G : gx_G p m c b_Jb_retryDelay 1 s _ gx_tb R_Jb D dA := ⟨⟨hx, hb, hml, hown, ht⟩, hK⟩
  have hI : gx_I D dA adr A s.heap σ s.heap [] := ⟨hP, va_S.rf⟩
  have hl := lv_entry ([.ref (adr o0)]) (n := 1) (Nat.le_of_ble_eq_true rfl)
  rw [lg_entry_eq]
  generalize (lg_sl ([.ref (adr o0)]) ++ List.replicate (1 - (lg_sl ([.ref (adr o0)])).length) Slot.unset).toArray = ls at hl ⊢
  have hl : lv_has ls 1 [(0, .ref (adr o0))] := hl
  rw [fn_Jb_retryDelay] at hf
  obtain ⟨ho0, hf⟩ := gx_gd hf
  refine lv_sipush (v := 500) hx hb d_Jb_retryDelay_0 (by decide) ?_
  refine lv_aload_n hx hb d_Jb_retryDelay_3 rfl (lv_at hl 0 rfl) ?_
  refine gx_getI G hI cl_Jb (gx_ci_j ho0) 4 (by decide) (gx_rf_j ho0 4) fl_Jb_24 d_Jb_retryDelay_4 ?_
  refine lv_aload_n hx hb d_Jb_retryDelay_7 rfl (lv_at hl 0 rfl) ?_
  refine gx_getI G hI cl_Jb (gx_ci_j ho0) 6 (by decide) (gx_rf_j ho0 6) fl_Jb_30 d_Jb_retryDelay_8 ?_
  refine lv_iconst (v := 1) hx hb d_Jb_retryDelay_11 (by decide) ?_
  refine lv_isub hx hb d_Jb_retryDelay_12 ?_
  refine lv_ishl hx hb d_Jb_retryDelay_13 ?_
  refine va_mmin hx hb (hml.trans hl.1.symm) hown (ht _ ml_Jb_55) (ht _ st_Math_min) (ht _ in_Math) (ht _ co_Math_min) (Nat.le_of_ble_eq_true rfl) (Nat.le_of_ble_eq_true rfl) (Nat.zero_le _) (Nat.zero_le _) d_Jb_retryDelay_14 ?_
  cases hf
  exact W.iret hx hb hr (gx_F hI) hI.2.2.2 d_Jb_retryDelay_17
def fn_Jb_standsBefore (N : Nat) (o0 : Nat) (q0 : Nat) (σ : gx_M) : Option (Int32 × gx_M) := if 42 ≤ o0 ∧ o0 < 722 then (if 42 ≤ q0 ∧ q0 < 722 then (if (σ q0 2) < (σ o0 2) then (some ((1 : Int32), σ)) else (if (σ o0 2) = (σ q0 2) then (if (σ q0 13) ≤ (σ o0 13) then (some ((0 : Int32), σ)) else (some ((1 : Int32), σ))) else (some ((0 : Int32), σ)))) else none) else none
set_option maxHeartbeats 4000000 in
set_option maxRecDepth 100000 in
theorem ct_Jb_standsBefore (l : Launch) (D : va_G) (dA : Nat → ClassId) (adr : Nat → Nat) (A : Nat → Prop) (hA : gx_A A adr) (N : Nat) (o0 : Nat) (q0 : Nat) (σ : gx_M) (r : Int32) (σ' : gx_M) (hf : fn_Jb_standsBefore N o0 q0 σ = some (r, σ')) : Met l y_Jb_standsBefore w_Jb_standsBefore rm_Jb_standsBefore (gx_Pc D dA adr σ [.ref (adr o0), .ref (adr q0)]) (gx_Q D dA adr A (some (.int r)) σ') 0 0 A := by
  refine Met.ofW (cc := b_Jb_standsBefore) (maxL := 2) (ret := some .boolean) (by decide) rfl ?_
  intro p e s m args below meth c s₁ B hml hv
  obtain ⟨rfl, hP, hK⟩ := hv
  have hx := B.exec
  have hb := B.bytes
  have hr := B.returns
  have hlocks := B.notSynchronized
  have ht : ∀ w ∈ gx_tb, w.before _ s = true := fun w h => atoms_spec (ws := w_Jb_standsBefore) B.pre w (List.mem_cons_of_mem _ h)
  have hown : s.vm.findClass R_Jb = some m.cls := findClass_of_methodNamed B.named
  have G : gx_G p m c b_Jb_standsBefore 2 s _ gx_tb R_Jb D dA := ⟨⟨hx, hb, hml, hown, ht⟩, hK⟩
  have hI : gx_I D dA adr A s.heap σ s.heap [] := ⟨hP, va_S.rf⟩
  have hl := lv_entry ([.ref (adr o0), .ref (adr q0)]) (n := 2) (Nat.le_of_ble_eq_true rfl)
  rw [lg_entry_eq]
  generalize (lg_sl ([.ref (adr o0), .ref (adr q0)]) ++ List.replicate (2 - (lg_sl ([.ref (adr o0), .ref (adr q0)])).length) Slot.unset).toArray = ls at hl ⊢
  have hl : lv_has ls 2 [(0, .ref (adr o0)), (1, .ref (adr q0))] := hl
  rw [fn_Jb_standsBefore] at hf
  obtain ⟨ho0, hf⟩ := gx_gd hf
  obtain ⟨hq0, hf⟩ := gx_gd hf
  refine lv_aload_n hx hb d_Jb_standsBefore_0 rfl (lv_at hl 0 rfl) ?_
  refine gx_getI G hI cl_Jb (gx_ci_j ho0) 2 (by decide) (gx_rf_j ho0 2) fl_Jb_18 d_Jb_standsBefore_1 ?_
  refine lv_aload_n hx hb d_Jb_standsBefore_4 rfl (lv_at hl 1 rfl) ?_
  refine gx_getI G hI cl_Jb (gx_ci_j hq0) 2 (by decide) (gx_rf_j hq0 2) fl_Jb_18 d_Jb_standsBefore_5 ?_
  refine lv_icmp_gt (tgt := 33) hx hb d_Jb_standsBefore_8 (by decide) (fun c_1 => ?_) (fun c_1 => ?_)
  · replace hf := (if_pos c_1).symm.trans hf
    refine lv_iconst (v := 1) hx hb d_Jb_standsBefore_33 (by decide) ?_
    refine lv_goto (tgt := 38) hx hb d_Jb_standsBefore_34 (by decide) ?_
    cases hf
    exact W.zret (v := (1 : Int32)) hx hb hr (by decide) (gx_F hI) hI.2.2.2 d_Jb_standsBefore_38
  · replace hf := (if_neg c_1).symm.trans hf
    refine lv_aload_n hx hb d_Jb_standsBefore_11 rfl (lv_at hl 0 rfl) ?_
    refine gx_getI G hI cl_Jb (gx_ci_j ho0) 2 (by decide) (gx_rf_j ho0 2) fl_Jb_18 d_Jb_standsBefore_12 ?_
    refine lv_aload_n hx hb d_Jb_standsBefore_15 rfl (lv_at hl 1 rfl) ?_
    refine gx_getI G hI cl_Jb (gx_ci_j hq0) 2 (by decide) (gx_rf_j hq0 2) fl_Jb_18 d_Jb_standsBefore_16 ?_
    refine lv_icmp_ne (tgt := 37) hx hb d_Jb_standsBefore_19 (by decide) (fun c_2 => ?_) (fun c_2 => ?_)
    · replace hf := (if_neg c_2).symm.trans hf
      refine lv_iconst (v := 0) hx hb d_Jb_standsBefore_37 (by decide) ?_
      cases hf
      exact W.zret (v := (0 : Int32)) hx hb hr (by decide) (gx_F hI) hI.2.2.2 d_Jb_standsBefore_38
    · replace hf := (if_pos c_2).symm.trans hf
      refine lv_aload_n hx hb d_Jb_standsBefore_22 rfl (lv_at hl 0 rfl) ?_
      refine gx_getI G hI cl_Jb (gx_ci_j ho0) 13 (by decide) (gx_rf_j ho0 13) fl_Jb_52 d_Jb_standsBefore_23 ?_
      refine lv_aload_n hx hb d_Jb_standsBefore_26 rfl (lv_at hl 1 rfl) ?_
      refine gx_getI G hI cl_Jb (gx_ci_j hq0) 13 (by decide) (gx_rf_j hq0 13) fl_Jb_52 d_Jb_standsBefore_27 ?_
      refine lv_icmp_ge (tgt := 37) hx hb d_Jb_standsBefore_30 (by decide) (fun c_3 => ?_) (fun c_3 => ?_)
      · replace hf := (if_pos c_3).symm.trans hf
        refine lv_iconst (v := 0) hx hb d_Jb_standsBefore_37 (by decide) ?_
        cases hf
        exact W.zret (v := (0 : Int32)) hx hb hr (by decide) (gx_F hI) hI.2.2.2 d_Jb_standsBefore_38
      · replace hf := (if_neg c_3).symm.trans hf
        refine lv_iconst (v := 1) hx hb d_Jb_standsBefore_33 (by decide) ?_
        refine lv_goto (tgt := 38) hx hb d_Jb_standsBefore_34 (by decide) ?_
        cases hf
        exact W.zret (v := (1 : Int32)) hx hb hr (by decide) (gx_F hI) hI.2.2.2 d_Jb_standsBefore_38
def fn_Jb_begin (N : Nat) (o0 : Nat) (p0 : Int32) (p1 : Int32) (σ : gx_M) : Option gx_M := if 42 ≤ o0 ∧ o0 < 722 then (gx_lt (gx_up σ o0 1 p0) (fun σ_1 => gx_lt (gx_up σ_1 o0 2 p1) (fun σ_2 => gx_lt (gx_up σ_2 o0 3 ((0 : Int32))) (fun σ_3 => gx_lt (gx_up σ_3 o0 4 ((1 : Int32))) (fun σ_4 => gx_lt (gx_up σ_4 o0 5 ((-1 : Int32))) (fun σ_5 => gx_lt (gx_up σ_5 o0 6 ((0 : Int32))) (fun σ_6 => gx_lt (gx_up σ_6 o0 7 ((-1 : Int32))) (fun σ_7 => gx_lt (gx_up σ_7 o0 8 ((0 : Int32))) (fun σ_8 => gx_lt (gx_up σ_8 o0 9 ((0 : Int32))) (fun σ_9 => gx_lt (gx_up σ_9 o0 10 ((6 : Int32))) (fun σ_10 => gx_lt (gx_up σ_10 o0 11 ((0 : Int32))) (fun σ_11 => gx_lt (gx_up σ_11 o0 12 ((0 : Int32))) (fun σ_12 => gx_lt (gx_up σ_12 o0 13 ((0 : Int32))) (fun σ_13 => some σ_13)))))))))))))) else none
set_option maxHeartbeats 4000000 in
set_option maxRecDepth 100000 in
theorem ct_Jb_begin (l : Launch) (D : va_G) (dA : Nat → ClassId) (adr : Nat → Nat) (A : Nat → Prop) (hA : gx_A A adr) (N : Nat) (o0 : Nat) (p0 : Int32) (p1 : Int32) (σ : gx_M) (σ' : gx_M) (hf : fn_Jb_begin N o0 p0 p1 σ = some σ') : Met l y_Jb_begin w_Jb_begin rm_Jb_begin (gx_Pc D dA adr σ [.ref (adr o0), .int p0, .int p1]) (gx_Q D dA adr A none σ') 0 0 A := by
  refine Met.ofW (cc := b_Jb_begin) (maxL := 3) (ret := none) (by decide) rfl ?_
  intro p e s m args below meth c s₁ B hml hv
  obtain ⟨rfl, hP, hK⟩ := hv
  have hx := B.exec
  have hb := B.bytes
  have hr := B.returns
  have hlocks := B.notSynchronized
  have ht : ∀ w ∈ gx_tb, w.before _ s = true := fun w h => atoms_spec (ws := w_Jb_begin) B.pre w (List.mem_cons_of_mem _ h)
  have hown : s.vm.findClass R_Jb = some m.cls := findClass_of_methodNamed B.named
  have G : gx_G p m c b_Jb_begin 3 s _ gx_tb R_Jb D dA := ⟨⟨hx, hb, hml, hown, ht⟩, hK⟩
  have hI : gx_I D dA adr A s.heap σ s.heap [] := ⟨hP, va_S.rf⟩
  have hl := lv_entry ([.ref (adr o0), .int p0, .int p1]) (n := 3) (Nat.le_of_ble_eq_true rfl)
  rw [lg_entry_eq]
  generalize (lg_sl ([.ref (adr o0), .int p0, .int p1]) ++ List.replicate (3 - (lg_sl ([.ref (adr o0), .int p0, .int p1])).length) Slot.unset).toArray = ls at hl ⊢
  have hl : lv_has ls 3 [(0, .ref (adr o0)), (1, .int p0), (2, .int p1)] := hl
  rw [fn_Jb_begin] at hf
  obtain ⟨ho0, hf⟩ := gx_gd hf
  refine lv_aload_n hx hb d_Jb_begin_0 rfl (lv_at hl 0 rfl) ?_
  refine lv_iload_n hx hb d_Jb_begin_1 rfl (lv_at hl 1 rfl) ?_
  obtain ⟨σ_1, eσ_1, hf⟩ := gx_lte hf
  refine gx_put G hI hA cl_Jb (gx_ci_j ho0) 1 (by decide) (gx_rf_j ho0 1) fl_Jb_15 rfl rfl rfl eσ_1 d_Jb_begin_2 (fun H locs hI => ?_)
  refine lv_aload_n hx hb d_Jb_begin_5 rfl (lv_at hl 0 rfl) ?_
  refine lv_iload_n hx hb d_Jb_begin_6 rfl (lv_at hl 2 rfl) ?_
  obtain ⟨σ_2, eσ_2, hf⟩ := gx_lte hf
  refine gx_put G hI hA cl_Jb (gx_ci_j ho0) 2 (by decide) (gx_rf_j ho0 2) fl_Jb_18 rfl rfl rfl eσ_2 d_Jb_begin_7 (fun H locs hI => ?_)
  refine lv_aload_n hx hb d_Jb_begin_10 rfl (lv_at hl 0 rfl) ?_
  refine lv_iconst (v := 0) hx hb d_Jb_begin_11 (by decide) ?_
  obtain ⟨σ_3, eσ_3, hf⟩ := gx_lte hf
  refine gx_put G hI hA cl_Jb (gx_ci_j ho0) 3 (by decide) (gx_rf_j ho0 3) fl_Jb_21 rfl rfl rfl eσ_3 d_Jb_begin_12 (fun H locs hI => ?_)
  refine lv_aload_n hx hb d_Jb_begin_15 rfl (lv_at hl 0 rfl) ?_
  refine lv_iconst (v := 1) hx hb d_Jb_begin_16 (by decide) ?_
  obtain ⟨σ_4, eσ_4, hf⟩ := gx_lte hf
  refine gx_put G hI hA cl_Jb (gx_ci_j ho0) 4 (by decide) (gx_rf_j ho0 4) fl_Jb_24 rfl rfl rfl eσ_4 d_Jb_begin_17 (fun H locs hI => ?_)
  refine lv_aload_n hx hb d_Jb_begin_20 rfl (lv_at hl 0 rfl) ?_
  refine lv_iconst (v := (-1)) hx hb d_Jb_begin_21 (by decide) ?_
  obtain ⟨σ_5, eσ_5, hf⟩ := gx_lte hf
  refine gx_put G hI hA cl_Jb (gx_ci_j ho0) 5 (by decide) (gx_rf_j ho0 5) fl_Jb_27 rfl rfl rfl eσ_5 d_Jb_begin_22 (fun H locs hI => ?_)
  refine lv_aload_n hx hb d_Jb_begin_25 rfl (lv_at hl 0 rfl) ?_
  refine lv_iconst (v := 0) hx hb d_Jb_begin_26 (by decide) ?_
  obtain ⟨σ_6, eσ_6, hf⟩ := gx_lte hf
  refine gx_put G hI hA cl_Jb (gx_ci_j ho0) 6 (by decide) (gx_rf_j ho0 6) fl_Jb_30 rfl rfl rfl eσ_6 d_Jb_begin_27 (fun H locs hI => ?_)
  refine lv_aload_n hx hb d_Jb_begin_30 rfl (lv_at hl 0 rfl) ?_
  refine lv_iconst (v := (-1)) hx hb d_Jb_begin_31 (by decide) ?_
  obtain ⟨σ_7, eσ_7, hf⟩ := gx_lte hf
  refine gx_put G hI hA cl_Jb (gx_ci_j ho0) 7 (by decide) (gx_rf_j ho0 7) fl_Jb_33 rfl rfl rfl eσ_7 d_Jb_begin_32 (fun H locs hI => ?_)
  refine lv_aload_n hx hb d_Jb_begin_35 rfl (lv_at hl 0 rfl) ?_
  refine lv_iconst (v := 0) hx hb d_Jb_begin_36 (by decide) ?_
  obtain ⟨σ_8, eσ_8, hf⟩ := gx_lte hf
  refine gx_put G hI hA cl_Jb (gx_ci_j ho0) 8 (by decide) (gx_rf_j ho0 8) fl_Jb_36 rfl rfl rfl eσ_8 d_Jb_begin_37 (fun H locs hI => ?_)
  refine lv_aload_n hx hb d_Jb_begin_40 rfl (lv_at hl 0 rfl) ?_
  refine lv_iconst (v := 0) hx hb d_Jb_begin_41 (by decide) ?_
  obtain ⟨σ_9, eσ_9, hf⟩ := gx_lte hf
  refine gx_put G hI hA cl_Jb (gx_ci_j ho0) 9 (by decide) (gx_rf_j ho0 9) fl_Jb_39 rfl (by decide) (by decide) eσ_9 d_Jb_begin_42 (fun H locs hI => ?_)
  refine lv_aload_n hx hb d_Jb_begin_45 rfl (lv_at hl 0 rfl) ?_
  refine lv_bipush (v := 6) hx hb d_Jb_begin_46 (by decide) ?_
  obtain ⟨σ_10, eσ_10, hf⟩ := gx_lte hf
  refine gx_put G hI hA cl_Jb (gx_ci_j ho0) 10 (by decide) (gx_rf_j ho0 10) fl_Jb_43 rfl rfl rfl eσ_10 d_Jb_begin_48 (fun H locs hI => ?_)
  refine lv_aload_n hx hb d_Jb_begin_51 rfl (lv_at hl 0 rfl) ?_
  refine lv_iconst (v := 0) hx hb d_Jb_begin_52 (by decide) ?_
  obtain ⟨σ_11, eσ_11, hf⟩ := gx_lte hf
  refine gx_put G hI hA cl_Jb (gx_ci_j ho0) 11 (by decide) (gx_rf_j ho0 11) fl_Jb_46 rfl rfl rfl eσ_11 d_Jb_begin_53 (fun H locs hI => ?_)
  refine lv_aload_n hx hb d_Jb_begin_56 rfl (lv_at hl 0 rfl) ?_
  refine lv_iconst (v := 0) hx hb d_Jb_begin_57 (by decide) ?_
  obtain ⟨σ_12, eσ_12, hf⟩ := gx_lte hf
  refine gx_put G hI hA cl_Jb (gx_ci_j ho0) 12 (by decide) (gx_rf_j ho0 12) fl_Jb_49 rfl rfl rfl eσ_12 d_Jb_begin_58 (fun H locs hI => ?_)
  refine lv_aload_n hx hb d_Jb_begin_61 rfl (lv_at hl 0 rfl) ?_
  refine lv_iconst (v := 0) hx hb d_Jb_begin_62 (by decide) ?_
  obtain ⟨σ_13, eσ_13, hf⟩ := gx_lte hf
  refine gx_put G hI hA cl_Jb (gx_ci_j ho0) 13 (by decide) (gx_rf_j ho0 13) fl_Jb_52 rfl rfl rfl eσ_13 d_Jb_begin_63 (fun H locs hI => ?_)
  cases hf
  exact W.vret hx hb hr (gx_F hI) hI.2.2.2 d_Jb_begin_66
def fn_Jb_copyFrom (N : Nat) (o0 : Nat) (q0 : Nat) (σ : gx_M) : Option gx_M := if 42 ≤ o0 ∧ o0 < 722 then (if 42 ≤ q0 ∧ q0 < 722 then (gx_lt (gx_up σ o0 1 (σ q0 1)) (fun σ_1 => gx_lt (gx_up σ_1 o0 2 (σ_1 q0 2)) (fun σ_2 => gx_lt (gx_up σ_2 o0 3 (σ_2 q0 3)) (fun σ_3 => gx_lt (gx_up σ_3 o0 4 (σ_3 q0 4)) (fun σ_4 => gx_lt (gx_up σ_4 o0 5 (σ_4 q0 5)) (fun σ_5 => gx_lt (gx_up σ_5 o0 6 (σ_5 q0 6)) (fun σ_6 => gx_lt (gx_up σ_6 o0 7 (σ_6 q0 7)) (fun σ_7 => gx_lt (gx_up σ_7 o0 8 (σ_7 q0 8)) (fun σ_8 => if (σ_8 q0 9) = 0 ∨ (σ_8 q0 9) = 1 then (gx_lt (gx_up σ_8 o0 9 (σ_8 q0 9)) (fun σ_9 => gx_lt (gx_up σ_9 o0 10 (σ_9 q0 10)) (fun σ_11 => gx_lt (gx_up σ_11 o0 11 (σ_11 q0 11)) (fun σ_12 => gx_lt (gx_up σ_12 o0 12 (σ_12 q0 12)) (fun σ_13 => gx_lt (gx_up σ_13 o0 13 (σ_13 q0 13)) (fun σ_14 => some σ_14)))))) else none))))))))) else none) else none
set_option maxHeartbeats 4000000 in
set_option maxRecDepth 100000 in
theorem ct_Jb_copyFrom (l : Launch) (D : va_G) (dA : Nat → ClassId) (adr : Nat → Nat) (A : Nat → Prop) (hA : gx_A A adr) (N : Nat) (o0 : Nat) (q0 : Nat) (σ : gx_M) (σ' : gx_M) (hf : fn_Jb_copyFrom N o0 q0 σ = some σ') : Met l y_Jb_copyFrom w_Jb_copyFrom rm_Jb_copyFrom (gx_Pc D dA adr σ [.ref (adr o0), .ref (adr q0)]) (gx_Q D dA adr A none σ') 0 0 A := by
  refine Met.ofW (cc := b_Jb_copyFrom) (maxL := 2) (ret := none) (by decide) rfl ?_
  intro p e s m args below meth c s₁ B hml hv
  obtain ⟨rfl, hP, hK⟩ := hv
  have hx := B.exec
  have hb := B.bytes
  have hr := B.returns
  have hlocks := B.notSynchronized
  have ht : ∀ w ∈ gx_tb, w.before _ s = true := fun w h => atoms_spec (ws := w_Jb_copyFrom) B.pre w (List.mem_cons_of_mem _ h)
  have hown : s.vm.findClass R_Jb = some m.cls := findClass_of_methodNamed B.named
  have G : gx_G p m c b_Jb_copyFrom 2 s _ gx_tb R_Jb D dA := ⟨⟨hx, hb, hml, hown, ht⟩, hK⟩
  have hI : gx_I D dA adr A s.heap σ s.heap [] := ⟨hP, va_S.rf⟩
  have hl := lv_entry ([.ref (adr o0), .ref (adr q0)]) (n := 2) (Nat.le_of_ble_eq_true rfl)
  rw [lg_entry_eq]
  generalize (lg_sl ([.ref (adr o0), .ref (adr q0)]) ++ List.replicate (2 - (lg_sl ([.ref (adr o0), .ref (adr q0)])).length) Slot.unset).toArray = ls at hl ⊢
  have hl : lv_has ls 2 [(0, .ref (adr o0)), (1, .ref (adr q0))] := hl
  rw [fn_Jb_copyFrom] at hf
  obtain ⟨ho0, hf⟩ := gx_gd hf
  obtain ⟨hq0, hf⟩ := gx_gd hf
  refine lv_aload_n hx hb d_Jb_copyFrom_0 rfl (lv_at hl 0 rfl) ?_
  refine lv_aload_n hx hb d_Jb_copyFrom_1 rfl (lv_at hl 1 rfl) ?_
  refine gx_getI G hI cl_Jb (gx_ci_j hq0) 1 (by decide) (gx_rf_j hq0 1) fl_Jb_15 d_Jb_copyFrom_2 ?_
  obtain ⟨σ_1, eσ_1, hf⟩ := gx_lte hf
  refine gx_put G hI hA cl_Jb (gx_ci_j ho0) 1 (by decide) (gx_rf_j ho0 1) fl_Jb_15 rfl rfl rfl eσ_1 d_Jb_copyFrom_5 (fun H locs hI => ?_)
  refine lv_aload_n hx hb d_Jb_copyFrom_8 rfl (lv_at hl 0 rfl) ?_
  refine lv_aload_n hx hb d_Jb_copyFrom_9 rfl (lv_at hl 1 rfl) ?_
  refine gx_getI G hI cl_Jb (gx_ci_j hq0) 2 (by decide) (gx_rf_j hq0 2) fl_Jb_18 d_Jb_copyFrom_10 ?_
  obtain ⟨σ_2, eσ_2, hf⟩ := gx_lte hf
  refine gx_put G hI hA cl_Jb (gx_ci_j ho0) 2 (by decide) (gx_rf_j ho0 2) fl_Jb_18 rfl rfl rfl eσ_2 d_Jb_copyFrom_13 (fun H locs hI => ?_)
  refine lv_aload_n hx hb d_Jb_copyFrom_16 rfl (lv_at hl 0 rfl) ?_
  refine lv_aload_n hx hb d_Jb_copyFrom_17 rfl (lv_at hl 1 rfl) ?_
  refine gx_getI G hI cl_Jb (gx_ci_j hq0) 3 (by decide) (gx_rf_j hq0 3) fl_Jb_21 d_Jb_copyFrom_18 ?_
  obtain ⟨σ_3, eσ_3, hf⟩ := gx_lte hf
  refine gx_put G hI hA cl_Jb (gx_ci_j ho0) 3 (by decide) (gx_rf_j ho0 3) fl_Jb_21 rfl rfl rfl eσ_3 d_Jb_copyFrom_21 (fun H locs hI => ?_)
  refine lv_aload_n hx hb d_Jb_copyFrom_24 rfl (lv_at hl 0 rfl) ?_
  refine lv_aload_n hx hb d_Jb_copyFrom_25 rfl (lv_at hl 1 rfl) ?_
  refine gx_getI G hI cl_Jb (gx_ci_j hq0) 4 (by decide) (gx_rf_j hq0 4) fl_Jb_24 d_Jb_copyFrom_26 ?_
  obtain ⟨σ_4, eσ_4, hf⟩ := gx_lte hf
  refine gx_put G hI hA cl_Jb (gx_ci_j ho0) 4 (by decide) (gx_rf_j ho0 4) fl_Jb_24 rfl rfl rfl eσ_4 d_Jb_copyFrom_29 (fun H locs hI => ?_)
  refine lv_aload_n hx hb d_Jb_copyFrom_32 rfl (lv_at hl 0 rfl) ?_
  refine lv_aload_n hx hb d_Jb_copyFrom_33 rfl (lv_at hl 1 rfl) ?_
  refine gx_getI G hI cl_Jb (gx_ci_j hq0) 5 (by decide) (gx_rf_j hq0 5) fl_Jb_27 d_Jb_copyFrom_34 ?_
  obtain ⟨σ_5, eσ_5, hf⟩ := gx_lte hf
  refine gx_put G hI hA cl_Jb (gx_ci_j ho0) 5 (by decide) (gx_rf_j ho0 5) fl_Jb_27 rfl rfl rfl eσ_5 d_Jb_copyFrom_37 (fun H locs hI => ?_)
  refine lv_aload_n hx hb d_Jb_copyFrom_40 rfl (lv_at hl 0 rfl) ?_
  refine lv_aload_n hx hb d_Jb_copyFrom_41 rfl (lv_at hl 1 rfl) ?_
  refine gx_getI G hI cl_Jb (gx_ci_j hq0) 6 (by decide) (gx_rf_j hq0 6) fl_Jb_30 d_Jb_copyFrom_42 ?_
  obtain ⟨σ_6, eσ_6, hf⟩ := gx_lte hf
  refine gx_put G hI hA cl_Jb (gx_ci_j ho0) 6 (by decide) (gx_rf_j ho0 6) fl_Jb_30 rfl rfl rfl eσ_6 d_Jb_copyFrom_45 (fun H locs hI => ?_)
  refine lv_aload_n hx hb d_Jb_copyFrom_48 rfl (lv_at hl 0 rfl) ?_
  refine lv_aload_n hx hb d_Jb_copyFrom_49 rfl (lv_at hl 1 rfl) ?_
  refine gx_getI G hI cl_Jb (gx_ci_j hq0) 7 (by decide) (gx_rf_j hq0 7) fl_Jb_33 d_Jb_copyFrom_50 ?_
  obtain ⟨σ_7, eσ_7, hf⟩ := gx_lte hf
  refine gx_put G hI hA cl_Jb (gx_ci_j ho0) 7 (by decide) (gx_rf_j ho0 7) fl_Jb_33 rfl rfl rfl eσ_7 d_Jb_copyFrom_53 (fun H locs hI => ?_)
  refine lv_aload_n hx hb d_Jb_copyFrom_56 rfl (lv_at hl 0 rfl) ?_
  refine lv_aload_n hx hb d_Jb_copyFrom_57 rfl (lv_at hl 1 rfl) ?_
  refine gx_getI G hI cl_Jb (gx_ci_j hq0) 8 (by decide) (gx_rf_j hq0 8) fl_Jb_36 d_Jb_copyFrom_58 ?_
  obtain ⟨σ_8, eσ_8, hf⟩ := gx_lte hf
  refine gx_put G hI hA cl_Jb (gx_ci_j ho0) 8 (by decide) (gx_rf_j ho0 8) fl_Jb_36 rfl rfl rfl eσ_8 d_Jb_copyFrom_61 (fun H locs hI => ?_)
  refine lv_aload_n hx hb d_Jb_copyFrom_64 rfl (lv_at hl 0 rfl) ?_
  refine lv_aload_n hx hb d_Jb_copyFrom_65 rfl (lv_at hl 1 rfl) ?_
  refine gx_getI G hI cl_Jb (gx_ci_j hq0) 9 (by decide) (gx_rf_j hq0 9) fl_Jb_39 d_Jb_copyFrom_66 ?_
  obtain ⟨hb_10, hf⟩ := gx_gd hf
  obtain ⟨σ_9, eσ_9, hf⟩ := gx_lte hf
  refine gx_put G hI hA cl_Jb (gx_ci_j ho0) 9 (by decide) (gx_rf_j ho0 9) fl_Jb_39 rfl (gx_nb hb_10) (gx_fb hb_10) eσ_9 d_Jb_copyFrom_69 (fun H locs hI => ?_)
  refine lv_aload_n hx hb d_Jb_copyFrom_72 rfl (lv_at hl 0 rfl) ?_
  refine lv_aload_n hx hb d_Jb_copyFrom_73 rfl (lv_at hl 1 rfl) ?_
  refine gx_getI G hI cl_Jb (gx_ci_j hq0) 10 (by decide) (gx_rf_j hq0 10) fl_Jb_43 d_Jb_copyFrom_74 ?_
  obtain ⟨σ_11, eσ_11, hf⟩ := gx_lte hf
  refine gx_put G hI hA cl_Jb (gx_ci_j ho0) 10 (by decide) (gx_rf_j ho0 10) fl_Jb_43 rfl rfl rfl eσ_11 d_Jb_copyFrom_77 (fun H locs hI => ?_)
  refine lv_aload_n hx hb d_Jb_copyFrom_80 rfl (lv_at hl 0 rfl) ?_
  refine lv_aload_n hx hb d_Jb_copyFrom_81 rfl (lv_at hl 1 rfl) ?_
  refine gx_getI G hI cl_Jb (gx_ci_j hq0) 11 (by decide) (gx_rf_j hq0 11) fl_Jb_46 d_Jb_copyFrom_82 ?_
  obtain ⟨σ_12, eσ_12, hf⟩ := gx_lte hf
  refine gx_put G hI hA cl_Jb (gx_ci_j ho0) 11 (by decide) (gx_rf_j ho0 11) fl_Jb_46 rfl rfl rfl eσ_12 d_Jb_copyFrom_85 (fun H locs hI => ?_)
  refine lv_aload_n hx hb d_Jb_copyFrom_88 rfl (lv_at hl 0 rfl) ?_
  refine lv_aload_n hx hb d_Jb_copyFrom_89 rfl (lv_at hl 1 rfl) ?_
  refine gx_getI G hI cl_Jb (gx_ci_j hq0) 12 (by decide) (gx_rf_j hq0 12) fl_Jb_49 d_Jb_copyFrom_90 ?_
  obtain ⟨σ_13, eσ_13, hf⟩ := gx_lte hf
  refine gx_put G hI hA cl_Jb (gx_ci_j ho0) 12 (by decide) (gx_rf_j ho0 12) fl_Jb_49 rfl rfl rfl eσ_13 d_Jb_copyFrom_93 (fun H locs hI => ?_)
  refine lv_aload_n hx hb d_Jb_copyFrom_96 rfl (lv_at hl 0 rfl) ?_
  refine lv_aload_n hx hb d_Jb_copyFrom_97 rfl (lv_at hl 1 rfl) ?_
  refine gx_getI G hI cl_Jb (gx_ci_j hq0) 13 (by decide) (gx_rf_j hq0 13) fl_Jb_52 d_Jb_copyFrom_98 ?_
  obtain ⟨σ_14, eσ_14, hf⟩ := gx_lte hf
  refine gx_put G hI hA cl_Jb (gx_ci_j ho0) 13 (by decide) (gx_rf_j ho0 13) fl_Jb_52 rfl rfl rfl eσ_14 d_Jb_copyFrom_101 (fun H locs hI => ?_)
  cases hf
  exact W.vret hx hb hr (gx_F hI) hI.2.2.2 d_Jb_copyFrom_104

theorem d_Qu_restart_0 : decode b_Qu_restart 0 = .ok (.aload_n 0, 1) := by decide +kernel
theorem d_Qu_restart_1 : decode b_Qu_restart 1 = .ok (.iconst 0, 1) := by decide +kernel
theorem d_Qu_restart_2 : decode b_Qu_restart 2 = .ok (.putfield 25, 3) := by decide +kernel
theorem d_Qu_restart_5 : decode b_Qu_restart 5 = .ok (.aload_n 0, 1) := by decide +kernel
theorem d_Qu_restart_6 : decode b_Qu_restart 6 = .ok (.aload_n 0, 1) := by decide +kernel
theorem d_Qu_restart_7 : decode b_Qu_restart 7 = .ok (.getfield 16, 3) := by decide +kernel
theorem d_Qu_restart_10 : decode b_Qu_restart 10 = .ok (.putfield 28, 3) := by decide +kernel
theorem d_Qu_restart_13 : decode b_Qu_restart 13 = .ok (.return_, 1) := by decide +kernel
theorem d_Qu_set_0 : decode b_Qu_set 0 = .ok (.aload_n 0, 1) := by decide +kernel
theorem d_Qu_set_1 : decode b_Qu_set 1 = .ok (.iload_n 1, 1) := by decide +kernel
theorem d_Qu_set_2 : decode b_Qu_set 2 = .ok (.putfield 7, 3) := by decide +kernel
theorem d_Qu_set_5 : decode b_Qu_set 5 = .ok (.aload_n 0, 1) := by decide +kernel
theorem d_Qu_set_6 : decode b_Qu_set 6 = .ok (.iload_n 2, 1) := by decide +kernel
theorem d_Qu_set_7 : decode b_Qu_set 7 = .ok (.putfield 16, 3) := by decide +kernel
theorem d_Qu_set_10 : decode b_Qu_set 10 = .ok (.aload_n 0, 1) := by decide +kernel
theorem d_Qu_set_11 : decode b_Qu_set 11 = .ok (.iload_n 3, 1) := by decide +kernel
theorem d_Qu_set_12 : decode b_Qu_set 12 = .ok (.putfield 13, 3) := by decide +kernel
theorem d_Qu_set_15 : decode b_Qu_set 15 = .ok (.aload_n 0, 1) := by decide +kernel
theorem d_Qu_set_16 : decode b_Qu_set 16 = .ok (.iload 4, 2) := by decide +kernel
theorem d_Qu_set_18 : decode b_Qu_set 18 = .ok (.putfield 19, 3) := by decide +kernel
theorem d_Qu_set_21 : decode b_Qu_set 21 = .ok (.aload_n 0, 1) := by decide +kernel
theorem d_Qu_set_22 : decode b_Qu_set 22 = .ok (.invokevirtual 22, 3) := by decide +kernel
theorem d_Qu_set_25 : decode b_Qu_set 25 = .ok (.return_, 1) := by decide +kernel
theorem d_Qu_canGive_0 : decode b_Qu_canGive 0 = .ok (.aload_n 0, 1) := by decide +kernel
theorem d_Qu_canGive_1 : decode b_Qu_canGive 1 = .ok (.getfield 7, 3) := by decide +kernel
theorem d_Qu_canGive_4 : decode b_Qu_canGive 4 = .ok (.ifCond .eq 21, 3) := by decide +kernel
theorem d_Qu_canGive_7 : decode b_Qu_canGive 7 = .ok (.aload_n 0, 1) := by decide +kernel
theorem d_Qu_canGive_8 : decode b_Qu_canGive 8 = .ok (.getfield 16, 3) := by decide +kernel
theorem d_Qu_canGive_11 : decode b_Qu_canGive 11 = .ok (.ifCond .eq 10, 3) := by decide +kernel
theorem d_Qu_canGive_14 : decode b_Qu_canGive 14 = .ok (.aload_n 0, 1) := by decide +kernel
theorem d_Qu_canGive_15 : decode b_Qu_canGive 15 = .ok (.getfield 28, 3) := by decide +kernel
theorem d_Qu_canGive_18 : decode b_Qu_canGive 18 = .ok (.ifCond .le 7, 3) := by decide +kernel
theorem d_Qu_canGive_21 : decode b_Qu_canGive 21 = .ok (.iconst 1, 1) := by decide +kernel
theorem d_Qu_canGive_22 : decode b_Qu_canGive 22 = .ok (.goto 4, 3) := by decide +kernel
theorem d_Qu_canGive_25 : decode b_Qu_canGive 25 = .ok (.iconst 0, 1) := by decide +kernel
theorem d_Qu_canGive_26 : decode b_Qu_canGive 26 = .ok (.ireturn, 1) := by decide +kernel
theorem d_Qu_spendToken_0 : decode b_Qu_spendToken 0 = .ok (.aload_n 0, 1) := by decide +kernel
theorem d_Qu_spendToken_1 : decode b_Qu_spendToken 1 = .ok (.getfield 16, 3) := by decide +kernel
theorem d_Qu_spendToken_4 : decode b_Qu_spendToken 4 = .ok (.ifCond .le 13, 3) := by decide +kernel
theorem d_Qu_spendToken_7 : decode b_Qu_spendToken 7 = .ok (.aload_n 0, 1) := by decide +kernel
theorem d_Qu_spendToken_8 : decode b_Qu_spendToken 8 = .ok (.dup, 1) := by decide +kernel
theorem d_Qu_spendToken_9 : decode b_Qu_spendToken 9 = .ok (.getfield 28, 3) := by decide +kernel
theorem d_Qu_spendToken_12 : decode b_Qu_spendToken 12 = .ok (.iconst 1, 1) := by decide +kernel
theorem d_Qu_spendToken_13 : decode b_Qu_spendToken 13 = .ok (.isub, 1) := by decide +kernel
theorem d_Qu_spendToken_14 : decode b_Qu_spendToken 14 = .ok (.putfield 28, 3) := by decide +kernel
theorem d_Qu_spendToken_17 : decode b_Qu_spendToken 17 = .ok (.return_, 1) := by decide +kernel
theorem d_Qu_refillBetween_0 : decode b_Qu_refillBetween 0 = .ok (.iload_n 2, 1) := by decide +kernel
theorem d_Qu_refillBetween_1 : decode b_Qu_refillBetween 1 = .ok (.aload_n 0, 1) := by decide +kernel
theorem d_Qu_refillBetween_2 : decode b_Qu_refillBetween 2 = .ok (.getfield 19, 3) := by decide +kernel
theorem d_Qu_refillBetween_5 : decode b_Qu_refillBetween 5 = .ok (.isub, 1) := by decide +kernel
theorem d_Qu_refillBetween_6 : decode b_Qu_refillBetween 6 = .ok (.aload_n 0, 1) := by decide +kernel
theorem d_Qu_refillBetween_7 : decode b_Qu_refillBetween 7 = .ok (.getfield 13, 3) := by decide +kernel
theorem d_Qu_refillBetween_10 : decode b_Qu_refillBetween 10 = .ok (.idiv, 1) := by decide +kernel
theorem d_Qu_refillBetween_11 : decode b_Qu_refillBetween 11 = .ok (.iload_n 1, 1) := by decide +kernel
theorem d_Qu_refillBetween_12 : decode b_Qu_refillBetween 12 = .ok (.aload_n 0, 1) := by decide +kernel
theorem d_Qu_refillBetween_13 : decode b_Qu_refillBetween 13 = .ok (.getfield 19, 3) := by decide +kernel
theorem d_Qu_refillBetween_16 : decode b_Qu_refillBetween 16 = .ok (.isub, 1) := by decide +kernel
theorem d_Qu_refillBetween_17 : decode b_Qu_refillBetween 17 = .ok (.aload_n 0, 1) := by decide +kernel
theorem d_Qu_refillBetween_18 : decode b_Qu_refillBetween 18 = .ok (.getfield 13, 3) := by decide +kernel
theorem d_Qu_refillBetween_21 : decode b_Qu_refillBetween 21 = .ok (.idiv, 1) := by decide +kernel
theorem d_Qu_refillBetween_22 : decode b_Qu_refillBetween 22 = .ok (.isub, 1) := by decide +kernel
theorem d_Qu_refillBetween_23 : decode b_Qu_refillBetween 23 = .ok (.istore_n 3, 1) := by decide +kernel
theorem d_Qu_refillBetween_24 : decode b_Qu_refillBetween 24 = .ok (.aload_n 0, 1) := by decide +kernel
theorem d_Qu_refillBetween_25 : decode b_Qu_refillBetween 25 = .ok (.aload_n 0, 1) := by decide +kernel
theorem d_Qu_refillBetween_26 : decode b_Qu_refillBetween 26 = .ok (.getfield 16, 3) := by decide +kernel
theorem d_Qu_refillBetween_29 : decode b_Qu_refillBetween 29 = .ok (.aload_n 0, 1) := by decide +kernel
theorem d_Qu_refillBetween_30 : decode b_Qu_refillBetween 30 = .ok (.getfield 28, 3) := by decide +kernel
theorem d_Qu_refillBetween_33 : decode b_Qu_refillBetween 33 = .ok (.iload_n 3, 1) := by decide +kernel
theorem d_Qu_refillBetween_34 : decode b_Qu_refillBetween 34 = .ok (.iadd, 1) := by decide +kernel
theorem d_Qu_refillBetween_35 : decode b_Qu_refillBetween 35 = .ok (.invokestatic 31, 3) := by decide +kernel
theorem d_Qu_refillBetween_38 : decode b_Qu_refillBetween 38 = .ok (.putfield 28, 3) := by decide +kernel
theorem d_Qu_refillBetween_41 : decode b_Qu_refillBetween 41 = .ok (.return_, 1) := by decide +kernel
def fn_Qu_restart (N : Nat) (o0 : Nat) (σ : gx_M) : Option gx_M := if 2 ≤ o0 ∧ o0 < 6 then (gx_lt (gx_up σ o0 1 ((0 : Int32))) (fun σ_1 => gx_lt (gx_up σ_1 o0 3 (σ_1 o0 2)) (fun σ_2 => some σ_2))) else none
set_option maxHeartbeats 4000000 in
set_option maxRecDepth 100000 in
theorem ct_Qu_restart (l : Launch) (D : va_G) (dA : Nat → ClassId) (adr : Nat → Nat) (A : Nat → Prop) (hA : gx_A A adr) (N : Nat) (o0 : Nat) (σ : gx_M) (σ' : gx_M) (hf : fn_Qu_restart N o0 σ = some σ') : Met l y_Qu_restart w_Qu_restart rm_Qu_restart (gx_Pc D dA adr σ [.ref (adr o0)]) (gx_Q D dA adr A none σ') 0 0 A := by
  refine Met.ofW (cc := b_Qu_restart) (maxL := 1) (ret := none) (by decide) rfl ?_
  intro p e s m args below meth c s₁ B hml hv
  obtain ⟨rfl, hP, hK⟩ := hv
  have hx := B.exec
  have hb := B.bytes
  have hr := B.returns
  have hlocks := B.notSynchronized
  have ht : ∀ w ∈ gx_tb, w.before _ s = true := fun w h => atoms_spec (ws := w_Qu_restart) B.pre w (List.mem_cons_of_mem _ h)
  have hown : s.vm.findClass R_Qu = some m.cls := findClass_of_methodNamed B.named
  have G : gx_G p m c b_Qu_restart 1 s _ gx_tb R_Qu D dA := ⟨⟨hx, hb, hml, hown, ht⟩, hK⟩
  have hI : gx_I D dA adr A s.heap σ s.heap [] := ⟨hP, va_S.rf⟩
  have hl := lv_entry ([.ref (adr o0)]) (n := 1) (Nat.le_of_ble_eq_true rfl)
  rw [lg_entry_eq]
  generalize (lg_sl ([.ref (adr o0)]) ++ List.replicate (1 - (lg_sl ([.ref (adr o0)])).length) Slot.unset).toArray = ls at hl ⊢
  have hl : lv_has ls 1 [(0, .ref (adr o0))] := hl
  rw [fn_Qu_restart] at hf
  obtain ⟨ho0, hf⟩ := gx_gd hf
  refine lv_aload_n hx hb d_Qu_restart_0 rfl (lv_at hl 0 rfl) ?_
  refine lv_iconst (v := 0) hx hb d_Qu_restart_1 (by decide) ?_
  obtain ⟨σ_1, eσ_1, hf⟩ := gx_lte hf
  refine gx_put G hI hA cl_Qu (gx_ci_q ho0) 1 (by decide) (gx_rf_q ho0 1) fl_Qu_25 rfl rfl rfl eσ_1 d_Qu_restart_2 (fun H locs hI => ?_)
  refine lv_aload_n hx hb d_Qu_restart_5 rfl (lv_at hl 0 rfl) ?_
  refine lv_aload_n hx hb d_Qu_restart_6 rfl (lv_at hl 0 rfl) ?_
  refine gx_getI G hI cl_Qu (gx_ci_q ho0) 2 (by decide) (gx_rf_q ho0 2) fl_Qu_16 d_Qu_restart_7 ?_
  obtain ⟨σ_2, eσ_2, hf⟩ := gx_lte hf
  refine gx_put G hI hA cl_Qu (gx_ci_q ho0) 3 (by decide) (gx_rf_q ho0 3) fl_Qu_28 rfl rfl rfl eσ_2 d_Qu_restart_10 (fun H locs hI => ?_)
  cases hf
  exact W.vret hx hb hr (gx_F hI) hI.2.2.2 d_Qu_restart_13
def fn_Qu_set (N : Nat) (o0 : Nat) (p0 : Int32) (p1 : Int32) (p2 : Int32) (p3 : Int32) (σ : gx_M) : Option gx_M := if 2 ≤ o0 ∧ o0 < 6 then (gx_lt (gx_up σ o0 0 p0) (fun σ_1 => gx_lt (gx_up σ_1 o0 2 p1) (fun σ_2 => gx_lt (gx_up σ_2 o0 4 p2) (fun σ_3 => gx_lt (gx_up σ_3 o0 5 p3) (fun σ_4 => gx_bv (fn_Qu_restart N o0 σ_4) (fun σ_5 => some σ_5)))))) else none
set_option maxHeartbeats 4000000 in
set_option maxRecDepth 100000 in
theorem ct_Qu_set (l : Launch) (D : va_G) (dA : Nat → ClassId) (adr : Nat → Nat) (A : Nat → Prop) (hA : gx_A A adr) (N : Nat) (o0 : Nat) (p0 : Int32) (p1 : Int32) (p2 : Int32) (p3 : Int32) (σ : gx_M) (σ' : gx_M) (hf : fn_Qu_set N o0 p0 p1 p2 p3 σ = some σ') : Met l y_Qu_set w_Qu_set rm_Qu_set (gx_Pc D dA adr σ [.ref (adr o0), .int p0, .int p1, .int p2, .int p3]) (gx_Q D dA adr A none σ') 0 0 A := by
  refine Met.ofW (cc := b_Qu_set) (maxL := 5) (ret := none) (by decide) rfl ?_
  intro p e s m args below meth c s₁ B hml hv
  obtain ⟨rfl, hP, hK⟩ := hv
  have hx := B.exec
  have hb := B.bytes
  have hr := B.returns
  have hlocks := B.notSynchronized
  have ht : ∀ w ∈ gx_tb, w.before _ s = true := fun w h => atoms_spec (ws := w_Qu_set) B.pre w (List.mem_cons_of_mem _ h)
  have hown : s.vm.findClass R_Qu = some m.cls := findClass_of_methodNamed B.named
  have G : gx_G p m c b_Qu_set 5 s _ gx_tb R_Qu D dA := ⟨⟨hx, hb, hml, hown, ht⟩, hK⟩
  have hI : gx_I D dA adr A s.heap σ s.heap [] := ⟨hP, va_S.rf⟩
  have hl := lv_entry ([.ref (adr o0), .int p0, .int p1, .int p2, .int p3]) (n := 5) (Nat.le_of_ble_eq_true rfl)
  rw [lg_entry_eq]
  generalize (lg_sl ([.ref (adr o0), .int p0, .int p1, .int p2, .int p3]) ++ List.replicate (5 - (lg_sl ([.ref (adr o0), .int p0, .int p1, .int p2, .int p3])).length) Slot.unset).toArray = ls at hl ⊢
  have hl : lv_has ls 5 [(0, .ref (adr o0)), (1, .int p0), (2, .int p1), (3, .int p2), (4, .int p3)] := hl
  rw [fn_Qu_set] at hf
  obtain ⟨ho0, hf⟩ := gx_gd hf
  refine lv_aload_n hx hb d_Qu_set_0 rfl (lv_at hl 0 rfl) ?_
  refine lv_iload_n hx hb d_Qu_set_1 rfl (lv_at hl 1 rfl) ?_
  obtain ⟨σ_1, eσ_1, hf⟩ := gx_lte hf
  refine gx_put G hI hA cl_Qu (gx_ci_q ho0) 0 (by decide) (gx_rf_q ho0 0) fl_Qu_7 rfl rfl rfl eσ_1 d_Qu_set_2 (fun H locs hI => ?_)
  refine lv_aload_n hx hb d_Qu_set_5 rfl (lv_at hl 0 rfl) ?_
  refine lv_iload_n hx hb d_Qu_set_6 rfl (lv_at hl 2 rfl) ?_
  obtain ⟨σ_2, eσ_2, hf⟩ := gx_lte hf
  refine gx_put G hI hA cl_Qu (gx_ci_q ho0) 2 (by decide) (gx_rf_q ho0 2) fl_Qu_16 rfl rfl rfl eσ_2 d_Qu_set_7 (fun H locs hI => ?_)
  refine lv_aload_n hx hb d_Qu_set_10 rfl (lv_at hl 0 rfl) ?_
  refine lv_iload_n hx hb d_Qu_set_11 rfl (lv_at hl 3 rfl) ?_
  obtain ⟨σ_3, eσ_3, hf⟩ := gx_lte hf
  refine gx_put G hI hA cl_Qu (gx_ci_q ho0) 4 (by decide) (gx_rf_q ho0 4) fl_Qu_13 rfl rfl rfl eσ_3 d_Qu_set_12 (fun H locs hI => ?_)
  refine lv_aload_n hx hb d_Qu_set_15 rfl (lv_at hl 0 rfl) ?_
  refine lv_iload hx hb d_Qu_set_16 (lv_at hl 4 rfl) ?_
  obtain ⟨σ_4, eσ_4, hf⟩ := gx_lte hf
  refine gx_put G hI hA cl_Qu (gx_ci_q ho0) 5 (by decide) (gx_rf_q ho0 5) fl_Qu_19 rfl rfl rfl eσ_4 d_Qu_set_18 (fun H locs hI => ?_)
  refine lv_aload_n hx hb d_Qu_set_21 rfl (lv_at hl 0 rfl) ?_
  obtain ⟨σ_5, hc_6, hf⟩ := gx_bve hf
  refine gx_go (va_runV (As := []) (rest := []) G.1 (ct_Qu_restart l D dA adr A hA N o0 σ_4 σ_5 hc_6) (cwV 0 ht gi_Qu_22 rfl rfl rfl (by decide +kernel) ⟨Nat.le_of_ble_eq_true rfl, Nat.le_of_ble_eq_true rfl⟩) (gx_preV G hI cl_Qu (gx_ci_q ho0)) rfl rfl hl.1 rfl (lv_room (Nat.le_of_ble_eq_true rfl)) d_Qu_set_22 ⟨Nat.zero_le _, Nat.zero_le _⟩) hI (st1 := []) rfl (fun H locs hI => ?_)
  cases hf
  exact W.vret hx hb hr (gx_F hI) hI.2.2.2 d_Qu_set_25
def fn_Qu_canGive (N : Nat) (o0 : Nat) (σ : gx_M) : Option (Int32 × gx_M) := if 2 ≤ o0 ∧ o0 < 6 then (if (σ o0 0) = 0 then (some ((0 : Int32), σ)) else (if (σ o0 2) = 0 then (some ((1 : Int32), σ)) else (if (σ o0 3) ≤ 0 then (some ((0 : Int32), σ)) else (some ((1 : Int32), σ))))) else none
set_option maxHeartbeats 4000000 in
set_option maxRecDepth 100000 in
theorem ct_Qu_canGive (l : Launch) (D : va_G) (dA : Nat → ClassId) (adr : Nat → Nat) (A : Nat → Prop) (hA : gx_A A adr) (N : Nat) (o0 : Nat) (σ : gx_M) (r : Int32) (σ' : gx_M) (hf : fn_Qu_canGive N o0 σ = some (r, σ')) : Met l y_Qu_canGive w_Qu_canGive rm_Qu_canGive (gx_Pc D dA adr σ [.ref (adr o0)]) (gx_Q D dA adr A (some (.int r)) σ') 0 0 A := by
  refine Met.ofW (cc := b_Qu_canGive) (maxL := 1) (ret := some .boolean) (by decide) rfl ?_
  intro p e s m args below meth c s₁ B hml hv
  obtain ⟨rfl, hP, hK⟩ := hv
  have hx := B.exec
  have hb := B.bytes
  have hr := B.returns
  have hlocks := B.notSynchronized
  have ht : ∀ w ∈ gx_tb, w.before _ s = true := fun w h => atoms_spec (ws := w_Qu_canGive) B.pre w (List.mem_cons_of_mem _ h)
  have hown : s.vm.findClass R_Qu = some m.cls := findClass_of_methodNamed B.named
  have G : gx_G p m c b_Qu_canGive 1 s _ gx_tb R_Qu D dA := ⟨⟨hx, hb, hml, hown, ht⟩, hK⟩
  have hI : gx_I D dA adr A s.heap σ s.heap [] := ⟨hP, va_S.rf⟩
  have hl := lv_entry ([.ref (adr o0)]) (n := 1) (Nat.le_of_ble_eq_true rfl)
  rw [lg_entry_eq]
  generalize (lg_sl ([.ref (adr o0)]) ++ List.replicate (1 - (lg_sl ([.ref (adr o0)])).length) Slot.unset).toArray = ls at hl ⊢
  have hl : lv_has ls 1 [(0, .ref (adr o0))] := hl
  rw [fn_Qu_canGive] at hf
  obtain ⟨ho0, hf⟩ := gx_gd hf
  refine lv_aload_n hx hb d_Qu_canGive_0 rfl (lv_at hl 0 rfl) ?_
  refine gx_getI G hI cl_Qu (gx_ci_q ho0) 0 (by decide) (gx_rf_q ho0 0) fl_Qu_7 d_Qu_canGive_1 ?_
  refine lv_if_eq (tgt := 25) hx hb d_Qu_canGive_4 (by decide) (fun c_1 => ?_) (fun c_1 => ?_)
  · replace hf := (if_pos c_1).symm.trans hf
    refine lv_iconst (v := 0) hx hb d_Qu_canGive_25 (by decide) ?_
    cases hf
    exact W.zret (v := (0 : Int32)) hx hb hr (by decide) (gx_F hI) hI.2.2.2 d_Qu_canGive_26
  · replace hf := (if_neg c_1).symm.trans hf
    refine lv_aload_n hx hb d_Qu_canGive_7 rfl (lv_at hl 0 rfl) ?_
    refine gx_getI G hI cl_Qu (gx_ci_q ho0) 2 (by decide) (gx_rf_q ho0 2) fl_Qu_16 d_Qu_canGive_8 ?_
    refine lv_if_eq (tgt := 21) hx hb d_Qu_canGive_11 (by decide) (fun c_2 => ?_) (fun c_2 => ?_)
    · replace hf := (if_pos c_2).symm.trans hf
      refine lv_iconst (v := 1) hx hb d_Qu_canGive_21 (by decide) ?_
      refine lv_goto (tgt := 26) hx hb d_Qu_canGive_22 (by decide) ?_
      cases hf
      exact W.zret (v := (1 : Int32)) hx hb hr (by decide) (gx_F hI) hI.2.2.2 d_Qu_canGive_26
    · replace hf := (if_neg c_2).symm.trans hf
      refine lv_aload_n hx hb d_Qu_canGive_14 rfl (lv_at hl 0 rfl) ?_
      refine gx_getI G hI cl_Qu (gx_ci_q ho0) 3 (by decide) (gx_rf_q ho0 3) fl_Qu_28 d_Qu_canGive_15 ?_
      refine lv_if_le (tgt := 25) hx hb d_Qu_canGive_18 (by decide) (fun c_3 => ?_) (fun c_3 => ?_)
      · replace hf := (if_pos c_3).symm.trans hf
        refine lv_iconst (v := 0) hx hb d_Qu_canGive_25 (by decide) ?_
        cases hf
        exact W.zret (v := (0 : Int32)) hx hb hr (by decide) (gx_F hI) hI.2.2.2 d_Qu_canGive_26
      · replace hf := (if_neg c_3).symm.trans hf
        refine lv_iconst (v := 1) hx hb d_Qu_canGive_21 (by decide) ?_
        refine lv_goto (tgt := 26) hx hb d_Qu_canGive_22 (by decide) ?_
        cases hf
        exact W.zret (v := (1 : Int32)) hx hb hr (by decide) (gx_F hI) hI.2.2.2 d_Qu_canGive_26
def fn_Qu_spendToken (N : Nat) (o0 : Nat) (σ : gx_M) : Option gx_M := if 2 ≤ o0 ∧ o0 < 6 then (if (σ o0 2) ≤ 0 then (some σ) else (gx_lt (gx_up σ o0 3 ((σ o0 3) - ((1 : Int32)))) (fun σ_2 => some σ_2))) else none
set_option maxHeartbeats 4000000 in
set_option maxRecDepth 100000 in
theorem ct_Qu_spendToken (l : Launch) (D : va_G) (dA : Nat → ClassId) (adr : Nat → Nat) (A : Nat → Prop) (hA : gx_A A adr) (N : Nat) (o0 : Nat) (σ : gx_M) (σ' : gx_M) (hf : fn_Qu_spendToken N o0 σ = some σ') : Met l y_Qu_spendToken w_Qu_spendToken rm_Qu_spendToken (gx_Pc D dA adr σ [.ref (adr o0)]) (gx_Q D dA adr A none σ') 0 0 A := by
  refine Met.ofW (cc := b_Qu_spendToken) (maxL := 1) (ret := none) (by decide) rfl ?_
  intro p e s m args below meth c s₁ B hml hv
  obtain ⟨rfl, hP, hK⟩ := hv
  have hx := B.exec
  have hb := B.bytes
  have hr := B.returns
  have hlocks := B.notSynchronized
  have ht : ∀ w ∈ gx_tb, w.before _ s = true := fun w h => atoms_spec (ws := w_Qu_spendToken) B.pre w (List.mem_cons_of_mem _ h)
  have hown : s.vm.findClass R_Qu = some m.cls := findClass_of_methodNamed B.named
  have G : gx_G p m c b_Qu_spendToken 1 s _ gx_tb R_Qu D dA := ⟨⟨hx, hb, hml, hown, ht⟩, hK⟩
  have hI : gx_I D dA adr A s.heap σ s.heap [] := ⟨hP, va_S.rf⟩
  have hl := lv_entry ([.ref (adr o0)]) (n := 1) (Nat.le_of_ble_eq_true rfl)
  rw [lg_entry_eq]
  generalize (lg_sl ([.ref (adr o0)]) ++ List.replicate (1 - (lg_sl ([.ref (adr o0)])).length) Slot.unset).toArray = ls at hl ⊢
  have hl : lv_has ls 1 [(0, .ref (adr o0))] := hl
  rw [fn_Qu_spendToken] at hf
  obtain ⟨ho0, hf⟩ := gx_gd hf
  refine lv_aload_n hx hb d_Qu_spendToken_0 rfl (lv_at hl 0 rfl) ?_
  refine gx_getI G hI cl_Qu (gx_ci_q ho0) 2 (by decide) (gx_rf_q ho0 2) fl_Qu_16 d_Qu_spendToken_1 ?_
  refine lv_if_le (tgt := 17) hx hb d_Qu_spendToken_4 (by decide) (fun c_1 => ?_) (fun c_1 => ?_)
  · replace hf := (if_pos c_1).symm.trans hf
    cases hf
    exact W.vret hx hb hr (gx_F hI) hI.2.2.2 d_Qu_spendToken_17
  · replace hf := (if_neg c_1).symm.trans hf
    refine lv_aload_n hx hb d_Qu_spendToken_7 rfl (lv_at hl 0 rfl) ?_
    refine lv_dup hx hb d_Qu_spendToken_8 rfl ?_
    refine gx_getI G hI cl_Qu (gx_ci_q ho0) 3 (by decide) (gx_rf_q ho0 3) fl_Qu_28 d_Qu_spendToken_9 ?_
    refine lv_iconst (v := 1) hx hb d_Qu_spendToken_12 (by decide) ?_
    refine lv_isub hx hb d_Qu_spendToken_13 ?_
    obtain ⟨σ_2, eσ_2, hf⟩ := gx_lte hf
    refine gx_put G hI hA cl_Qu (gx_ci_q ho0) 3 (by decide) (gx_rf_q ho0 3) fl_Qu_28 rfl rfl rfl eσ_2 d_Qu_spendToken_14 (fun H locs hI => ?_)
    cases hf
    exact W.vret hx hb hr (gx_F hI) hI.2.2.2 d_Qu_spendToken_17
def fn_Qu_refillBetween (N : Nat) (o0 : Nat) (p0 : Int32) (p1 : Int32) (σ : gx_M) : Option gx_M := if 2 ≤ o0 ∧ o0 < 6 then (if ¬ (σ o0 4) = 0 then (if ¬ (σ o0 4) = 0 then (gx_lt (gx_up σ o0 3 (if ((σ o0 3) + (((p1 - (σ o0 5)) / (σ o0 4)) - ((p0 - (σ o0 5)) / (σ o0 4)))) < (σ o0 2) then ((σ o0 3) + (((p1 - (σ o0 5)) / (σ o0 4)) - ((p0 - (σ o0 5)) / (σ o0 4)))) else (σ o0 2))) (fun σ_3 => some σ_3)) else none) else none) else none
set_option maxHeartbeats 4000000 in
set_option maxRecDepth 100000 in
theorem ct_Qu_refillBetween (l : Launch) (D : va_G) (dA : Nat → ClassId) (adr : Nat → Nat) (A : Nat → Prop) (hA : gx_A A adr) (N : Nat) (o0 : Nat) (p0 : Int32) (p1 : Int32) (σ : gx_M) (σ' : gx_M) (hf : fn_Qu_refillBetween N o0 p0 p1 σ = some σ') : Met l y_Qu_refillBetween w_Qu_refillBetween rm_Qu_refillBetween (gx_Pc D dA adr σ [.ref (adr o0), .int p0, .int p1]) (gx_Q D dA adr A none σ') 0 0 A := by
  refine Met.ofW (cc := b_Qu_refillBetween) (maxL := 4) (ret := none) (by decide) rfl ?_
  intro p e s m args below meth c s₁ B hml hv
  obtain ⟨rfl, hP, hK⟩ := hv
  have hx := B.exec
  have hb := B.bytes
  have hr := B.returns
  have hlocks := B.notSynchronized
  have ht : ∀ w ∈ gx_tb, w.before _ s = true := fun w h => atoms_spec (ws := w_Qu_refillBetween) B.pre w (List.mem_cons_of_mem _ h)
  have hown : s.vm.findClass R_Qu = some m.cls := findClass_of_methodNamed B.named
  have G : gx_G p m c b_Qu_refillBetween 4 s _ gx_tb R_Qu D dA := ⟨⟨hx, hb, hml, hown, ht⟩, hK⟩
  have hI : gx_I D dA adr A s.heap σ s.heap [] := ⟨hP, va_S.rf⟩
  have hl := lv_entry ([.ref (adr o0), .int p0, .int p1]) (n := 4) (Nat.le_of_ble_eq_true rfl)
  rw [lg_entry_eq]
  generalize (lg_sl ([.ref (adr o0), .int p0, .int p1]) ++ List.replicate (4 - (lg_sl ([.ref (adr o0), .int p0, .int p1])).length) Slot.unset).toArray = ls at hl ⊢
  have hl : lv_has ls 4 [(0, .ref (adr o0)), (1, .int p0), (2, .int p1)] := hl
  rw [fn_Qu_refillBetween] at hf
  obtain ⟨ho0, hf⟩ := gx_gd hf
  refine lv_iload_n hx hb d_Qu_refillBetween_0 rfl (lv_at hl 2 rfl) ?_
  refine lv_aload_n hx hb d_Qu_refillBetween_1 rfl (lv_at hl 0 rfl) ?_
  refine gx_getI G hI cl_Qu (gx_ci_q ho0) 5 (by decide) (gx_rf_q ho0 5) fl_Qu_19 d_Qu_refillBetween_2 ?_
  refine lv_isub hx hb d_Qu_refillBetween_5 ?_
  refine lv_aload_n hx hb d_Qu_refillBetween_6 rfl (lv_at hl 0 rfl) ?_
  refine gx_getI G hI cl_Qu (gx_ci_q ho0) 4 (by decide) (gx_rf_q ho0 4) fl_Qu_13 d_Qu_refillBetween_7 ?_
  obtain ⟨hz_1, hf⟩ := gx_gd hf
  refine lv_idiv hx hb d_Qu_refillBetween_10 hz_1 ?_
  refine lv_iload_n hx hb d_Qu_refillBetween_11 rfl (lv_at hl 1 rfl) ?_
  refine lv_aload_n hx hb d_Qu_refillBetween_12 rfl (lv_at hl 0 rfl) ?_
  refine gx_getI G hI cl_Qu (gx_ci_q ho0) 5 (by decide) (gx_rf_q ho0 5) fl_Qu_19 d_Qu_refillBetween_13 ?_
  refine lv_isub hx hb d_Qu_refillBetween_16 ?_
  refine lv_aload_n hx hb d_Qu_refillBetween_17 rfl (lv_at hl 0 rfl) ?_
  refine gx_getI G hI cl_Qu (gx_ci_q ho0) 4 (by decide) (gx_rf_q ho0 4) fl_Qu_13 d_Qu_refillBetween_18 ?_
  obtain ⟨hz_2, hf⟩ := gx_gd hf
  refine lv_idiv hx hb d_Qu_refillBetween_21 hz_2 ?_
  refine lv_isub hx hb d_Qu_refillBetween_22 ?_
  refine lv_istore_n (i := 3) (lv' := [(3, .int (((p1 - (σ o0 5)) / (σ o0 4)) - ((p0 - (σ o0 5)) / (σ o0 4)))), (0, .ref (adr o0)), (1, .int p0), (2, .int p1)]) hx hb d_Qu_refillBetween_23 rfl hl (by decide) rfl (fun ls hl => ?_)
  refine lv_aload_n hx hb d_Qu_refillBetween_24 rfl (lv_at hl 1 rfl) ?_
  refine lv_aload_n hx hb d_Qu_refillBetween_25 rfl (lv_at hl 1 rfl) ?_
  refine gx_getI G hI cl_Qu (gx_ci_q ho0) 2 (by decide) (gx_rf_q ho0 2) fl_Qu_16 d_Qu_refillBetween_26 ?_
  refine lv_aload_n hx hb d_Qu_refillBetween_29 rfl (lv_at hl 1 rfl) ?_
  refine gx_getI G hI cl_Qu (gx_ci_q ho0) 3 (by decide) (gx_rf_q ho0 3) fl_Qu_28 d_Qu_refillBetween_30 ?_
  refine lv_iload_n hx hb d_Qu_refillBetween_33 rfl (lv_at hl 0 rfl) ?_
  refine lv_iadd hx hb d_Qu_refillBetween_34 ?_
  refine va_mmin hx hb (hml.trans hl.1.symm) hown (ht _ ml_Qu_31) (ht _ st_Math_min) (ht _ in_Math) (ht _ co_Math_min) (Nat.le_of_ble_eq_true rfl) (Nat.le_of_ble_eq_true rfl) (Nat.zero_le _) (Nat.zero_le _) d_Qu_refillBetween_35 ?_
  obtain ⟨σ_3, eσ_3, hf⟩ := gx_lte hf
  refine gx_put G hI hA cl_Qu (gx_ci_q ho0) 3 (by decide) (gx_rf_q ho0 3) fl_Qu_28 rfl rfl rfl eσ_3 d_Qu_refillBetween_38 (fun H locs hI => ?_)
  cases hf
  exact W.vret hx hb hr (gx_F hI) hI.2.2.2 d_Qu_refillBetween_41

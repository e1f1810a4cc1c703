theorem d_Jn_flushAll_0 : decode b_Jn_flushAll 0 = .ok (.aload_n 0, 1) := by decide +kernel
theorem d_Jn_flushAll_1 : decode b_Jn_flushAll 1 = .ok (.getfield 18, 3) := by decide +kernel
theorem d_Jn_flushAll_4 : decode b_Jn_flushAll 4 = .ok (.istore_n 2, 1) := by decide +kernel
theorem d_Jn_flushAll_5 : decode b_Jn_flushAll 5 = .ok (.aload_n 0, 1) := by decide +kernel
theorem d_Jn_flushAll_6 : decode b_Jn_flushAll 6 = .ok (.iconst 0, 1) := by decide +kernel
theorem d_Jn_flushAll_7 : decode b_Jn_flushAll 7 = .ok (.putfield 18, 3) := by decide +kernel
theorem d_Jn_flushAll_10 : decode b_Jn_flushAll 10 = .ok (.aload_n 0, 1) := by decide +kernel
theorem d_Jn_flushAll_11 : decode b_Jn_flushAll 11 = .ok (.getfield 11, 3) := by decide +kernel
theorem d_Jn_flushAll_14 : decode b_Jn_flushAll 14 = .ok (.iconst 0, 1) := by decide +kernel
theorem d_Jn_flushAll_15 : decode b_Jn_flushAll 15 = .ok (.aaload, 1) := by decide +kernel
theorem d_Jn_flushAll_16 : decode b_Jn_flushAll 16 = .ok (.aload_n 1, 1) := by decide +kernel
theorem d_Jn_flushAll_17 : decode b_Jn_flushAll 17 = .ok (.invokevirtual 26, 3) := by decide +kernel
theorem d_Jn_flushAll_20 : decode b_Jn_flushAll 20 = .ok (.iload_n 2, 1) := by decide +kernel
theorem d_Jn_flushAll_21 : decode b_Jn_flushAll 21 = .ok (.ireturn, 1) := by decide +kernel
theorem d_Jn_write_0 : decode b_Jn_write 0 = .ok (.aload_n 0, 1) := by decide +kernel
theorem d_Jn_write_1 : decode b_Jn_write 1 = .ok (.getfield 18, 3) := by decide +kernel
theorem d_Jn_write_4 : decode b_Jn_write 4 = .ok (.iconst 1, 1) := by decide +kernel
theorem d_Jn_write_5 : decode b_Jn_write 5 = .ok (.iadd, 1) := by decide +kernel
theorem d_Jn_write_6 : decode b_Jn_write 6 = .ok (.bipush 16, 2) := by decide +kernel
theorem d_Jn_write_8 : decode b_Jn_write 8 = .ok (.if_icmp .lt 12, 3) := by decide +kernel
theorem d_Jn_write_11 : decode b_Jn_write 11 = .ok (.aload_n 0, 1) := by decide +kernel
theorem d_Jn_write_12 : decode b_Jn_write 12 = .ok (.aload_n 1, 1) := by decide +kernel
theorem d_Jn_write_13 : decode b_Jn_write 13 = .ok (.invokevirtual 22, 3) := by decide +kernel
theorem d_Jn_write_16 : decode b_Jn_write 16 = .ok (.pop, 1) := by decide +kernel
theorem d_Jn_write_17 : decode b_Jn_write 17 = .ok (.goto 26, 3) := by decide +kernel
theorem d_Jn_write_20 : decode b_Jn_write 20 = .ok (.aload_n 0, 1) := by decide +kernel
theorem d_Jn_write_21 : decode b_Jn_write 21 = .ok (.dup, 1) := by decide +kernel
theorem d_Jn_write_22 : decode b_Jn_write 22 = .ok (.getfield 18, 3) := by decide +kernel
theorem d_Jn_write_25 : decode b_Jn_write 25 = .ok (.iconst 1, 1) := by decide +kernel
theorem d_Jn_write_26 : decode b_Jn_write 26 = .ok (.iadd, 1) := by decide +kernel
theorem d_Jn_write_27 : decode b_Jn_write 27 = .ok (.putfield 18, 3) := by decide +kernel
theorem d_Jn_write_30 : decode b_Jn_write 30 = .ok (.aload_n 0, 1) := by decide +kernel
theorem d_Jn_write_31 : decode b_Jn_write 31 = .ok (.getfield 11, 3) := by decide +kernel
theorem d_Jn_write_34 : decode b_Jn_write 34 = .ok (.aload_n 0, 1) := by decide +kernel
theorem d_Jn_write_35 : decode b_Jn_write 35 = .ok (.getfield 18, 3) := by decide +kernel
theorem d_Jn_write_38 : decode b_Jn_write 38 = .ok (.aaload, 1) := by decide +kernel
theorem d_Jn_write_39 : decode b_Jn_write 39 = .ok (.aload_n 1, 1) := by decide +kernel
theorem d_Jn_write_40 : decode b_Jn_write 40 = .ok (.invokevirtual 26, 3) := by decide +kernel
theorem d_Jn_write_43 : decode b_Jn_write 43 = .ok (.return_, 1) := by decide +kernel
theorem d_Jn_restore_0 : decode b_Jn_restore 0 = .ok (.iload_n 2, 1) := by decide +kernel
theorem d_Jn_restore_1 : decode b_Jn_restore 1 = .ok (.iconst 0, 1) := by decide +kernel
theorem d_Jn_restore_2 : decode b_Jn_restore 2 = .ok (.invokestatic 30, 3) := by decide +kernel
theorem d_Jn_restore_5 : decode b_Jn_restore 5 = .ok (.aload_n 0, 1) := by decide +kernel
theorem d_Jn_restore_6 : decode b_Jn_restore 6 = .ok (.getfield 18, 3) := by decide +kernel
theorem d_Jn_restore_9 : decode b_Jn_restore 9 = .ok (.invokestatic 36, 3) := by decide +kernel
theorem d_Jn_restore_12 : decode b_Jn_restore 12 = .ok (.istore_n 3, 1) := by decide +kernel
theorem d_Jn_restore_13 : decode b_Jn_restore 13 = .ok (.aload_n 1, 1) := by decide +kernel
theorem d_Jn_restore_14 : decode b_Jn_restore 14 = .ok (.aload_n 0, 1) := by decide +kernel
theorem d_Jn_restore_15 : decode b_Jn_restore 15 = .ok (.getfield 11, 3) := by decide +kernel
theorem d_Jn_restore_18 : decode b_Jn_restore 18 = .ok (.iload_n 3, 1) := by decide +kernel
theorem d_Jn_restore_19 : decode b_Jn_restore 19 = .ok (.aaload, 1) := by decide +kernel
theorem d_Jn_restore_20 : decode b_Jn_restore 20 = .ok (.invokevirtual 26, 3) := by decide +kernel
theorem d_Jn_restore_23 : decode b_Jn_restore 23 = .ok (.aload_n 0, 1) := by decide +kernel
theorem d_Jn_restore_24 : decode b_Jn_restore 24 = .ok (.getfield 18, 3) := by decide +kernel
theorem d_Jn_restore_27 : decode b_Jn_restore 27 = .ok (.iload_n 3, 1) := by decide +kernel
theorem d_Jn_restore_28 : decode b_Jn_restore 28 = .ok (.isub, 1) := by decide +kernel
theorem d_Jn_restore_29 : decode b_Jn_restore 29 = .ok (.ireturn, 1) := by decide +kernel
def fn_Jn_flushAll (N : Nat) (q0 : Nat) (σ : gx_M) : Option (Int32 × gx_M) := if 8 ≤ q0 ∧ q0 < 25 then (gx_lt (gx_up σ 6 1 ((0 : Int32))) (fun σ_1 => if 0 ≤ ((0 : Int32)) ∧ ((0 : Int32)) < 16 then (gx_bv (fn_Ro_copyFrom N (gx_el 7 ((0 : Int32)).toNatClampNeg) q0 σ_1) (fun σ_3 => some (σ 6 1, σ_3))) else none)) else none
set_option maxHeartbeats 4000000 in
set_option maxRecDepth 100000 in
theorem ct_Jn_flushAll (l : Launch) (D : va_G) (dA : Nat → ClassId) (adr : Nat → Nat) (A : Nat → Prop) (hA : gx_A A adr) (N : Nat) (q0 : Nat) (σ : gx_M) (r : Int32) (σ' : gx_M) (hf : fn_Jn_flushAll N q0 σ = some (r, σ')) : Met l y_Jn_flushAll w_Jn_flushAll rm_Jn_flushAll (gx_Pc D dA adr σ [.ref (adr 6), .ref (adr q0)]) (gx_Q D dA adr A (some (.int r)) σ') 0 0 A := by
  refine Met.ofW (cc := b_Jn_flushAll) (maxL := 3) (ret := some .int) (by decide) rfl ?_
  intro p e s m args below meth c s₁ B hml hv
  obtain ⟨rfl, hP, hK⟩ := hv
  have hx := B.exec
  have hb := B.bytes
  have hr := B.returns
  have hlocks := B.notSynchronized
  have ht : ∀ w ∈ gx_tb, w.before _ s = true := fun w h => atoms_spec (ws := w_Jn_flushAll) B.pre w (List.mem_cons_of_mem _ h)
  have hown : s.vm.findClass R_Jn = some m.cls := findClass_of_methodNamed B.named
  have G : gx_G p m c b_Jn_flushAll 3 s _ gx_tb R_Jn D dA := ⟨⟨hx, hb, hml, hown, ht⟩, hK⟩
  have hI : gx_I D dA adr A s.heap σ s.heap [] := ⟨hP, va_S.rf⟩
  have hl := lv_entry ([.ref (adr 6), .ref (adr q0)]) (n := 3) (Nat.le_of_ble_eq_true rfl)
  rw [lg_entry_eq]
  generalize (lg_sl ([.ref (adr 6), .ref (adr q0)]) ++ List.replicate (3 - (lg_sl ([.ref (adr 6), .ref (adr q0)])).length) Slot.unset).toArray = ls at hl ⊢
  have hl : lv_has ls 3 [(0, .ref (adr 6)), (1, .ref (adr q0))] := hl
  rw [fn_Jn_flushAll] at hf
  obtain ⟨hq0, hf⟩ := gx_gd hf
  refine lv_aload_n hx hb d_Jn_flushAll_0 rfl (lv_at hl 0 rfl) ?_
  refine gx_getI G hI cl_Jn (by decide) 1 (by decide) (by decide) fl_Jn_18 d_Jn_flushAll_1 ?_
  refine lv_istore_n (i := 2) (lv' := [(2, .int (σ 6 1)), (0, .ref (adr 6)), (1, .ref (adr q0))]) hx hb d_Jn_flushAll_4 rfl hl (by decide) rfl (fun ls hl => ?_)
  refine lv_aload_n hx hb d_Jn_flushAll_5 rfl (lv_at hl 1 rfl) ?_
  refine lv_iconst (v := 0) hx hb d_Jn_flushAll_6 (by decide) ?_
  obtain ⟨σ_1, eσ_1, hf⟩ := gx_lte hf
  refine gx_put G hI hA cl_Jn (by decide) 1 (by decide) (by decide) fl_Jn_18 rfl rfl rfl eσ_1 d_Jn_flushAll_7 (fun H locs hI => ?_)
  refine lv_aload_n hx hb d_Jn_flushAll_10 rfl (lv_at hl 1 rfl) ?_
  refine gx_getR (o' := 7) G hI cl_Jn (by decide) 0 (by decide) (by decide) fl_Jn_11 d_Jn_flushAll_11 ?_
  refine lv_iconst (v := 0) hx hb d_Jn_flushAll_14 (by decide) ?_
  obtain ⟨hi_2, hf⟩ := gx_gd hf
  refine gx_aldP G hI hi_2 d_Jn_flushAll_15 ?_
  refine lv_aload_n hx hb d_Jn_flushAll_16 rfl (lv_at hl 2 rfl) ?_
  obtain ⟨σ_3, hc_4, hf⟩ := gx_bve hf
  refine gx_go (va_runV (As := [.ref (adr q0)]) (rest := []) G.1 (ct_Ro_copyFrom l D dA adr A hA N (gx_el 7 ((0 : Int32)).toNatClampNeg) q0 σ_1 σ_3 hc_4) (cwV 1 ht gi_Jn_26 rfl rfl rfl (by decide +kernel) ⟨Nat.le_of_ble_eq_true rfl, Nat.le_of_ble_eq_true rfl⟩) (gx_preV G hI cl_Ro (gx_ci_r (gx_el_p hi_2))) rfl rfl hl.1 rfl (lv_room (Nat.le_of_ble_eq_true rfl)) d_Jn_flushAll_17 ⟨Nat.zero_le _, Nat.zero_le _⟩) hI (st1 := []) rfl (fun H locs hI => ?_)
  refine lv_iload_n hx hb d_Jn_flushAll_20 rfl (lv_at hl 0 rfl) ?_
  cases hf
  exact W.iret hx hb hr (gx_F hI) hI.2.2.2 d_Jn_flushAll_21
def fn_Jn_write (N : Nat) (q0 : Nat) (σ : gx_M) : Option gx_M := if 8 ≤ q0 ∧ q0 < 25 then (if ((σ 6 1) + ((1 : Int32))) < ((16 : Int32)) then (gx_lt (gx_up σ 6 1 ((σ 6 1) + ((1 : Int32)))) (fun σ_2 => if 0 ≤ (σ_2 6 1) ∧ (σ_2 6 1) < 16 then (gx_bv (fn_Ro_copyFrom N (gx_el 7 (σ_2 6 1).toNatClampNeg) q0 σ_2) (fun σ_4 => some σ_4)) else none)) else (gx_bd (fn_Jn_flushAll N q0 σ) (fun r_8 σ_6 => some σ_6))) else none
set_option maxHeartbeats 4000000 in
set_option maxRecDepth 100000 in
theorem ct_Jn_write (l : Launch) (D : va_G) (dA : Nat → ClassId) (adr : Nat → Nat) (A : Nat → Prop) (hA : gx_A A adr) (N : Nat) (q0 : Nat) (σ : gx_M) (σ' : gx_M) (hf : fn_Jn_write N q0 σ = some σ') : Met l y_Jn_write w_Jn_write rm_Jn_write (gx_Pc D dA adr σ [.ref (adr 6), .ref (adr q0)]) (gx_Q D dA adr A none σ') 0 0 A := by
  refine Met.ofW (cc := b_Jn_write) (maxL := 2) (ret := none) (by decide) rfl ?_
  intro p e s m args below meth c s₁ B hml hv
  obtain ⟨rfl, hP, hK⟩ := hv
  have hx := B.exec
  have hb := B.bytes
  have hr := B.returns
  have hlocks := B.notSynchronized
  have ht : ∀ w ∈ gx_tb, w.before _ s = true := fun w h => atoms_spec (ws := w_Jn_write) B.pre w (List.mem_cons_of_mem _ h)
  have hown : s.vm.findClass R_Jn = some m.cls := findClass_of_methodNamed B.named
  have G : gx_G p m c b_Jn_write 2 s _ gx_tb R_Jn D dA := ⟨⟨hx, hb, hml, hown, ht⟩, hK⟩
  have hI : gx_I D dA adr A s.heap σ s.heap [] := ⟨hP, va_S.rf⟩
  have hl := lv_entry ([.ref (adr 6), .ref (adr q0)]) (n := 2) (Nat.le_of_ble_eq_true rfl)
  rw [lg_entry_eq]
  generalize (lg_sl ([.ref (adr 6), .ref (adr q0)]) ++ List.replicate (2 - (lg_sl ([.ref (adr 6), .ref (adr q0)])).length) Slot.unset).toArray = ls at hl ⊢
  have hl : lv_has ls 2 [(0, .ref (adr 6)), (1, .ref (adr q0))] := hl
  rw [fn_Jn_write] at hf
  obtain ⟨hq0, hf⟩ := gx_gd hf
  refine lv_aload_n hx hb d_Jn_write_0 rfl (lv_at hl 0 rfl) ?_
  refine gx_getI G hI cl_Jn (by decide) 1 (by decide) (by decide) fl_Jn_18 d_Jn_write_1 ?_
  refine lv_iconst (v := 1) hx hb d_Jn_write_4 (by decide) ?_
  refine lv_iadd hx hb d_Jn_write_5 ?_
  refine lv_bipush (v := 16) hx hb d_Jn_write_6 (by decide) ?_
  refine lv_icmp_lt (tgt := 20) hx hb d_Jn_write_8 (by decide) (fun c_1 => ?_) (fun c_1 => ?_)
  · replace hf := (if_pos c_1).symm.trans hf
    refine lv_aload_n hx hb d_Jn_write_20 rfl (lv_at hl 0 rfl) ?_
    refine lv_dup hx hb d_Jn_write_21 rfl ?_
    refine gx_getI G hI cl_Jn (by decide) 1 (by decide) (by decide) fl_Jn_18 d_Jn_write_22 ?_
    refine lv_iconst (v := 1) hx hb d_Jn_write_25 (by decide) ?_
    refine lv_iadd hx hb d_Jn_write_26 ?_
    obtain ⟨σ_2, eσ_2, hf⟩ := gx_lte hf
    refine gx_put G hI hA cl_Jn (by decide) 1 (by decide) (by decide) fl_Jn_18 rfl rfl rfl eσ_2 d_Jn_write_27 (fun H locs hI => ?_)
    refine lv_aload_n hx hb d_Jn_write_30 rfl (lv_at hl 0 rfl) ?_
    refine gx_getR (o' := 7) G hI cl_Jn (by decide) 0 (by decide) (by decide) fl_Jn_11 d_Jn_write_31 ?_
    refine lv_aload_n hx hb d_Jn_write_34 rfl (lv_at hl 0 rfl) ?_
    refine gx_getI G hI cl_Jn (by decide) 1 (by decide) (by decide) fl_Jn_18 d_Jn_write_35 ?_
    obtain ⟨hi_3, hf⟩ := gx_gd hf
    refine gx_aldP G hI hi_3 d_Jn_write_38 ?_
    refine lv_aload_n hx hb d_Jn_write_39 rfl (lv_at hl 1 rfl) ?_
    obtain ⟨σ_4, hc_5, hf⟩ := gx_bve hf
    refine gx_go (va_runV (As := [.ref (adr q0)]) (rest := []) G.1 (ct_Ro_copyFrom l D dA adr A hA N (gx_el 7 (σ_2 6 1).toNatClampNeg) q0 σ_2 σ_4 hc_5) (cwV 1 ht gi_Jn_26 rfl rfl rfl (by decide +kernel) ⟨Nat.le_of_ble_eq_true rfl, Nat.le_of_ble_eq_true rfl⟩) (gx_preV G hI cl_Ro (gx_ci_r (gx_el_p hi_3))) rfl rfl hl.1 rfl (lv_room (Nat.le_of_ble_eq_true rfl)) d_Jn_write_40 ⟨Nat.zero_le _, Nat.zero_le _⟩) hI (st1 := []) rfl (fun H locs hI => ?_)
    cases hf
    exact W.vret hx hb hr (gx_F hI) hI.2.2.2 d_Jn_write_43
  · replace hf := (if_neg c_1).symm.trans hf
    refine lv_aload_n hx hb d_Jn_write_11 rfl (lv_at hl 0 rfl) ?_
    refine lv_aload_n hx hb d_Jn_write_12 rfl (lv_at hl 1 rfl) ?_
    obtain ⟨r_8, σ_6, hc_7, hf⟩ := gx_bde hf
    refine gx_go (va_runV (As := [.ref (adr q0)]) (rest := []) G.1 (ct_Jn_flushAll l D dA adr A hA N q0 σ r_8 σ_6 hc_7) (cwV 1 ht gi_Jn_22 rfl rfl rfl (by decide +kernel) ⟨Nat.le_of_ble_eq_true rfl, Nat.le_of_ble_eq_true rfl⟩) (gx_preV G hI cl_Jn (by decide)) rfl rfl hl.1 rfl (lv_room (Nat.le_of_ble_eq_true rfl)) d_Jn_write_13 ⟨Nat.zero_le _, Nat.zero_le _⟩) hI (st1 := [.int r_8]) rfl (fun H locs hI => ?_)
    refine lv_pop hx hb d_Jn_write_16 rfl ?_
    refine lv_goto (tgt := 43) hx hb d_Jn_write_17 (by decide) ?_
    cases hf
    exact W.vret hx hb hr (gx_F hI) hI.2.2.2 d_Jn_write_43
def fn_Jn_restore (N : Nat) (q0 : Nat) (p1 : Int32) (σ : gx_M) : Option (Int32 × gx_M) := if 8 ≤ q0 ∧ q0 < 25 then (gx_lt (if (σ 6 1) < (if p1 < ((0 : Int32)) then ((0 : Int32)) else p1) then (σ 6 1) else (if p1 < ((0 : Int32)) then ((0 : Int32)) else p1)) (fun x_1 => if 0 ≤ x_1 ∧ x_1 < 16 then (gx_bv (fn_Ro_copyFrom N q0 (gx_el 7 x_1.toNatClampNeg) σ) (fun σ_3 => some ((σ_3 6 1) - x_1, σ_3))) else none)) else none
set_option maxHeartbeats 4000000 in
set_option maxRecDepth 100000 in
theorem ct_Jn_restore (l : Launch) (D : va_G) (dA : Nat → ClassId) (adr : Nat → Nat) (A : Nat → Prop) (hA : gx_A A adr) (N : Nat) (q0 : Nat) (p1 : Int32) (σ : gx_M) (r : Int32) (σ' : gx_M) (hf : fn_Jn_restore N q0 p1 σ = some (r, σ')) : Met l y_Jn_restore w_Jn_restore rm_Jn_restore (gx_Pc D dA adr σ [.ref (adr 6), .ref (adr q0), .int p1]) (gx_Q D dA adr A (some (.int r)) σ') 0 0 A := by
  refine Met.ofW (cc := b_Jn_restore) (maxL := 4) (ret := some .int) (by decide) rfl ?_
  intro p e s m args below meth c s₁ B hml hv
  obtain ⟨rfl, hP, hK⟩ := hv
  have hx := B.exec
  have hb := B.bytes
  have hr := B.returns
  have hlocks := B.notSynchronized
  have ht : ∀ w ∈ gx_tb, w.before _ s = true := fun w h => atoms_spec (ws := w_Jn_restore) B.pre w (List.mem_cons_of_mem _ h)
  have hown : s.vm.findClass R_Jn = some m.cls := findClass_of_methodNamed B.named
  have G : gx_G p m c b_Jn_restore 4 s _ gx_tb R_Jn D dA := ⟨⟨hx, hb, hml, hown, ht⟩, hK⟩
  have hI : gx_I D dA adr A s.heap σ s.heap [] := ⟨hP, va_S.rf⟩
  have hl := lv_entry ([.ref (adr 6), .ref (adr q0), .int p1]) (n := 4) (Nat.le_of_ble_eq_true rfl)
  rw [lg_entry_eq]
  generalize (lg_sl ([.ref (adr 6), .ref (adr q0), .int p1]) ++ List.replicate (4 - (lg_sl ([.ref (adr 6), .ref (adr q0), .int p1])).length) Slot.unset).toArray = ls at hl ⊢
  have hl : lv_has ls 4 [(0, .ref (adr 6)), (1, .ref (adr q0)), (2, .int p1)] := hl
  rw [fn_Jn_restore] at hf
  obtain ⟨hq0, hf⟩ := gx_gd hf
  refine lv_iload_n hx hb d_Jn_restore_0 rfl (lv_at hl 2 rfl) ?_
  refine lv_iconst (v := 0) hx hb d_Jn_restore_1 (by decide) ?_
  refine va_mmax hx hb (hml.trans hl.1.symm) hown (ht _ ml_Jn_30) (ht _ st_Math_max) (ht _ in_Math) (ht _ co_Math_max) (Nat.le_of_ble_eq_true rfl) (Nat.le_of_ble_eq_true rfl) (Nat.zero_le _) (Nat.zero_le _) d_Jn_restore_2 ?_
  refine lv_aload_n hx hb d_Jn_restore_5 rfl (lv_at hl 0 rfl) ?_
  refine gx_getI G hI cl_Jn (by decide) 1 (by decide) (by decide) fl_Jn_18 d_Jn_restore_6 ?_
  refine va_mmin hx hb (hml.trans hl.1.symm) hown (ht _ ml_Jn_36) (ht _ st_Math_min) (ht _ in_Math) (ht _ co_Math_min) (Nat.le_of_ble_eq_true rfl) (Nat.le_of_ble_eq_true rfl) (Nat.zero_le _) (Nat.zero_le _) d_Jn_restore_9 ?_
  obtain ⟨x_1, ex_1, hf⟩ := gx_lte hf
  refine gx_top ex_1 ?_
  refine lv_istore_n (i := 3) (lv' := [(3, .int x_1), (0, .ref (adr 6)), (1, .ref (adr q0)), (2, .int p1)]) hx hb d_Jn_restore_12 rfl hl (by decide) rfl (fun ls hl => ?_)
  refine lv_aload_n hx hb d_Jn_restore_13 rfl (lv_at hl 2 rfl) ?_
  refine lv_aload_n hx hb d_Jn_restore_14 rfl (lv_at hl 1 rfl) ?_
  refine gx_getR (o' := 7) G hI cl_Jn (by decide) 0 (by decide) (by decide) fl_Jn_11 d_Jn_restore_15 ?_
  refine lv_iload_n hx hb d_Jn_restore_18 rfl (lv_at hl 0 rfl) ?_
  obtain ⟨hi_2, hf⟩ := gx_gd hf
  refine gx_aldP G hI hi_2 d_Jn_restore_19 ?_
  obtain ⟨σ_3, hc_4, hf⟩ := gx_bve hf
  refine gx_go (va_runV (As := [.ref (adr (gx_el 7 x_1.toNatClampNeg))]) (rest := []) G.1 (ct_Ro_copyFrom l D dA adr A hA N q0 (gx_el 7 x_1.toNatClampNeg) σ σ_3 hc_4) (cwV 1 ht gi_Jn_26 rfl rfl rfl (by decide +kernel) ⟨Nat.le_of_ble_eq_true rfl, Nat.le_of_ble_eq_true rfl⟩) (gx_preV G hI cl_Ro (gx_ci_r hq0)) rfl rfl hl.1 rfl (lv_room (Nat.le_of_ble_eq_true rfl)) d_Jn_restore_20 ⟨Nat.zero_le _, Nat.zero_le _⟩) hI (st1 := []) rfl (fun H locs hI => ?_)
  refine lv_aload_n hx hb d_Jn_restore_23 rfl (lv_at hl 1 rfl) ?_
  refine gx_getI G hI cl_Jn (by decide) 1 (by decide) (by decide) fl_Jn_18 d_Jn_restore_24 ?_
  refine lv_iload_n hx hb d_Jn_restore_27 rfl (lv_at hl 0 rfl) ?_
  refine lv_isub hx hb d_Jn_restore_28 ?_
  cases hf
  exact W.iret hx hb hr (gx_F hI) hI.2.2.2 d_Jn_restore_29

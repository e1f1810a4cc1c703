theorem gl_ai {args : Array Value} {s : State} (h : (Cond.arrayClass (newarray.typeOf .int)).before args s = true) : ∃ cA : ClassId, ArrOfT s cA .int ∧ va_RA s cA .int := by
  obtain ⟨cA, kA, comp, h1, h2, h3⟩ := Cond.arrayClass_spec h
  exact ⟨cA, fun N z => ⟨(fun q hq => by cases hq), kA, h2, comp, h3⟩, h1⟩
theorem gl_ab {args : Array Value} {s : State} (h : (Cond.arrayClass (newarray.typeOf .boolean)).before args s = true) : ∃ cA : ClassId, ArrOfT s cA .boolean ∧ va_RA s cA .boolean := by
  obtain ⟨cA, kA, comp, h1, h2, h3⟩ := Cond.arrayClass_spec h
  exact ⟨cA, fun N z => ⟨(fun q hq => by cases hq), kA, h2, comp, h3⟩, h1⟩
theorem gl_ao {C : String} {s : State} (h : va_AO C s) : ∃ cA : ClassId, ArrOfT s cA (.object C) ∧ va_RA s cA (.object C) := by
  obtain ⟨comp, c, k, h1, h2, h3, h4, h5⟩ := Cond.arrayOver_spec h
  exact ⟨c, fun N z => ⟨(fun q hq => by cases hq), k, h3, comp, h4⟩, k, comp, h3, h4, h1, h5⟩
theorem gl_go {p : Program} {l : Launch} {e : Env} {R : Room} {s : State} {m : MethodId} {args : Array Value} {below : List Frame} {meth : Method} {c : Code} {H : Heap} {locs : List Loc} {cells slots : Nat} {Q : State → Prop} {pc : Nat} {ls : Array Slot} {rest st0 : List Value} {v : Value} (hr : va_Run p l e R s m args below meth c H locs cells slots 0 0 (F0 m pc ls st0) rest (fun st oc t => oc = .returned (some v) ∧ t.heap = st.heap) (fun _ => False))
    (kk : W p l e R s m args below meth c H locs cells slots Q (F0 m (pc + 3) ls (v :: rest))) : W p l e R s m args below meth c H locs cells slots Q (F0 m pc ls st0) := by
  intro T hT X
  obtain ⟨v', st₀, t, T', L, h0, X', hL, e1, e2, ⟨hv, hP⟩, st⟩ := hr T hT X
  cases hv
  have hL0 : L = [] := by
    cases L with
    | nil => rfl
    | cons q l => exact absurd (hL q List.mem_cons_self) id
  subst hL0
  rw [List.append_nil] at X'
  obtain ⟨t2, a1, b1⟩ := kk T' (by rw [e1, hP, h0]) X'
  exact ⟨t2, st t2 a1, b1⟩
set_option maxHeartbeats 4000000 in
set_option maxRecDepth 100000 in
/-- THE LAW, from its entry, over a relation that both sides keep -/
theorem gl_start {p : Program} {e : Env} {s : State} {m : MethodId} {below : List Frame} {meth : Method} {c : Code} (l : Launch) {b L : Nat} {xs : Nat → Int32} (hL : L ≤ 3073) (C0 : lw_At p s m meth c b L xs) (N : Nat) (R : Nat → gx_M → Prop) (hsim : gs_all N R) (hmono : ∀ (n : Nat) (σ : gx_M), R n σ → R (n + 1) σ) (h0 : ∀ x : Int32, R 0 (gl_s0 (gz_sx x))) : W p l e room_1 s m #[Value.ref b] below meth c s.heap [] 0 0 (lw_Z below #[Value.ref b] s) (entryFrame m ([Value.ref b] : List Value).toArray 4) := by
  obtain ⟨hx, hb, hr, hml, hown, hts, hX, hbl, hlocks, hgv⟩ := id C0
  have ht : ∀ w ∈ gx_tb, w.before #[Value.ref b] s = true := fun w h => hts w (gx_tbl h)
  have hbA : ¬ (fun q : Nat => s.heap.size ≤ q) b := Nat.not_le.mpr hbl
  have hLs : L < 2 ^ 31 := by omega
  obtain ⟨c0, i0, k0⟩ := u_known (C := R_Bo) (T := F_Bo) (N := 6) (n := 6) ht la_Bo (ht _ is_Bo)
  obtain ⟨c1, i1, k1⟩ := u_known (C := R_Qu) (T := F_Qu) (N := 6) (n := 6) ht la_Qu (ht _ is_Qu)
  obtain ⟨c2, i2, k2⟩ := u_known (C := R_Jn) (T := F_Jn) (N := 2) (n := 2) ht la_Jn (ht _ is_Jn)
  obtain ⟨c3, i3, k3⟩ := u_known (C := R_Ro) (T := F_Ro) (N := 3) (n := 3) ht la_Ro (ht _ is_Ro)
  obtain ⟨c4, i4, k4⟩ := u_known (C := R_Jb) (T := F_Jb) (N := 14) (n := 14) ht la_Jb (ht _ is_Jb)
  obtain ⟨c5, i5, k5⟩ := u_known (C := R_Mo) (T := F_Mo) (N := 16) (n := 16) ht la_Mo (ht _ is_Mo)
  obtain ⟨D, hKc⟩ : ∃ D : va_G, ∀ (k : Nat) (q : vw_C), gx_cl[k]? = some q → u_Kn s q.1 q.2.1 q.2.2 (D.1 k) (D.2 k) := by
    refine ⟨(fun k => if k = 0 then c0 else if k = 1 then c1 else if k = 2 then c2 else if k = 3 then c3 else if k = 4 then c4 else c5, fun k => if k = 0 then i0 else if k = 1 then i1 else if k = 2 then i2 else if k = 3 then i3 else if k = 4 then i4 else i5), ?_⟩
    intro k q hq
    match k, hq with
    | 0, hq => cases hq; exact k0
    | 1, hq => cases hq; exact k1
    | 2, hq => cases hq; exact k2
    | 3, hq => cases hq; exact k3
    | 4, hq => cases hq; exact k4
    | 5, hq => cases hq; exact k5
    | k + 6, hq => simp [gx_cl] at hq
  have hO : gz_O s := ⟨va_AO.of (hts _ ao_Qu), va_AO.of (hts _ ao_Ro), va_AO.of (hts _ ao_Jb)⟩
  obtain ⟨a0, g0⟩ := gl_ai (ht _ ac_int)
  obtain ⟨a1, g1⟩ := gl_ab (ht _ ac_boolean)
  obtain ⟨a2, g2⟩ := gl_ao hO.1
  obtain ⟨a3, g3⟩ := gl_ao hO.2.1
  obtain ⟨a4, g4⟩ := gl_ao hO.2.2
  obtain ⟨dA, hK⟩ : ∃ dA : Nat → ClassId, va_K D gx_cl (gx_tys dA) s := by
    refine ⟨fun k => if k = 0 then a0 else if k = 1 then a1 else if k = 2 then a2 else if k = 3 then a3 else a4, hKc, ?_⟩
    intro k q hq
    match k, hq with
    | 0, hq => cases hq; exact g0
    | 1, hq => cases hq; exact g1
    | 2, hq => cases hq; exact g2
    | 3, hq => cases hq; exact g3
    | 4, hq => cases hq; exact g4
    | k + 5, hq => simp [gx_tys] at hq
  have G : gx_G p m c code 4 s #[Value.ref b] gx_tb R_law D dA := ⟨⟨hx, hb, hml, hown, ht⟩, hK⟩
  obtain ⟨z, hz⟩ : ∃ z, z = s.heap.size := ⟨_, rfl⟩
  have hI : gz_I D (fun q : Nat => s.heap.size ≤ q) s.heap (fun _ => none) z s.heap [] := ⟨(fun q e h => by cases h), va_S.rf, hz.symm⟩
  have hA : ∀ q, z ≤ q → (fun q : Nat => s.heap.size ≤ q) q := fun q h => by rw [hz] at h; exact h
  have hl := lv_entry ([.ref b]) (n := 4) (Nat.le_of_ble_eq_true rfl)
  rw [lg_entry_eq]
  generalize (lg_sl ([.ref b]) ++ List.replicate (4 - (lg_sl ([.ref b])).length) Slot.unset).toArray = ls at hl ⊢
  have hl : lv_has ls 4 [(0, .ref b)] := hl
  refine gz_new G hI cl_Bo ck_La_7 is_Bo in_Bo (fs := [.int 0, .null, .null, .null, .int 0, .int 0]) (fun j hj => by have hj : j < 6 := hj; match j, hj with | 0, _ => rfl | 1, _ => rfl | 2, _ => rfl | 3, _ => rfl | 4, _ => rfl | 5, _ => rfl | j + 6, h => exact absurd h (by omega)) (Nat.le_of_ble_eq_true rfl) (Nat.le_of_ble_eq_true rfl) d_law_0 (fun H hI => ?_)
  refine lv_dup hx hb d_law_3 rfl ?_
  refine lv_aload_n hx hb d_law_4 rfl (lv_at hl 0 rfl) ?_
  refine lv_iconst (v := 0) hx hb d_law_5 (by decide) ?_
  refine gl_go (va_runS (As := [.ref b, .int 0]) (rest := [.ref z, .ref z]) G.1 (ct_La_cell l b L xs hLs) (cwS 2 ht gi_law_cell rfl rfl rfl (by decide +kernel) ⟨Nat.le_of_ble_eq_true rfl, Nat.le_of_ble_eq_true rfl⟩) ⟨fun a U g mk q => ⟨q.1, va_X.moved (u := U) (U := U.calling g mk a) (Vm.Alike.refl U.vm) q.2⟩, fun U hU hW => ⟨rfl, va_X.moved hW.alike (by rw [hU]; exact hX.kept (hI.2.1.2.1 b hbl hbA))⟩⟩ rfl rfl hl.1 rfl (lv_room (Nat.le_of_ble_eq_true rfl)) d_law_6 ⟨Nat.le_of_ble_eq_true rfl, Nat.le_of_ble_eq_true rfl⟩) ?_
  obtain ⟨x, ex⟩ : ∃ x : Int32, x = (if 0 < L then xs 0 else 0) := ⟨_, rfl⟩
  refine gx_top ex ?_
  refine gz_go (va_runI (As := [.int x]) (rest := [.ref z]) G.1 (ct_Bo_init l D dA _ _ (z + 1) z x gz_st_s (by omega) hA) (cwI 1 ht gi_Bo_init rfl rfl rfl (ht _ in_Bo) (ht _ mi_La_15) (ht _ im_Bo_init) rfl (by decide +kernel) ⟨Nat.le_of_ble_eq_true rfl, Nat.le_of_ble_eq_true rfl⟩) (gz_pre G hO hI) rfl rfl hl.1 rfl (lv_room (Nat.le_of_ble_eq_true rfl)) d_law_9 ⟨Nat.le_of_ble_eq_true rfl, Nat.le_of_ble_eq_true rfl⟩) hI (fun H locs hI => ?_)
  refine lv_astore_n (i := 1) (lv' := [(1, .ref z), (0, .ref b)]) hx hb d_law_12 rfl hl (by decide) rfl (fun ls hl => ?_)
  rw [show z + 1 + 721 = z + 722 by omega] at hI
  refine gz_new G hI cl_Mo ck_La_18 is_Mo in_Mo (fs := [.int 0, .int 0, .null, .null, .null, .null, .null, .null, .int 0, .int 0, .int 0, .int 0, .null, .null, .null, .null]) (fun j hj => by have hj : j < 16 := hj; match j, hj with | 0, _ => rfl | 1, _ => rfl | 2, _ => rfl | 3, _ => rfl | 4, _ => rfl | 5, _ => rfl | 6, _ => rfl | 7, _ => rfl | 8, _ => rfl | 9, _ => rfl | 10, _ => rfl | 11, _ => rfl | 12, _ => rfl | 13, _ => rfl | 14, _ => rfl | 15, _ => rfl | j + 16, h => exact absurd h (by omega)) (Nat.le_of_ble_eq_true rfl) (Nat.le_of_ble_eq_true rfl) d_law_13 (fun H hI => ?_)
  refine lv_dup hx hb d_law_16 rfl ?_
  refine lv_aload_n hx hb d_law_17 rfl (lv_at hl 1 rfl) ?_
  refine lv_iconst (v := 0) hx hb d_law_18 (by decide) ?_
  refine gl_go (va_runS (As := [.ref b, .int 0]) (rest := [.ref (z + 722), .ref (z + 722)]) G.1 (ct_La_cell l b L xs hLs) (cwS 2 ht gi_law_cell rfl rfl rfl (by decide +kernel) ⟨Nat.le_of_ble_eq_true rfl, Nat.le_of_ble_eq_true rfl⟩) ⟨fun a U g mk q => ⟨q.1, va_X.moved (u := U) (U := U.calling g mk a) (Vm.Alike.refl U.vm) q.2⟩, fun U hU hW => ⟨rfl, va_X.moved hW.alike (by rw [hU]; exact hX.kept (hI.2.1.2.1 b hbl hbA))⟩⟩ rfl rfl hl.1 rfl (lv_room (Nat.le_of_ble_eq_true rfl)) d_law_19 ⟨Nat.le_of_ble_eq_true rfl, Nat.le_of_ble_eq_true rfl⟩) ?_
  refine gx_top ex ?_
  refine gz_go (va_runI (As := [.int x]) (rest := [.ref (z + 722)]) G.1 (ct_Mo_init l D dA _ _ (z + 723) (z + 722) x gz_st_s (by omega) (fun q h => hA q (by omega))) (cwI 1 ht gi_Mo_init rfl rfl rfl (ht _ in_Mo) (ht _ mi_La_20) (ht _ im_Mo_init) rfl (by decide +kernel) ⟨Nat.le_of_ble_eq_true rfl, Nat.le_of_ble_eq_true rfl⟩) (gz_pre G hO hI) rfl rfl hl.1 rfl (lv_room (Nat.le_of_ble_eq_true rfl)) d_law_22 ⟨Nat.le_of_ble_eq_true rfl, Nat.le_of_ble_eq_true rfl⟩) hI (fun H locs hI => ?_)
  refine lv_astore_n (i := 2) (lv' := [(2, .ref (z + 722)), (1, .ref z), (0, .ref b)]) hx hb d_law_25 rfl hl (by decide) rfl (fun ls hl => ?_)
  refine lv_iconst (v := 1) hx hb d_law_26 (by decide) ?_
  refine lv_istore_n (i := 3) (lv' := [(3, .int 1), (2, .ref (z + 722)), (1, .ref z), (0, .ref b)]) hx hb d_law_27 rfl hl (by decide) rfl (fun ls hl => ?_)
  refine W.widen (k := 733) (n := 19239) (Nat.le_of_ble_eq_true rfl) (Nat.le_of_ble_eq_true rfl) ?_
  have hP : va_P D gx_cl (gx_ws dA (fun o => z + gl_ad o) (gl_s0 (gz_sx x))) H := gl_P hI.1
  have hAA : gx_A (fun q : Nat => s.heap.size ≤ q) (fun o => z + gl_ad o) := by
    rw [← hz]
    exact gl_inj
  exact law_loop (adr := fun o => z + gl_ad o) G hr hlocks hX hbl hAA hL N R hsim hmono 513 0 rfl (gl_s0 (gz_sx x)) H locs ls (h0 x) ⟨hP, hI.2.1⟩ hl

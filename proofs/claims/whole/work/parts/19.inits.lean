abbrev gz_j0 : List Value := [.int 0, .int 0, .int 0, .int 0, .int 0, .int 0, .int 0, .int 0, .int 0, .int 0, .int 0, .int 0, .int 0, .int 0]
abbrev gz_j (x : Int32) : List Value := [.int x, .int 0, .int 0, .int 0, .int 0, .int 0, .int 0, .int 0, .int 0, .int 0, .int 0, .int 0, .int 0, .int 0]
theorem gz_ss {S : Nat → Option va_E} {a : Nat} {e e' : va_E} : gz_st (gz_st S a e) a e' = gz_st S a e' := by
  funext q
  by_cases h : q = a
  · simp [gz_st, h]
  · simp [gz_st, h]
set_option maxHeartbeats 4000000 in
set_option maxRecDepth 100000 in
theorem ct_Jb_init (l : Launch) (D : va_G) (dA : Nat → ClassId) (A : Nat → Prop) (S : Nat → Option va_E) (z a : Nat) (x : Int32) (ha : S a = some (.inr (4, gz_j0))) (hA : A a) : Met l y_Jb_init w_Jb_init ({ frames := 1, cells := 0, slots := 0, locals := 12 }) (gz_Pc D dA S z [.ref a, .int x]) (gz_Q D A (gz_st S a (.inr (4, gz_j x))) z) 0 0 A := by
  refine Met.ofW (cc := b_Jb_init) (maxL := 2) (ret := none) (by decide) rfl ?_
  intro p e s m args below meth c s₁ B hml hv
  obtain ⟨rfl, hP, hz, hK, hO⟩ := hv
  have hx := B.exec
  have hb := B.bytes
  have hr := B.returns
  have hlocks := B.notSynchronized
  have hin : meth.name = "<init>" := (name_of_methodNamed B.named B.method).1
  have ht : ∀ w ∈ gx_tb, w.before _ s = true := fun w h => atoms_spec (ws := w_Jb_init) B.pre w (List.mem_cons_of_mem _ h)
  have hown : s.vm.findClass R_Jb = some m.cls := findClass_of_methodNamed B.named
  have G : gx_G p m c b_Jb_init 2 s _ gx_tb R_Jb D dA := ⟨⟨hx, hb, hml, hown, ht⟩, hK⟩
  have hI : gz_I D A s.heap S z s.heap [] := ⟨hP, va_S.rf, hz⟩
  have hl := lv_entry ([.ref a, .int x]) (n := 2) (Nat.le_of_ble_eq_true rfl)
  rw [lg_entry_eq]
  generalize (lg_sl ([.ref a, .int x]) ++ List.replicate (2 - (lg_sl ([.ref a, .int x])).length) Slot.unset).toArray = ls at hl ⊢
  have hl : lv_has ls 2 [(0, .ref a), (1, .int x)] := hl
  refine lv_aload_n hx hb d_Jb_init_0 rfl (lv_at hl 0 rfl) ?_
  refine W.objInit hx hb hown (ht _ mo_Jb_3) (ht _ im_oi) (ht _ co_oi) rfl (by rw [hml]; exact hl.1) rfl d_Jb_init_1 (Nat.le_of_ble_eq_true rfl) (Nat.le_of_ble_eq_true rfl) ?_
  refine W.eq (g2 := F0 m 4 ls []) rfl ?_
  refine lv_aload_n hx hb d_Jb_init_4 rfl (lv_at hl 0 rfl) ?_
  refine lv_iload_n hx hb d_Jb_init_5 rfl (lv_at hl 1 rfl) ?_
  refine gz_putF G hI cl_Jb ha hA 0 (by decide) fl_Jb_9 rfl hin rfl rfl rfl (by decide) d_Jb_init_6 (fun H locs hI => ?_)
  exact W.vret hx hb hr (gz_F hI) hI.2.1.2.2 d_Jb_init_9
abbrev gz_q0 : List Value := [.int 0, .int 0, .int 0, .int 0, .int 0, .int 0]
abbrev gz_q : List Value := [.int 1, .int 0, .int 0, .int 0, .int 1, .int 0]
set_option maxHeartbeats 4000000 in
set_option maxRecDepth 100000 in
theorem ct_Qu_init (l : Launch) (D : va_G) (dA : Nat → ClassId) (A : Nat → Prop) (S : Nat → Option va_E) (z a : Nat) (ha : S a = some (.inr (1, gz_q0))) (hA : A a) : Met l y_Qu_init w_Qu_init ({ frames := 1, cells := 0, slots := 0, locals := 12 }) (gz_Pc D dA S z [.ref a]) (gz_Q D A (gz_st S a (.inr (1, gz_q))) z) 0 0 A := by
  refine Met.ofW (cc := b_Qu_init) (maxL := 1) (ret := none) (by decide) rfl ?_
  intro p e s m args below meth c s₁ B hml hv
  obtain ⟨rfl, hP, hz, hK, hO⟩ := hv
  have hx := B.exec
  have hb := B.bytes
  have hr := B.returns
  have hlocks := B.notSynchronized
  have ht : ∀ w ∈ gx_tb, w.before _ s = true := fun w h => atoms_spec (ws := w_Qu_init) B.pre w (List.mem_cons_of_mem _ h)
  have hown : s.vm.findClass R_Qu = some m.cls := findClass_of_methodNamed B.named
  have G : gx_G p m c b_Qu_init 1 s _ gx_tb R_Qu D dA := ⟨⟨hx, hb, hml, hown, ht⟩, hK⟩
  have hI : gz_I D A s.heap S z s.heap [] := ⟨hP, va_S.rf, hz⟩
  have hl := lv_entry ([.ref a]) (n := 1) (Nat.le_of_ble_eq_true rfl)
  rw [lg_entry_eq]
  generalize (lg_sl ([.ref a]) ++ List.replicate (1 - (lg_sl ([.ref a])).length) Slot.unset).toArray = ls at hl ⊢
  have hl : lv_has ls 1 [(0, .ref a)] := hl
  refine lv_aload_n hx hb d_Qu_init_0 rfl (lv_at hl 0 rfl) ?_
  refine W.objInit hx hb hown (ht _ mo_Qu_1) (ht _ im_oi) (ht _ co_oi) rfl (by rw [hml]; exact hl.1) rfl d_Qu_init_1 (Nat.le_of_ble_eq_true rfl) (Nat.le_of_ble_eq_true rfl) ?_
  refine W.eq (g2 := F0 m 4 ls []) rfl ?_
  refine lv_aload_n hx hb d_Qu_init_4 rfl (lv_at hl 0 rfl) ?_
  refine lv_iconst (v := 1) hx hb d_Qu_init_5 (by decide) ?_
  refine gz_put G hI cl_Qu ha hA 0 (by decide) fl_Qu_7 rfl rfl rfl (by decide) d_Qu_init_6 (fun H locs hI => ?_)
  refine lv_aload_n hx hb d_Qu_init_9 rfl (lv_at hl 0 rfl) ?_
  refine lv_iconst (v := 1) hx hb d_Qu_init_10 (by decide) ?_
  refine gz_put G hI cl_Qu gz_st_s hA 4 (by decide) fl_Qu_13 rfl rfl rfl (by decide) d_Qu_init_11 (fun H locs hI => ?_)
  rw [gz_ss] at hI
  exact W.vret hx hb hr (gz_F hI) hI.2.1.2.2 d_Qu_init_14
/-- the first i places of an array hold what lies at b, b + w .. -/
def gz_af (b w i : Nat) : Nat → Option Nat := fun j => if j < i then some (b + w * j) else none
theorem gz_af_0 {b w : Nat} : (fun _ => none) = gz_af b w 0 := by
  funext j
  simp [gz_af]
theorem gz_af_s {b w i : Nat} : va_up (gz_af b w i) i (some (b + w * i)) = gz_af b w (i + 1) := by
  funext j
  by_cases h : j = i
  · subst h; simp [va_up, gz_af]
  · by_cases h2 : j < i
    · simp [va_up, gz_af, h, h2, show j < i + 1 by omega]
    · simp [va_up, gz_af, h, h2, show ¬ j < i + 1 by omega]
abbrev gz_ra (cA : ClassId) (n : Nat) (f : Nat → Option Nat) : va_E := .inl (cA, n, .inr (.inr (.inr (.inr f))))
/-- a roster at a, its array at z, its first i jobs behind it -/
def gz_ro (dA : Nat → ClassId) (S : Nat → Option va_E) (a z i : Nat) : Nat → Option va_E := fun q => if q = a then some (.inr (3, [.ref z, .int 0, .int 0])) else if q = z then some (gz_ra (dA 4) 40 (gz_af (z + 1) 1 i)) else if z + 1 ≤ q ∧ q < z + 1 + i then some (.inr (4, gz_j (nI (q - (z + 1))))) else S q
theorem gz_ro_s {dA : Nat → ClassId} {S : Nat → Option va_E} {a z i : Nat} (ha : a < z) : gz_st (gz_st (gz_st (gz_ro dA S a z i) (z + 1 + i) (.inr (4, gz_j0))) (z + 1 + i) (.inr (4, gz_j (nI i)))) z (gz_ra (dA 4) 40 (gz_af (z + 1) 1 (i + 1))) = gz_ro dA S a z (i + 1) := by
  funext q
  by_cases h1 : q = a
  · subst h1
    simp [gz_st, gz_ro, show ¬ q = z by omega, show ¬ q = z + 1 + i by omega]
  · by_cases h2 : q = z
    · subst h2
      simp [gz_st, gz_ro, h1]
    · by_cases h3 : q = z + 1 + i
      · subst h3
        simp [gz_st, gz_ro, h1, h2]
      · by_cases h4 : z + 1 ≤ q ∧ q < z + 1 + i
        · simp [gz_st, gz_ro, h1, h2, h3, h4, show q < z + 1 + (i + 1) by omega]
        · have h5 : ¬ (z + 1 ≤ q ∧ q < z + 1 + (i + 1)) := by omega
          simp only [gz_st, gz_ro, h1, h2, h3, h4, h5, if_false]
abbrev rm_Ro_init : Room := { frames := 2, cells := 41, slots := 600, locals := 33 }
set_option maxHeartbeats 4000000 in
set_option maxRecDepth 100000 in
theorem wl_Ro_init {p : Program} {l : Launch} {e : Env} {s : State} {m : MethodId} {args : Array Value} {below : List Frame} {meth : Method} {c : Code} {D : va_G} {dA : Nat → ClassId} {A : Nat → Prop} (G : gx_G p m c b_Ro_init 2 s args gx_tb R_Ro D dA) (hr : meth.sig.returnType = none) (hlocks : meth.locks = false) (hO : gz_O s) (S : Nat → Option va_E) (z a : Nat) (haz : a < z) (hA : ∀ q, a ≤ q → A q) : ∀ (n i : Nat), i + n = 40 → ∀ (H : Heap) (locs : List Loc) (ls : Array Slot), gz_I D A s.heap (gz_ro dA S a z i) (z + 1 + i) H locs → lv_has ls 2 [(1, .int (nI i)), (0, .ref a)] → W p l e (headSpec w_Ro_init rm_Ro_init).room s m args below meth c H locs (1 + i) (40 + 14 * i) (MQ below (gz_Q D A (gz_ro dA S a z 40) (z + 41)) args s 41 600 A) (F0 m 15 ls []) := by
  obtain ⟨⟨hx, hb, hml, hown, ht⟩, hK⟩ := id G
  have hN4 : gx_N 4 = 14 := rfl
  intro n
  induction n with
  | zero =>
    intro i hi H locs ls hI hl
    obtain rfl : i = 40 := by omega
    refine lv_iload_n hx hb d_Ro_init_15 rfl (lv_at hl 0 rfl) ?_
    refine lv_bipush (v := 40) hx hb d_Ro_init_16 (by decide) ?_
    refine lv_icmp_ge (tgt := 41) hx hb d_Ro_init_18 (by decide) (fun c1 => ?_) (fun c1 => absurd (by decide) c1)
    exact W.vret hx hb hr (gz_F hI) hI.2.1.2.2 d_Ro_init_41
  | succ n ih =>
    intro i hi H locs ls hI hl
    refine lv_iload_n hx hb d_Ro_init_15 rfl (lv_at hl 0 rfl) ?_
    refine lv_bipush (v := 40) hx hb d_Ro_init_16 (by decide) ?_
    refine lv_icmp_ge (tgt := 41) hx hb d_Ro_init_18 (by decide) (fun c1 => absurd (show nI 40 ≤ nI i from c1) (nI_ge (by omega) (by decide))) (fun c1 => ?_)
    refine lv_aload_n hx hb d_Ro_init_21 rfl (lv_at hl 1 rfl) ?_
    refine gz_get G hI cl_Ro (fs := [.ref z, .int 0, .int 0]) (by simp [gz_ro]) 0 (by decide) fl_Ro_11 rfl d_Ro_init_22 ?_
    refine lv_iload_n hx hb d_Ro_init_25 rfl (lv_at hl 0 rfl) ?_
    refine gz_new G hI cl_Jb ck_Ro_9 is_Jb in_Jb (fs := gz_j0) (fun j hj => by have hj : j < 14 := hj; match j, hj with | 0, _ => rfl | 1, _ => rfl | 2, _ => rfl | 3, _ => rfl | 4, _ => rfl | 5, _ => rfl | 6, _ => rfl | 7, _ => rfl | 8, _ => rfl | 9, _ => rfl | 10, _ => rfl | 11, _ => rfl | 12, _ => rfl | 13, _ => rfl | j + 14, h => exact absurd h (by omega)) (show 1 + i + 1 ≤ 41 by omega) (show 40 + 14 * i + 14 ≤ 600 by omega) d_Ro_init_26 (fun H hI => ?_)
    refine W.widen (k := 1 + (i + 1)) (n := 40 + 14 * (i + 1)) (by omega) (by rw [hN4]; omega) ?_
    refine lv_dup hx hb d_Ro_init_29 rfl ?_
    refine lv_iload_n hx hb d_Ro_init_30 rfl (lv_at hl 0 rfl) ?_
    refine gz_go (va_runI (As := [.int (nI i)]) (rest := [.ref (z + 1 + i), .int (nI i), .ref z]) G.1 (ct_Jb_init l D dA A _ (z + 1 + i + 1) (z + 1 + i) (nI i) gz_st_s (hA _ (by omega))) (cwI 1 ht gi_Jb_init rfl rfl rfl (ht _ in_Jb) (ht _ mi_Ro_17) (ht _ im_Jb_init) rfl (by decide +kernel) ⟨Nat.le_of_ble_eq_true rfl, Nat.le_of_ble_eq_true rfl⟩) (gz_pre G hO hI) rfl rfl hl.1 rfl (lv_room (Nat.le_of_ble_eq_true rfl)) d_Ro_init_31 ⟨show 1 + (i + 1) + 0 ≤ 41 by omega, show 40 + 14 * (i + 1) + 0 ≤ 600 by omega⟩) hI (fun H locs hI => ?_)
    refine gz_ast G hI (k := 4) (n := 40) (f := gz_af (z + 1) 1 i) (r := (R_Jb, F_Jb, 14)) (ci := 4) (vs := gz_j (nI i)) (by simp [gz_st, gz_ro, show ¬ z = z + 1 + i by omega, show ¬ z = a by omega]) (hA _ (by omega)) rfl gz_st_s rfl (vp_in_nI (by omega) (by decide)) d_Ro_init_34 (fun H locs hI => ?_)
    rw [nI_clamp (by omega), show some (z + 1 + i) = some (z + 1 + 1 * i) by rw [Nat.one_mul], gz_af_s, gz_ro_s haz] at hI
    refine lv_iinc (v := nI i + 1) (lv' := [(1, .int (nI i + 1)), (0, .ref a)]) hx hb d_Ro_init_35 hl (k := 0) rfl rfl (by decide) rfl (fun ls hl => ?_)
    refine lv_goto (tgt := 15) hx hb d_Ro_init_38 (by decide) ?_
    rw [nI_1] at hl
    exact ih (i + 1) (by omega) H locs ls hI hl
set_option maxHeartbeats 4000000 in
set_option maxRecDepth 100000 in
theorem ct_Ro_init (l : Launch) (D : va_G) (dA : Nat → ClassId) (A : Nat → Prop) (S : Nat → Option va_E) (z a : Nat) (ha : S a = some (.inr (3, [.null, .int 0, .int 0]))) (haz : a < z) (hA : ∀ q, a ≤ q → A q) : Met l y_Ro_init w_Ro_init rm_Ro_init (gz_Pc D dA S z [.ref a]) (gz_Q D A (gz_ro dA S a z 40) (z + 41)) 41 600 A := by
  refine Met.ofW (cc := b_Ro_init) (maxL := 2) (ret := none) (by decide) rfl ?_
  intro p e s m args below meth c s₁ B hml hv
  obtain ⟨rfl, hP, hz, hK, hO⟩ := hv
  have hx := B.exec
  have hb := B.bytes
  have hr := B.returns
  have hlocks := B.notSynchronized
  have hin : meth.name = "<init>" := (name_of_methodNamed B.named B.method).1
  have ht : ∀ w ∈ gx_tb, w.before _ s = true := fun w h => atoms_spec (ws := w_Ro_init) B.pre w (List.mem_cons_of_mem _ h)
  have hown : s.vm.findClass R_Ro = some m.cls := findClass_of_methodNamed B.named
  have G : gx_G p m c b_Ro_init 2 s _ gx_tb R_Ro D dA := ⟨⟨hx, hb, hml, hown, ht⟩, hK⟩
  have hI : gz_I D A s.heap S z s.heap [] := ⟨hP, va_S.rf, hz⟩
  have hl := lv_entry ([.ref a]) (n := 2) (Nat.le_of_ble_eq_true rfl)
  rw [lg_entry_eq]
  generalize (lg_sl ([.ref a]) ++ List.replicate (2 - (lg_sl ([.ref a])).length) Slot.unset).toArray = ls at hl ⊢
  have hl : lv_has ls 2 [(0, .ref a)] := hl
  refine lv_aload_n hx hb d_Ro_init_0 rfl (lv_at hl 0 rfl) ?_
  refine W.objInit hx hb hown (ht _ mo_Ro_3) (ht _ im_oi) (ht _ co_oi) rfl (by rw [hml]; exact hl.1) rfl d_Ro_init_1 (Nat.le_of_ble_eq_true rfl) (Nat.le_of_ble_eq_true rfl) ?_
  refine W.eq (g2 := F0 m 4 ls []) rfl ?_
  refine lv_aload_n hx hb d_Ro_init_4 rfl (lv_at hl 0 rfl) ?_
  refine lv_bipush (v := 40) hx hb d_Ro_init_5 (by decide) ?_
  refine gz_anew G hI ck_Ro_9 hO.2.2 (k := 4) rfl (N := 40) (by decide) (by decide) (by decide) (Nat.le_of_ble_eq_true rfl) (Nat.le_of_ble_eq_true rfl) d_Ro_init_7 (fun H hI => ?_)
  refine gz_putF G hI cl_Ro (fs := [.null, .int 0, .int 0]) (v := .ref z) (by rw [gz_st_n (by omega)]; exact ha) (hA _ (Nat.le_refl _)) 0 (by decide) fl_Ro_11 rfl hin rfl rfl rfl (by decide) d_Ro_init_10 (fun H locs hI => ?_)
  refine lv_iconst (v := 0) hx hb d_Ro_init_13 (by decide) ?_
  refine lv_istore_n (i := 1) (lv' := [(1, .int 0), (0, .ref a)]) hx hb d_Ro_init_14 rfl hl (by decide) rfl (fun ls hl => ?_)
  refine W.widen (k := 1 + 0) (n := 40 + 14 * 0) (by omega) (by omega) ?_
  refine wl_Ro_init G hr hlocks hO S z a haz hA 40 0 rfl H locs ls ?_ hl
  have e9 : gz_st (gz_st S z (.inl (dA 4, 40, .inr (.inr (.inr (.inr (fun _ => none))))))) a (.inr (3, [.ref z, .int 0, .int 0])) = gz_ro dA S a z 0 := by
    funext q
    by_cases h1 : q = a
    · subst h1; simp [gz_st, gz_ro]
    · by_cases h2 : q = z
      · subst h2; simp only [gz_st, gz_ro, h1, if_false, if_true]; rw [gz_af_0 (b := q + 1) (w := 1)]
      · have h5 : ¬ (z + 1 ≤ q ∧ q < z + 1 + 0) := by omega
        simp only [gz_st, gz_ro, h1, h2, h5, if_false]
  exact e9 ▸ hI

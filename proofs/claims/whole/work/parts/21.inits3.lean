theorem gz_sw {S : Nat → Option va_E} {a b : Nat} {e e' e'' : va_E} (h : a ≠ b) : gz_st (gz_st (gz_st S a e) b e') a e'' = gz_st (gz_st S b e') a e'' := by
  funext q
  by_cases h1 : q = a
  · simp [gz_st, h1]
  · by_cases h2 : q = b
    · simp [gz_st, h1, h2]
    · simp [gz_st, h1, h2]
theorem gz_swI {D : va_G} {A : Nat → Prop} {H0 : Heap} {z : Nat} {H : Heap} {locs : List Loc} {S : Nat → Option va_E} {a b : Nat} {e e' e'' : va_E} (h : a ≠ b) (hI : gz_I D A H0 (gz_st (gz_st (gz_st S a e) b e') a e'') z H locs) : gz_I D A H0 (gz_st (gz_st S b e') a e'') z H locs := gz_sw h ▸ hI
theorem gz_ssI {D : va_G} {A : Nat → Prop} {H0 : Heap} {z : Nat} {H : Heap} {locs : List Loc} {S : Nat → Option va_E} {a : Nat} {e e' : va_E} (hI : gz_I D A H0 (gz_st (gz_st S a e) a e') z H locs) : gz_I D A H0 (gz_st S a e') z H locs := gz_ss ▸ hI
abbrev gz_mf (z : Nat) (x : Int32) : List Value := [.int x, .int 0, .ref (z), .ref (z + 1), .ref (z + 2), .ref (z + 3), .ref (z + 4), .ref (z + 5), .int (-1), .int 0, .int 0, .int 0, .ref (z + 6), .ref (z + 7), .ref (z + 8), .ref (z + 9)]
/-- the reference's arrays, made: from z on -/
def gz_ma (dA : Nat → ClassId) (S : Nat → Option va_E) (z : Nat) : Nat → Option va_E := gz_st (gz_st (gz_st (gz_st (gz_st (gz_st (gz_st (gz_st (gz_st (gz_st (S) (z) (.inl (dA 0, 4, .inl (fun _ => 0)))) (z + 1) (.inl (dA 0, 4, .inl (fun _ => 0)))) (z + 2) (.inl (dA 0, 4, .inl (fun _ => 0)))) (z + 3) (.inl (dA 0, 4, .inl (fun _ => 0)))) (z + 4) (.inl (dA 0, 4, .inl (fun _ => 0)))) (z + 5) (.inl (dA 0, 4, .inl (fun _ => 0)))) (z + 6) (.inl (dA 0, 520, .inl (fun _ => 0)))) (z + 7) (.inl (dA 0, 8320, .inl (fun _ => 0)))) (z + 8) (.inl (dA 0, 16, .inl (fun _ => 0)))) (z + 9) (.inl (dA 1, 40, .inl (fun _ => 0)))
def gz_ws1 (i : Nat) : Nat → Int32 := fun j => if j < i then 1 else 0
theorem gz_ws1_s {i : Nat} : upd (gz_ws1 i) i 1 = gz_ws1 (i + 1) := by
  funext j
  by_cases h : j = i
  · subst h; simp [upd, gz_ws1]
  · by_cases h2 : j < i
    · simp [upd, gz_ws1, h, h2, show j < i + 1 by omega]
    · simp [upd, gz_ws1, h, h2, show ¬ j < i + 1 by omega]
/-- the reference, made: at a, its arrays from z on; i of its queues set -/
def gz_mo (dA : Nat → ClassId) (S : Nat → Option va_E) (a z : Nat) (x : Int32) (i : Nat) : Nat → Option va_E := gz_st (gz_st (gz_st (gz_ma dA S z) a (.inr (5, gz_mf z x))) z (.inl (dA 0, 4, .inl (gz_ws1 i)))) (z + 4) (.inl (dA 0, 4, .inl (gz_ws1 i)))
abbrev rm_Mo_init : Room := { frames := 1, cells := 10, slots := 8920, locals := 12 }
set_option maxHeartbeats 4000000 in
set_option maxRecDepth 100000 in
theorem wl_Mo_init {p : Program} {l : Launch} {e : Env} {s : State} {m : MethodId} {args : Array Value} {below : List Frame} {meth : Method} {c : Code} {D : va_G} {dA : Nat → ClassId} {A : Nat → Prop} (G : gx_G p m c b_Mo_init 3 s args gx_tb R_Mo D dA) (hr : meth.sig.returnType = none) (hlocks : meth.locks = false) (S : Nat → Option va_E) (z a : Nat) (x : Int32) (haz : a < z) (hA : ∀ q, a ≤ q → A q) : ∀ (n i : Nat), i + n = 4 → ∀ (H : Heap) (locs : List Loc) (ls : Array Slot), gz_I D A s.heap (gz_mo dA S a z x i) (z + 10) H locs → lv_has ls 3 [(2, .int (nI i)), (0, .ref a)] → W p l e (headSpec w_Mo_init rm_Mo_init).room s m args below meth c H locs 10 8920 (MQ below (gz_Q D A (gz_mo dA S a z x 4) (z + 10)) args s 10 8920 A) (F0 m 121 ls []) := by
  obtain ⟨⟨hx, hb, hml, hown, ht⟩, hK⟩ := id G
  intro n
  induction n with
  | zero =>
    intro i hi H locs ls hI hl
    obtain rfl : i = 4 := by omega
    refine lv_iload_n hx hb d_Mo_init_121 rfl (lv_at hl 0 rfl) ?_
    refine lv_iconst (v := 4) hx hb d_Mo_init_122 (by decide) ?_
    refine lv_icmp_ge (tgt := 146) hx hb d_Mo_init_123 (by decide) (fun c1 => ?_) (fun c1 => absurd (by decide) c1)
    exact W.vret hx hb hr (gz_F hI) hI.2.1.2.2 d_Mo_init_146
  | succ n ih =>
    intro i hi H locs ls hI hl
    have e1 : gz_st (gz_st (gz_mo dA S a z x i) z (.inl (dA 0, 4, .inl (gz_ws1 (i + 1))))) (z + 4) (.inl (dA 0, 4, .inl (gz_ws1 (i + 1)))) = gz_mo dA S a z x (i + 1) := by
      funext q
      by_cases h1 : q = z + 4
      · simp [gz_st, gz_mo, h1]
      · by_cases h2 : q = z
        · simp [gz_st, gz_mo, h2]
        · simp [gz_st, gz_mo, h1, h2]
    have e2 : gz_mo dA S a z x i a = some (.inr (5, gz_mf z x)) := by
      simp [gz_mo, gz_st, show ¬ a = z + 4 by omega, show ¬ a = z by omega]
    refine lv_iload_n hx hb d_Mo_init_121 rfl (lv_at hl 0 rfl) ?_
    refine lv_iconst (v := 4) hx hb d_Mo_init_122 (by decide) ?_
    refine lv_icmp_ge (tgt := 146) hx hb d_Mo_init_123 (by decide) (fun c1 => absurd (show nI 4 ≤ nI i from c1) (nI_ge (by omega) (by decide))) (fun c1 => ?_)
    refine lv_aload_n hx hb d_Mo_init_126 rfl (lv_at hl 1 rfl) ?_
    refine gz_get G hI cl_Mo e2 2 (by decide) fl_Mo_13 rfl d_Mo_init_127 ?_
    refine lv_iload_n hx hb d_Mo_init_130 rfl (lv_at hl 0 rfl) ?_
    refine lv_iconst (v := 1) hx hb d_Mo_init_131 (by decide) ?_
    refine gz_iast G hI (n := 4) (f := gz_ws1 i) (by simp [gz_mo, gz_st]) (hA _ (by omega)) (vp_in_nI (by omega) (by decide)) d_Mo_init_132 (fun H locs hI => ?_)
    rw [nI_clamp (by omega), gz_ws1_s] at hI
    refine lv_aload_n hx hb d_Mo_init_133 rfl (lv_at hl 1 rfl) ?_
    refine gz_get G hI cl_Mo (by rw [gz_st_n (by omega)]; exact e2) 6 (by decide) fl_Mo_26 rfl d_Mo_init_134 ?_
    refine lv_iload_n hx hb d_Mo_init_137 rfl (lv_at hl 0 rfl) ?_
    refine lv_iconst (v := 1) hx hb d_Mo_init_138 (by decide) ?_
    refine gz_iast G hI (n := 4) (f := gz_ws1 i) (by rw [gz_st_n (by omega)]; simp [gz_mo, gz_st]) (hA _ (by omega)) (vp_in_nI (by omega) (by decide)) d_Mo_init_139 (fun H locs hI => ?_)
    rw [nI_clamp (by omega), gz_ws1_s, e1] at hI
    refine lv_iinc (v := nI i + 1) (lv' := [(2, .int (nI i + 1)), (0, .ref a)]) hx hb d_Mo_init_140 hl (k := 0) rfl rfl (by decide) rfl (fun ls hl => ?_)
    refine lv_goto (tgt := 121) hx hb d_Mo_init_143 (by decide) ?_
    rw [nI_1] at hl
    exact ih (i + 1) (by omega) H locs ls hI hl
set_option maxHeartbeats 4000000 in
set_option maxRecDepth 100000 in
theorem wm_Mo_init {p : Program} {l : Launch} {e : Env} {s : State} {m : MethodId} {args : Array Value} {below : List Frame} {meth : Method} {c : Code} {D : va_G} {dA : Nat → ClassId} {A : Nat → Prop} (G : gx_G p m c b_Mo_init 3 s args gx_tb R_Mo D dA) (hr : meth.sig.returnType = none) (hin : meth.name = "<init>") (hlocks : meth.locks = false) (S : Nat → Option va_E) (z a : Nat) (x : Int32) (haz : a < z) (hA : ∀ q, a ≤ q → A q) (H : Heap) (locs : List Loc) (ls : Array Slot) (hI : gz_I D A s.heap (gz_st (gz_ma dA S z) a (.inr (5, gz_mf z 0))) (z + 10) H locs) (hl : lv_has ls 3 [(0, .ref a), (1, .int x)]) : W p l e (headSpec w_Mo_init rm_Mo_init).room s m args below meth c H locs 10 8920 (MQ below (gz_Q D A (gz_mo dA S a z (gz_sx x) 4) (z + 10)) args s 10 8920 A) (F0 m 116 ls [.int (gz_sx x), .ref a]) := by
  obtain ⟨⟨hx, hb, hml, hown, ht⟩, hK⟩ := id G
  refine gz_putF G hI cl_Mo gz_st_s (hA _ (Nat.le_refl _)) 0 (by decide) fl_Mo_57 rfl hin rfl (gz_nar x) (gz_fit x) (Nat.le_of_ble_eq_true rfl) d_Mo_init_116 (fun H locs hI => ?_)
  rw [gz_ss] at hI
  refine lv_iconst (v := 0) hx hb d_Mo_init_119 (by decide) ?_
  refine lv_istore_n (i := 2) (lv' := [(2, .int 0), (0, .ref a), (1, .int x)]) hx hb d_Mo_init_120 rfl hl (by decide) rfl (fun ls hl => ?_)
  refine wl_Mo_init G hr hlocks S z a (gz_sx x) haz hA 4 0 rfl H locs ls ?_ (lv_sub hl [0, 1] rfl)
  have e9 : gz_st (gz_ma dA S z) a (.inr (5, gz_mf z (gz_sx x))) = gz_mo dA S a z (gz_sx x) 0 := by
    have h0 : gz_ws1 0 = fun _ => 0 := by funext j; simp [gz_ws1]
    funext q
    by_cases h1 : q = z + 4
    · subst h1
      simp [gz_mo, gz_st, h0, gz_ma, show ¬ z + 4 = a by omega]
    · by_cases h2 : q = z
      · subst h2
        simp [gz_mo, gz_st, h0, gz_ma, show ¬ q = a by omega]
      · simp [gz_mo, gz_st, h1, h2]
  exact e9 ▸ hI
set_option maxHeartbeats 4000000 in
set_option maxRecDepth 100000 in
theorem ct_Mo_init (l : Launch) (D : va_G) (dA : Nat → ClassId) (A : Nat → Prop) (S : Nat → Option va_E) (z a : Nat) (x : Int32) (ha : S a = some (.inr (5, [.int 0, .int 0, .null, .null, .null, .null, .null, .null, .int 0, .int 0, .int 0, .int 0, .null, .null, .null, .null]))) (haz : a < z) (hA : ∀ q, a ≤ q → A q) : Met l y_Mo_init w_Mo_init rm_Mo_init (gz_Pc D dA S z [.ref a, .int x]) (gz_Q D A (gz_mo dA S a z (gz_sx x) 4) (z + 10)) 10 8920 A := by
  refine Met.ofW (cc := b_Mo_init) (maxL := 3) (ret := none) (by decide) rfl ?_
  intro p e s m args below meth c s₁ B hml hv
  obtain ⟨rfl, hP, hz, hK, hO⟩ := hv
  have hx := B.exec
  have hb := B.bytes
  have hr := B.returns
  have hlocks := B.notSynchronized
  have hin : meth.name = "<init>" := (name_of_methodNamed B.named B.method).1
  have ht : ∀ w ∈ gx_tb, w.before _ s = true := fun w h => atoms_spec (ws := w_Mo_init) B.pre w (List.mem_cons_of_mem _ h)
  have hown : s.vm.findClass R_Mo = some m.cls := findClass_of_methodNamed B.named
  have G : gx_G p m c b_Mo_init 3 s _ gx_tb R_Mo D dA := ⟨⟨hx, hb, hml, hown, ht⟩, hK⟩
  have hI : gz_I D A s.heap S z s.heap [] := ⟨hP, va_S.rf, hz⟩
  have hl := lv_entry ([.ref a, .int x]) (n := 3) (Nat.le_of_ble_eq_true rfl)
  rw [lg_entry_eq]
  generalize (lg_sl ([.ref a, .int x]) ++ List.replicate (3 - (lg_sl ([.ref a, .int x])).length) Slot.unset).toArray = ls at hl ⊢
  have hl : lv_has ls 3 [(0, .ref a), (1, .int x)] := hl
  refine lv_aload_n hx hb d_Mo_init_0 rfl (lv_at hl 0 rfl) ?_
  refine W.objInit hx hb hown (ht _ mo_Mo_1) (ht _ im_oi) (ht _ co_oi) rfl (by rw [hml]; exact hl.1) rfl d_Mo_init_1 (Nat.le_of_ble_eq_true rfl) (Nat.le_of_ble_eq_true rfl) ?_
  refine W.eq (g2 := F0 m 4 ls []) rfl ?_
  refine lv_aload_n hx hb d_Mo_init_4 rfl (lv_at hl 0 rfl) ?_
  refine lv_iconst (v := 0) hx hb d_Mo_init_5 (by decide) ?_
  refine gz_put G hI cl_Mo (fs := [.int 0, .int 0, .null, .null, .null, .null, .null, .null, .int 0, .int 0, .int 0, .int 0, .null, .null, .null, .null]) (v := .int 0) ha (hA _ (Nat.le_refl _)) 1 (by decide) fl_Mo_7 rfl rfl rfl (Nat.le_of_ble_eq_true rfl) d_Mo_init_6 (fun H locs hI => ?_)
  refine lv_aload_n hx hb d_Mo_init_9 rfl (lv_at hl 0 rfl) ?_
  refine lv_iconst (v := 4) hx hb d_Mo_init_10 (by decide) ?_
  refine gz_newa G hI ac_int (k := 0) rfl (a0 := fun _ => 0) (N := 4) rfl (by decide) (by decide) (by decide) (Nat.le_of_ble_eq_true rfl) (Nat.le_of_ble_eq_true rfl) d_Mo_init_11 (fun H hI => ?_)
  refine gz_putF G hI cl_Mo (fs := [.int 0, .int 0, .null, .null, .null, .null, .null, .null, .int 0, .int 0, .int 0, .int 0, .null, .null, .null, .null]) (v := .ref (z)) (by rw [gz_st_n (by omega)]; exact gz_st_s) (hA _ (Nat.le_refl _)) 2 (by decide) fl_Mo_13 rfl hin rfl rfl rfl (Nat.le_of_ble_eq_true rfl) d_Mo_init_13 (fun H locs hI => ?_)
  have hI : gz_I D A s.heap (gz_st (gz_st (S) (z) (.inl (dA 0, 4, .inl (fun _ => 0)))) a (.inr (5, [.int 0, .int 0, .ref z, .null, .null, .null, .null, .null, .int 0, .int 0, .int 0, .int 0, .null, .null, .null, .null]))) (z + 1) H locs := gz_swI (show a ≠ z by omega) hI
  refine lv_aload_n hx hb d_Mo_init_16 rfl (lv_at hl 0 rfl) ?_
  refine lv_iconst (v := 4) hx hb d_Mo_init_17 (by decide) ?_
  refine gz_newa G hI ac_int (k := 0) rfl (a0 := fun _ => 0) (N := 4) rfl (by decide) (by decide) (by decide) (Nat.le_of_ble_eq_true rfl) (Nat.le_of_ble_eq_true rfl) d_Mo_init_18 (fun H hI => ?_)
  refine gz_putF G hI cl_Mo (fs := [.int 0, .int 0, .ref (z), .null, .null, .null, .null, .null, .int 0, .int 0, .int 0, .int 0, .null, .null, .null, .null]) (v := .ref (z + 1)) (by rw [gz_st_n (by omega)]; exact gz_st_s) (hA _ (Nat.le_refl _)) 3 (by decide) fl_Mo_17 rfl hin rfl rfl rfl (Nat.le_of_ble_eq_true rfl) d_Mo_init_20 (fun H locs hI => ?_)
  have hI : gz_I D A s.heap (gz_st (gz_st (gz_st (S) (z) (.inl (dA 0, 4, .inl (fun _ => 0)))) (z + 1) (.inl (dA 0, 4, .inl (fun _ => 0)))) a (.inr (5, [.int 0, .int 0, .ref z, .ref (z + 1), .null, .null, .null, .null, .int 0, .int 0, .int 0, .int 0, .null, .null, .null, .null]))) (z + 2) H locs := gz_swI (show a ≠ z + 1 by omega) hI
  refine lv_aload_n hx hb d_Mo_init_23 rfl (lv_at hl 0 rfl) ?_
  refine lv_iconst (v := 4) hx hb d_Mo_init_24 (by decide) ?_
  refine gz_newa G hI ac_int (k := 0) rfl (a0 := fun _ => 0) (N := 4) rfl (by decide) (by decide) (by decide) (Nat.le_of_ble_eq_true rfl) (Nat.le_of_ble_eq_true rfl) d_Mo_init_25 (fun H hI => ?_)
  refine gz_putF G hI cl_Mo (fs := [.int 0, .int 0, .ref (z), .ref (z + 1), .null, .null, .null, .null, .int 0, .int 0, .int 0, .int 0, .null, .null, .null, .null]) (v := .ref (z + 2)) (by rw [gz_st_n (by omega)]; exact gz_st_s) (hA _ (Nat.le_refl _)) 4 (by decide) fl_Mo_20 rfl hin rfl rfl rfl (Nat.le_of_ble_eq_true rfl) d_Mo_init_27 (fun H locs hI => ?_)
  have hI : gz_I D A s.heap (gz_st (gz_st (gz_st (gz_st (S) (z) (.inl (dA 0, 4, .inl (fun _ => 0)))) (z + 1) (.inl (dA 0, 4, .inl (fun _ => 0)))) (z + 2) (.inl (dA 0, 4, .inl (fun _ => 0)))) a (.inr (5, [.int 0, .int 0, .ref z, .ref (z + 1), .ref (z + 2), .null, .null, .null, .int 0, .int 0, .int 0, .int 0, .null, .null, .null, .null]))) (z + 3) H locs := gz_swI (show a ≠ z + 2 by omega) hI
  refine lv_aload_n hx hb d_Mo_init_30 rfl (lv_at hl 0 rfl) ?_
  refine lv_iconst (v := 4) hx hb d_Mo_init_31 (by decide) ?_
  refine gz_newa G hI ac_int (k := 0) rfl (a0 := fun _ => 0) (N := 4) rfl (by decide) (by decide) (by decide) (Nat.le_of_ble_eq_true rfl) (Nat.le_of_ble_eq_true rfl) d_Mo_init_32 (fun H hI => ?_)
  refine gz_putF G hI cl_Mo (fs := [.int 0, .int 0, .ref (z), .ref (z + 1), .ref (z + 2), .null, .null, .null, .int 0, .int 0, .int 0, .int 0, .null, .null, .null, .null]) (v := .ref (z + 3)) (by rw [gz_st_n (by omega)]; exact gz_st_s) (hA _ (Nat.le_refl _)) 5 (by decide) fl_Mo_23 rfl hin rfl rfl rfl (Nat.le_of_ble_eq_true rfl) d_Mo_init_34 (fun H locs hI => ?_)
  have hI : gz_I D A s.heap (gz_st (gz_st (gz_st (gz_st (gz_st (S) (z) (.inl (dA 0, 4, .inl (fun _ => 0)))) (z + 1) (.inl (dA 0, 4, .inl (fun _ => 0)))) (z + 2) (.inl (dA 0, 4, .inl (fun _ => 0)))) (z + 3) (.inl (dA 0, 4, .inl (fun _ => 0)))) a (.inr (5, [.int 0, .int 0, .ref z, .ref (z + 1), .ref (z + 2), .ref (z + 3), .null, .null, .int 0, .int 0, .int 0, .int 0, .null, .null, .null, .null]))) (z + 4) H locs := gz_swI (show a ≠ z + 3 by omega) hI
  refine lv_aload_n hx hb d_Mo_init_37 rfl (lv_at hl 0 rfl) ?_
  refine lv_iconst (v := 4) hx hb d_Mo_init_38 (by decide) ?_
  refine gz_newa G hI ac_int (k := 0) rfl (a0 := fun _ => 0) (N := 4) rfl (by decide) (by decide) (by decide) (Nat.le_of_ble_eq_true rfl) (Nat.le_of_ble_eq_true rfl) d_Mo_init_39 (fun H hI => ?_)
  refine gz_putF G hI cl_Mo (fs := [.int 0, .int 0, .ref (z), .ref (z + 1), .ref (z + 2), .ref (z + 3), .null, .null, .int 0, .int 0, .int 0, .int 0, .null, .null, .null, .null]) (v := .ref (z + 4)) (by rw [gz_st_n (by omega)]; exact gz_st_s) (hA _ (Nat.le_refl _)) 6 (by decide) fl_Mo_26 rfl hin rfl rfl rfl (Nat.le_of_ble_eq_true rfl) d_Mo_init_41 (fun H locs hI => ?_)
  have hI : gz_I D A s.heap (gz_st (gz_st (gz_st (gz_st (gz_st (gz_st (S) (z) (.inl (dA 0, 4, .inl (fun _ => 0)))) (z + 1) (.inl (dA 0, 4, .inl (fun _ => 0)))) (z + 2) (.inl (dA 0, 4, .inl (fun _ => 0)))) (z + 3) (.inl (dA 0, 4, .inl (fun _ => 0)))) (z + 4) (.inl (dA 0, 4, .inl (fun _ => 0)))) a (.inr (5, [.int 0, .int 0, .ref z, .ref (z + 1), .ref (z + 2), .ref (z + 3), .ref (z + 4), .null, .int 0, .int 0, .int 0, .int 0, .null, .null, .null, .null]))) (z + 5) H locs := gz_swI (show a ≠ z + 4 by omega) hI
  refine lv_aload_n hx hb d_Mo_init_44 rfl (lv_at hl 0 rfl) ?_
  refine lv_iconst (v := 4) hx hb d_Mo_init_45 (by decide) ?_
  refine gz_newa G hI ac_int (k := 0) rfl (a0 := fun _ => 0) (N := 4) rfl (by decide) (by decide) (by decide) (Nat.le_of_ble_eq_true rfl) (Nat.le_of_ble_eq_true rfl) d_Mo_init_46 (fun H hI => ?_)
  refine gz_putF G hI cl_Mo (fs := [.int 0, .int 0, .ref (z), .ref (z + 1), .ref (z + 2), .ref (z + 3), .ref (z + 4), .null, .int 0, .int 0, .int 0, .int 0, .null, .null, .null, .null]) (v := .ref (z + 5)) (by rw [gz_st_n (by omega)]; exact gz_st_s) (hA _ (Nat.le_refl _)) 7 (by decide) fl_Mo_29 rfl hin rfl rfl rfl (Nat.le_of_ble_eq_true rfl) d_Mo_init_48 (fun H locs hI => ?_)
  have hI : gz_I D A s.heap (gz_st (gz_st (gz_st (gz_st (gz_st (gz_st (gz_st (S) (z) (.inl (dA 0, 4, .inl (fun _ => 0)))) (z + 1) (.inl (dA 0, 4, .inl (fun _ => 0)))) (z + 2) (.inl (dA 0, 4, .inl (fun _ => 0)))) (z + 3) (.inl (dA 0, 4, .inl (fun _ => 0)))) (z + 4) (.inl (dA 0, 4, .inl (fun _ => 0)))) (z + 5) (.inl (dA 0, 4, .inl (fun _ => 0)))) a (.inr (5, [.int 0, .int 0, .ref z, .ref (z + 1), .ref (z + 2), .ref (z + 3), .ref (z + 4), .ref (z + 5), .int 0, .int 0, .int 0, .int 0, .null, .null, .null, .null]))) (z + 6) H locs := gz_swI (show a ≠ z + 5 by omega) hI
  refine lv_aload_n hx hb d_Mo_init_51 rfl (lv_at hl 0 rfl) ?_
  refine lv_iconst (v := -1) hx hb d_Mo_init_52 (by decide) ?_
  refine gz_put G hI cl_Mo (fs := [.int 0, .int 0, .ref (z), .ref (z + 1), .ref (z + 2), .ref (z + 3), .ref (z + 4), .ref (z + 5), .int 0, .int 0, .int 0, .int 0, .null, .null, .null, .null]) (v := .int (-1)) gz_st_s (hA _ (Nat.le_refl _)) 8 (by decide) fl_Mo_32 rfl rfl rfl (Nat.le_of_ble_eq_true rfl) d_Mo_init_53 (fun H locs hI => ?_)
  have hI : gz_I D A s.heap (gz_st (gz_st (gz_st (gz_st (gz_st (gz_st (gz_st (S) (z) (.inl (dA 0, 4, .inl (fun _ => 0)))) (z + 1) (.inl (dA 0, 4, .inl (fun _ => 0)))) (z + 2) (.inl (dA 0, 4, .inl (fun _ => 0)))) (z + 3) (.inl (dA 0, 4, .inl (fun _ => 0)))) (z + 4) (.inl (dA 0, 4, .inl (fun _ => 0)))) (z + 5) (.inl (dA 0, 4, .inl (fun _ => 0)))) a (.inr (5, [.int 0, .int 0, .ref z, .ref (z + 1), .ref (z + 2), .ref (z + 3), .ref (z + 4), .ref (z + 5), .int (-1), .int 0, .int 0, .int 0, .null, .null, .null, .null]))) (z + 6) H locs := gz_ssI hI
  refine lv_aload_n hx hb d_Mo_init_56 rfl (lv_at hl 0 rfl) ?_
  refine lv_iconst (v := 0) hx hb d_Mo_init_57 (by decide) ?_
  refine gz_put G hI cl_Mo (fs := [.int 0, .int 0, .ref (z), .ref (z + 1), .ref (z + 2), .ref (z + 3), .ref (z + 4), .ref (z + 5), .int (-1), .int 0, .int 0, .int 0, .null, .null, .null, .null]) (v := .int (0)) gz_st_s (hA _ (Nat.le_refl _)) 9 (by decide) fl_Mo_35 rfl rfl rfl (Nat.le_of_ble_eq_true rfl) d_Mo_init_58 (fun H locs hI => ?_)
  have hI : gz_I D A s.heap (gz_st (gz_st (gz_st (gz_st (gz_st (gz_st (gz_st (S) (z) (.inl (dA 0, 4, .inl (fun _ => 0)))) (z + 1) (.inl (dA 0, 4, .inl (fun _ => 0)))) (z + 2) (.inl (dA 0, 4, .inl (fun _ => 0)))) (z + 3) (.inl (dA 0, 4, .inl (fun _ => 0)))) (z + 4) (.inl (dA 0, 4, .inl (fun _ => 0)))) (z + 5) (.inl (dA 0, 4, .inl (fun _ => 0)))) a (.inr (5, [.int 0, .int 0, .ref z, .ref (z + 1), .ref (z + 2), .ref (z + 3), .ref (z + 4), .ref (z + 5), .int (-1), .int 0, .int 0, .int 0, .null, .null, .null, .null]))) (z + 6) H locs := gz_ssI hI
  refine lv_aload_n hx hb d_Mo_init_61 rfl (lv_at hl 0 rfl) ?_
  refine lv_iconst (v := 0) hx hb d_Mo_init_62 (by decide) ?_
  refine gz_put G hI cl_Mo (fs := [.int 0, .int 0, .ref (z), .ref (z + 1), .ref (z + 2), .ref (z + 3), .ref (z + 4), .ref (z + 5), .int (-1), .int 0, .int 0, .int 0, .null, .null, .null, .null]) (v := .int (0)) gz_st_s (hA _ (Nat.le_refl _)) 10 (by decide) fl_Mo_38 rfl rfl rfl (Nat.le_of_ble_eq_true rfl) d_Mo_init_63 (fun H locs hI => ?_)
  have hI : gz_I D A s.heap (gz_st (gz_st (gz_st (gz_st (gz_st (gz_st (gz_st (S) (z) (.inl (dA 0, 4, .inl (fun _ => 0)))) (z + 1) (.inl (dA 0, 4, .inl (fun _ => 0)))) (z + 2) (.inl (dA 0, 4, .inl (fun _ => 0)))) (z + 3) (.inl (dA 0, 4, .inl (fun _ => 0)))) (z + 4) (.inl (dA 0, 4, .inl (fun _ => 0)))) (z + 5) (.inl (dA 0, 4, .inl (fun _ => 0)))) a (.inr (5, [.int 0, .int 0, .ref z, .ref (z + 1), .ref (z + 2), .ref (z + 3), .ref (z + 4), .ref (z + 5), .int (-1), .int 0, .int 0, .int 0, .null, .null, .null, .null]))) (z + 6) H locs := gz_ssI hI
  refine lv_aload_n hx hb d_Mo_init_66 rfl (lv_at hl 0 rfl) ?_
  refine lv_iconst (v := 0) hx hb d_Mo_init_67 (by decide) ?_
  refine gz_put G hI cl_Mo (fs := [.int 0, .int 0, .ref (z), .ref (z + 1), .ref (z + 2), .ref (z + 3), .ref (z + 4), .ref (z + 5), .int (-1), .int 0, .int 0, .int 0, .null, .null, .null, .null]) (v := .int (0)) gz_st_s (hA _ (Nat.le_refl _)) 11 (by decide) fl_Mo_41 rfl rfl rfl (Nat.le_of_ble_eq_true rfl) d_Mo_init_68 (fun H locs hI => ?_)
  have hI : gz_I D A s.heap (gz_st (gz_st (gz_st (gz_st (gz_st (gz_st (gz_st (S) (z) (.inl (dA 0, 4, .inl (fun _ => 0)))) (z + 1) (.inl (dA 0, 4, .inl (fun _ => 0)))) (z + 2) (.inl (dA 0, 4, .inl (fun _ => 0)))) (z + 3) (.inl (dA 0, 4, .inl (fun _ => 0)))) (z + 4) (.inl (dA 0, 4, .inl (fun _ => 0)))) (z + 5) (.inl (dA 0, 4, .inl (fun _ => 0)))) a (.inr (5, [.int 0, .int 0, .ref z, .ref (z + 1), .ref (z + 2), .ref (z + 3), .ref (z + 4), .ref (z + 5), .int (-1), .int 0, .int 0, .int 0, .null, .null, .null, .null]))) (z + 6) H locs := gz_ssI hI
  refine lv_aload_n hx hb d_Mo_init_71 rfl (lv_at hl 0 rfl) ?_
  refine lv_sipush (v := 520) hx hb d_Mo_init_72 (by decide) ?_
  refine gz_newa G hI ac_int (k := 0) rfl (a0 := fun _ => 0) (N := 520) rfl (by decide) (by decide) (by decide) (Nat.le_of_ble_eq_true rfl) (Nat.le_of_ble_eq_true rfl) d_Mo_init_75 (fun H hI => ?_)
  refine gz_putF G hI cl_Mo (fs := [.int 0, .int 0, .ref (z), .ref (z + 1), .ref (z + 2), .ref (z + 3), .ref (z + 4), .ref (z + 5), .int (-1), .int 0, .int 0, .int 0, .null, .null, .null, .null]) (v := .ref (z + 6)) (by rw [gz_st_n (by omega)]; exact gz_st_s) (hA _ (Nat.le_refl _)) 12 (by decide) fl_Mo_44 rfl hin rfl rfl rfl (Nat.le_of_ble_eq_true rfl) d_Mo_init_77 (fun H locs hI => ?_)
  have hI : gz_I D A s.heap (gz_st (gz_st (gz_st (gz_st (gz_st (gz_st (gz_st (gz_st (S) (z) (.inl (dA 0, 4, .inl (fun _ => 0)))) (z + 1) (.inl (dA 0, 4, .inl (fun _ => 0)))) (z + 2) (.inl (dA 0, 4, .inl (fun _ => 0)))) (z + 3) (.inl (dA 0, 4, .inl (fun _ => 0)))) (z + 4) (.inl (dA 0, 4, .inl (fun _ => 0)))) (z + 5) (.inl (dA 0, 4, .inl (fun _ => 0)))) (z + 6) (.inl (dA 0, 520, .inl (fun _ => 0)))) a (.inr (5, [.int 0, .int 0, .ref z, .ref (z + 1), .ref (z + 2), .ref (z + 3), .ref (z + 4), .ref (z + 5), .int (-1), .int 0, .int 0, .int 0, .ref (z + 6), .null, .null, .null]))) (z + 7) H locs := gz_swI (show a ≠ z + 6 by omega) hI
  refine lv_aload_n hx hb d_Mo_init_80 rfl (lv_at hl 0 rfl) ?_
  refine lv_sipush (v := 8320) hx hb d_Mo_init_81 (by decide) ?_
  refine gz_newa G hI ac_int (k := 0) rfl (a0 := fun _ => 0) (N := 8320) rfl (by decide) (by decide) (by decide) (Nat.le_of_ble_eq_true rfl) (Nat.le_of_ble_eq_true rfl) d_Mo_init_84 (fun H hI => ?_)
  refine gz_putF G hI cl_Mo (fs := [.int 0, .int 0, .ref (z), .ref (z + 1), .ref (z + 2), .ref (z + 3), .ref (z + 4), .ref (z + 5), .int (-1), .int 0, .int 0, .int 0, .ref (z + 6), .null, .null, .null]) (v := .ref (z + 7)) (by rw [gz_st_n (by omega)]; exact gz_st_s) (hA _ (Nat.le_refl _)) 13 (by decide) fl_Mo_47 rfl hin rfl rfl rfl (Nat.le_of_ble_eq_true rfl) d_Mo_init_86 (fun H locs hI => ?_)
  have hI : gz_I D A s.heap (gz_st (gz_st (gz_st (gz_st (gz_st (gz_st (gz_st (gz_st (gz_st (S) (z) (.inl (dA 0, 4, .inl (fun _ => 0)))) (z + 1) (.inl (dA 0, 4, .inl (fun _ => 0)))) (z + 2) (.inl (dA 0, 4, .inl (fun _ => 0)))) (z + 3) (.inl (dA 0, 4, .inl (fun _ => 0)))) (z + 4) (.inl (dA 0, 4, .inl (fun _ => 0)))) (z + 5) (.inl (dA 0, 4, .inl (fun _ => 0)))) (z + 6) (.inl (dA 0, 520, .inl (fun _ => 0)))) (z + 7) (.inl (dA 0, 8320, .inl (fun _ => 0)))) a (.inr (5, [.int 0, .int 0, .ref z, .ref (z + 1), .ref (z + 2), .ref (z + 3), .ref (z + 4), .ref (z + 5), .int (-1), .int 0, .int 0, .int 0, .ref (z + 6), .ref (z + 7), .null, .null]))) (z + 8) H locs := gz_swI (show a ≠ z + 7 by omega) hI
  refine lv_aload_n hx hb d_Mo_init_89 rfl (lv_at hl 0 rfl) ?_
  refine lv_bipush (v := 16) hx hb d_Mo_init_90 (by decide) ?_
  refine gz_newa G hI ac_int (k := 0) rfl (a0 := fun _ => 0) (N := 16) rfl (by decide) (by decide) (by decide) (Nat.le_of_ble_eq_true rfl) (Nat.le_of_ble_eq_true rfl) d_Mo_init_92 (fun H hI => ?_)
  refine gz_putF G hI cl_Mo (fs := [.int 0, .int 0, .ref (z), .ref (z + 1), .ref (z + 2), .ref (z + 3), .ref (z + 4), .ref (z + 5), .int (-1), .int 0, .int 0, .int 0, .ref (z + 6), .ref (z + 7), .null, .null]) (v := .ref (z + 8)) (by rw [gz_st_n (by omega)]; exact gz_st_s) (hA _ (Nat.le_refl _)) 14 (by decide) fl_Mo_50 rfl hin rfl rfl rfl (Nat.le_of_ble_eq_true rfl) d_Mo_init_94 (fun H locs hI => ?_)
  have hI : gz_I D A s.heap (gz_st (gz_st (gz_st (gz_st (gz_st (gz_st (gz_st (gz_st (gz_st (gz_st (S) (z) (.inl (dA 0, 4, .inl (fun _ => 0)))) (z + 1) (.inl (dA 0, 4, .inl (fun _ => 0)))) (z + 2) (.inl (dA 0, 4, .inl (fun _ => 0)))) (z + 3) (.inl (dA 0, 4, .inl (fun _ => 0)))) (z + 4) (.inl (dA 0, 4, .inl (fun _ => 0)))) (z + 5) (.inl (dA 0, 4, .inl (fun _ => 0)))) (z + 6) (.inl (dA 0, 520, .inl (fun _ => 0)))) (z + 7) (.inl (dA 0, 8320, .inl (fun _ => 0)))) (z + 8) (.inl (dA 0, 16, .inl (fun _ => 0)))) a (.inr (5, [.int 0, .int 0, .ref z, .ref (z + 1), .ref (z + 2), .ref (z + 3), .ref (z + 4), .ref (z + 5), .int (-1), .int 0, .int 0, .int 0, .ref (z + 6), .ref (z + 7), .ref (z + 8), .null]))) (z + 9) H locs := gz_swI (show a ≠ z + 8 by omega) hI
  refine lv_aload_n hx hb d_Mo_init_97 rfl (lv_at hl 0 rfl) ?_
  refine lv_bipush (v := 40) hx hb d_Mo_init_98 (by decide) ?_
  refine gz_newa G hI ac_boolean (k := 1) rfl (a0 := fun _ => 0) (N := 40) rfl (by decide) (by decide) (by decide) (Nat.le_of_ble_eq_true rfl) (Nat.le_of_ble_eq_true rfl) d_Mo_init_100 (fun H hI => ?_)
  refine gz_putF G hI cl_Mo (fs := [.int 0, .int 0, .ref (z), .ref (z + 1), .ref (z + 2), .ref (z + 3), .ref (z + 4), .ref (z + 5), .int (-1), .int 0, .int 0, .int 0, .ref (z + 6), .ref (z + 7), .ref (z + 8), .null]) (v := .ref (z + 9)) (by rw [gz_st_n (by omega)]; exact gz_st_s) (hA _ (Nat.le_refl _)) 15 (by decide) fl_Mo_53 rfl hin rfl rfl rfl (Nat.le_of_ble_eq_true rfl) d_Mo_init_102 (fun H locs hI => ?_)
  have hI : gz_I D A s.heap (gz_st (gz_st (gz_st (gz_st (gz_st (gz_st (gz_st (gz_st (gz_st (gz_st (gz_st (S) (z) (.inl (dA 0, 4, .inl (fun _ => 0)))) (z + 1) (.inl (dA 0, 4, .inl (fun _ => 0)))) (z + 2) (.inl (dA 0, 4, .inl (fun _ => 0)))) (z + 3) (.inl (dA 0, 4, .inl (fun _ => 0)))) (z + 4) (.inl (dA 0, 4, .inl (fun _ => 0)))) (z + 5) (.inl (dA 0, 4, .inl (fun _ => 0)))) (z + 6) (.inl (dA 0, 520, .inl (fun _ => 0)))) (z + 7) (.inl (dA 0, 8320, .inl (fun _ => 0)))) (z + 8) (.inl (dA 0, 16, .inl (fun _ => 0)))) (z + 9) (.inl (dA 1, 40, .inl (fun _ => 0)))) a (.inr (5, [.int 0, .int 0, .ref z, .ref (z + 1), .ref (z + 2), .ref (z + 3), .ref (z + 4), .ref (z + 5), .int (-1), .int 0, .int 0, .int 0, .ref (z + 6), .ref (z + 7), .ref (z + 8), .ref (z + 9)]))) (z + 10) H locs := gz_swI (show a ≠ z + 9 by omega) hI
  refine W.widen (k := 10) (n := 8920) (Nat.le_of_ble_eq_true rfl) (Nat.le_of_ble_eq_true rfl) ?_
  have hI : gz_I D A s.heap (gz_st (gz_ma dA S z) a (.inr (5, gz_mf z 0))) (z + 10) H locs := hI
  refine lv_aload_n hx hb d_Mo_init_105 rfl (lv_at hl 0 rfl) ?_
  refine lv_iload_n hx hb d_Mo_init_106 rfl (lv_at hl 1 rfl) ?_
  refine lv_iconst (v := 1) hx hb d_Mo_init_107 (by decide) ?_
  have K := wm_Mo_init (l := l) (e := e) (below := below) G hr hin hlocks S z a x haz hA H locs ls hI hl
  refine lv_icmp_ne (tgt := 115) hx hb d_Mo_init_108 (by decide) (fun c1 => ?_) (fun c1 => ?_)
  · refine lv_iconst (v := 0) hx hb d_Mo_init_115 (by decide) ?_
    rw [show gz_sx x = 0 from if_neg c1] at K ⊢
    exact K
  · refine lv_iconst (v := 1) hx hb d_Mo_init_111 (by decide) ?_
    refine lv_goto (tgt := 116) hx hb d_Mo_init_112 (by decide) ?_
    rw [show gz_sx x = 1 from if_pos c1] at K ⊢
    exact K

/-- a roster that lies at b, its array at b + 1, its jobs behind it -/
def gz_rb (dA : Nat → ClassId) (b q : Nat) : va_E := if q = b then .inr (3, [.ref (b + 1), .int 0, .int 0]) else if q = b + 1 then gz_ra (dA 4) 40 (gz_af (b + 1 + 1) 1 40) else .inr (4, gz_j (nI (q - (b + 1 + 1))))
/-- the journal at a, its array at z, its first i pages behind it -/
def gz_jn (dA : Nat → ClassId) (S : Nat → Option va_E) (a z i : Nat) : Nat → Option va_E := fun q => if q = a then some (.inr (2, [.ref z, .int 0])) else if q = z then some (gz_ra (dA 3) 16 (gz_af (z + 1) 42 i)) else if z + 1 ≤ q ∧ q < z + 1 + 42 * i then some (gz_rb dA (z + 1 + 42 * ((q - (z + 1)) / 42)) q) else S q
theorem gz_jn_s {dA : Nat → ClassId} {S : Nat → Option va_E} {a z i : Nat} (ha : a < z) : gz_st (gz_ro dA (gz_st (gz_jn dA S a z i) (z + 1 + 42 * i) (.inr (3, [.null, .int 0, .int 0]))) (z + 1 + 42 * i) (z + 1 + 42 * i + 1) 40) z (gz_ra (dA 3) 16 (gz_af (z + 1) 42 (i + 1))) = gz_jn dA S a z (i + 1) := by
  funext q
  by_cases h1 : q = a
  · subst h1
    have h5 : ¬ (z + 1 + 42 * i + 1 + 1 ≤ q ∧ q < z + 1 + 42 * i + 1 + 1 + 40) := by omega
    simp only [gz_st, gz_ro, gz_jn, if_true, show ¬ q = z by omega, show ¬ q = z + 1 + 42 * i by omega, show ¬ q = z + 1 + 42 * i + 1 by omega, h5, if_false]
  · by_cases h2 : q = z
    · subst h2
      simp only [gz_st, gz_jn, h1, if_true, if_false]
    · by_cases h3 : z + 1 + 42 * i ≤ q ∧ q < z + 1 + 42 * (i + 1)
      · have hd : (q - (z + 1)) / 42 = i := by omega
        have h6 : z + 1 ≤ q ∧ q < z + 1 + 42 * (i + 1) := by omega
        by_cases h4 : q = z + 1 + 42 * i
        · simp only [gz_st, gz_ro, gz_jn, gz_rb, hd]
          rw [if_neg h2, if_pos h4, if_neg h1, if_neg h2, if_pos h6, if_pos h4]
        · by_cases h5 : q = z + 1 + 42 * i + 1
          · simp only [gz_st, gz_ro, gz_jn, gz_rb, hd]
            rw [if_neg h2, if_neg h4, if_pos h5, if_neg h1, if_neg h2, if_pos h6, if_neg h4, if_pos h5]
          · simp only [gz_st, gz_ro, gz_jn, gz_rb, hd]
            rw [if_neg h2, if_neg h4, if_neg h5, if_pos (by omega), if_neg h1, if_neg h2, if_pos h6, if_neg h4, if_neg h5]
      · have h4 : ¬ q = z + 1 + 42 * i := by omega
        have h5 : ¬ q = z + 1 + 42 * i + 1 := by omega
        have h7 : ¬ (z + 1 + 42 * i + 1 + 1 ≤ q ∧ q < z + 1 + 42 * i + 1 + 1 + 40) := by omega
        simp only [gz_st, gz_ro, gz_jn]
        rw [if_neg h2, if_neg h4, if_neg h5, if_neg h7, if_neg h4, if_neg h1, if_neg h2, if_neg h1, if_neg h2]
        by_cases h6 : z + 1 ≤ q ∧ q < z + 1 + 42 * i
        · rw [if_pos h6, if_pos (by omega)]
        · rw [if_neg h6, if_neg (by omega)]
abbrev rm_Jn_init : Room := { frames := 3, cells := 673, slots := 9664, locals := 54 }
set_option maxHeartbeats 4000000 in
set_option maxRecDepth 100000 in
theorem wl_Jn_init {p : Program} {l : Launch} {e : Env} {s : State} {m : MethodId} {args : Array Value} {below : List Frame} {meth : Method} {c : Code} {D : va_G} {dA : Nat → ClassId} {A : Nat → Prop} (G : gx_G p m c b_Jn_init 2 s args gx_tb R_Jn D dA) (hr : meth.sig.returnType = none) (hlocks : meth.locks = false) (hO : gz_O s) (S : Nat → Option va_E) (z a : Nat) (haz : a < z) (hA : ∀ q, a ≤ q → A q) : ∀ (n i : Nat), i + n = 16 → ∀ (H : Heap) (locs : List Loc) (ls : Array Slot), gz_I D A s.heap (gz_jn dA S a z i) (z + 1 + 42 * i) H locs → lv_has ls 2 [(1, .int (nI i)), (0, .ref a)] → W p l e (headSpec w_Jn_init rm_Jn_init).room s m args below meth c H locs (1 + 42 * i) (16 + 603 * i) (MQ below (gz_Q D A (gz_jn dA S a z 16) (z + 673)) args s 673 9664 A) (F0 m 15 ls []) := by
  obtain ⟨⟨hx, hb, hml, hown, ht⟩, hK⟩ := id G
  have hN3 : gx_N 3 = 3 := rfl
  intro n
  induction n with
  | zero =>
    intro i hi H locs ls hI hl
    obtain rfl : i = 16 := by omega
    refine lv_iload_n hx hb d_Jn_init_15 rfl (lv_at hl 0 rfl) ?_
    refine lv_bipush (v := 16) hx hb d_Jn_init_16 (by decide) ?_
    refine lv_icmp_ge (tgt := 40) hx hb d_Jn_init_18 (by decide) (fun c1 => ?_) (fun c1 => absurd (by decide) c1)
    exact W.vret hx hb hr (gz_F hI) hI.2.1.2.2 d_Jn_init_40
  | succ n ih =>
    intro i hi H locs ls hI hl
    refine lv_iload_n hx hb d_Jn_init_15 rfl (lv_at hl 0 rfl) ?_
    refine lv_bipush (v := 16) hx hb d_Jn_init_16 (by decide) ?_
    refine lv_icmp_ge (tgt := 40) hx hb d_Jn_init_18 (by decide) (fun c1 => absurd (show nI 16 ≤ nI i from c1) (nI_ge (by omega) (by decide))) (fun c1 => ?_)
    refine lv_aload_n hx hb d_Jn_init_21 rfl (lv_at hl 1 rfl) ?_
    refine gz_get G hI cl_Jn (fs := [.ref z, .int 0]) (by simp [gz_jn]) 0 (by decide) fl_Jn_11 rfl d_Jn_init_22 ?_
    refine lv_iload_n hx hb d_Jn_init_25 rfl (lv_at hl 0 rfl) ?_
    refine gz_new G hI cl_Ro ck_Jn_9 is_Ro in_Ro (fs := [.null, .int 0, .int 0]) (fun j hj => by have hj : j < 3 := hj; match j, hj with | 0, _ => rfl | 1, _ => rfl | 2, _ => rfl | j + 3, h => exact absurd h (by omega)) (show 1 + 42 * i + 1 ≤ 673 by omega) (show 16 + 603 * i + 3 ≤ 9664 by omega) d_Jn_init_26 (fun H hI => ?_)
    refine lv_dup hx hb d_Jn_init_29 rfl ?_
    refine gz_go (va_runI (As := []) (rest := [.ref (z + 1 + 42 * i), .int (nI i), .ref z]) G.1 (ct_Ro_init l D dA A _ (z + 1 + 42 * i + 1) (z + 1 + 42 * i) gz_st_s (by omega) (fun q h => hA q (by omega))) (cwI 0 ht gi_Ro_init rfl rfl rfl (ht _ in_Ro) (ht _ mi_Jn_17) (ht _ im_Ro_init) rfl (by decide +kernel) ⟨Nat.le_of_ble_eq_true rfl, Nat.le_of_ble_eq_true rfl⟩) (gz_pre G hO hI) rfl rfl hl.1 rfl (lv_room (Nat.le_of_ble_eq_true rfl)) d_Jn_init_30 ⟨show 1 + 42 * i + 1 + 41 ≤ 673 by omega, show 16 + 603 * i + 3 + 600 ≤ 9664 by omega⟩) hI (fun H locs hI => ?_)
    refine W.widen (k := 1 + 42 * (i + 1)) (n := 16 + 603 * (i + 1)) (by omega) (by rw [hN3]; omega) ?_
    refine gz_ast G hI (k := 3) (n := 16) (f := gz_af (z + 1) 42 i) (r := (R_Ro, F_Ro, 3)) (ci := 3) (vs := [.ref (z + 1 + 42 * i + 1), .int 0, .int 0]) ?_ (hA _ (by omega)) rfl (by simp [gz_ro]) rfl (vp_in_nI (by omega) (by decide)) d_Jn_init_33 (fun H locs hI => ?_)
    · have h7 : ¬ (z + 1 + 42 * i + 1 + 1 ≤ z ∧ z < z + 1 + 42 * i + 1 + 1 + 40) := by omega
      simp only [gz_ro, gz_st, gz_jn]
      rw [if_neg (by omega), if_neg (by omega), if_neg h7, if_neg (by omega), if_neg (by omega)]
      exact if_pos trivial
    rw [nI_clamp (by omega), gz_af_s, gz_jn_s haz, show z + 1 + 42 * i + 1 + 41 = z + 1 + 42 * (i + 1) by omega] at hI
    refine lv_iinc (v := nI i + 1) (lv' := [(1, .int (nI i + 1)), (0, .ref a)]) hx hb d_Jn_init_34 hl (k := 0) rfl rfl (by decide) rfl (fun ls hl => ?_)
    refine lv_goto (tgt := 15) hx hb d_Jn_init_37 (by decide) ?_
    rw [nI_1] at hl
    exact ih (i + 1) (by omega) H locs ls hI hl
set_option maxHeartbeats 4000000 in
set_option maxRecDepth 100000 in
theorem ct_Jn_init (l : Launch) (D : va_G) (dA : Nat → ClassId) (A : Nat → Prop) (S : Nat → Option va_E) (z a : Nat) (ha : S a = some (.inr (2, [.null, .int 0]))) (haz : a < z) (hA : ∀ q, a ≤ q → A q) : Met l y_Jn_init w_Jn_init rm_Jn_init (gz_Pc D dA S z [.ref a]) (gz_Q D A (gz_jn dA S a z 16) (z + 673)) 673 9664 A := by
  refine Met.ofW (cc := b_Jn_init) (maxL := 2) (ret := none) (by decide) rfl ?_
  intro p e s m args below meth c s₁ B hml hv
  obtain ⟨rfl, hP, hz, hK, hO⟩ := hv
  have hx := B.exec
  have hb := B.bytes
  have hr := B.returns
  have hlocks := B.notSynchronized
  have hin : meth.name = "<init>" := (name_of_methodNamed B.named B.method).1
  have ht : ∀ w ∈ gx_tb, w.before _ s = true := fun w h => atoms_spec (ws := w_Jn_init) B.pre w (List.mem_cons_of_mem _ h)
  have hown : s.vm.findClass R_Jn = some m.cls := findClass_of_methodNamed B.named
  have G : gx_G p m c b_Jn_init 2 s _ gx_tb R_Jn D dA := ⟨⟨hx, hb, hml, hown, ht⟩, hK⟩
  have hI : gz_I D A s.heap S z s.heap [] := ⟨hP, va_S.rf, hz⟩
  have hl := lv_entry ([.ref a]) (n := 2) (Nat.le_of_ble_eq_true rfl)
  rw [lg_entry_eq]
  generalize (lg_sl ([.ref a]) ++ List.replicate (2 - (lg_sl ([.ref a])).length) Slot.unset).toArray = ls at hl ⊢
  have hl : lv_has ls 2 [(0, .ref a)] := hl
  refine lv_aload_n hx hb d_Jn_init_0 rfl (lv_at hl 0 rfl) ?_
  refine W.objInit hx hb hown (ht _ mo_Jn_3) (ht _ im_oi) (ht _ co_oi) rfl (by rw [hml]; exact hl.1) rfl d_Jn_init_1 (Nat.le_of_ble_eq_true rfl) (Nat.le_of_ble_eq_true rfl) ?_
  refine W.eq (g2 := F0 m 4 ls []) rfl ?_
  refine lv_aload_n hx hb d_Jn_init_4 rfl (lv_at hl 0 rfl) ?_
  refine lv_bipush (v := 16) hx hb d_Jn_init_5 (by decide) ?_
  refine gz_anew G hI ck_Jn_9 hO.2.1 (k := 3) rfl (N := 16) (by decide) (by decide) (by decide) (Nat.le_of_ble_eq_true rfl) (Nat.le_of_ble_eq_true rfl) d_Jn_init_7 (fun H hI => ?_)
  refine gz_putF G hI cl_Jn (fs := [.null, .int 0]) (v := .ref z) (by rw [gz_st_n (by omega)]; exact ha) (hA _ (Nat.le_refl _)) 0 (by decide) fl_Jn_11 rfl hin rfl rfl rfl (by decide) d_Jn_init_10 (fun H locs hI => ?_)
  refine lv_iconst (v := 0) hx hb d_Jn_init_13 (by decide) ?_
  refine lv_istore_n (i := 1) (lv' := [(1, .int 0), (0, .ref a)]) hx hb d_Jn_init_14 rfl hl (by decide) rfl (fun ls hl => ?_)
  refine W.widen (k := 1 + 42 * 0) (n := 16 + 603 * 0) (by omega) (by omega) ?_
  refine wl_Jn_init G hr hlocks hO S z a haz hA 16 0 rfl H locs ls ?_ hl
  have e9 : gz_st (gz_st S z (.inl (dA 3, 16, .inr (.inr (.inr (.inr (fun _ => none))))))) a (.inr (2, [.ref z, .int 0])) = gz_jn dA S a z 0 := by
    funext q
    by_cases h1 : q = a
    · subst h1; simp [gz_st, gz_jn]
    · by_cases h2 : q = z
      · subst h2; simp only [gz_st, gz_jn, h1, if_false, if_true]; rw [gz_af_0 (b := q + 1) (w := 42)]
      · have h5 : ¬ (z + 1 ≤ q ∧ q < z + 1 + 42 * 0) := by omega
        simp only [gz_st, gz_jn, h1, h2, h5, if_false]
  exact e9 ▸ hI
/-- the board's queues: array at z, the first i of them behind it -/
def gz_qs (dA : Nat → ClassId) (S : Nat → Option va_E) (a z : Nat) (x : Int32) (i : Nat) : Nat → Option va_E := fun q => if q = a then some (.inr (0, [.int x, .ref z, .null, .null, .int 0, .int 0])) else if q = z then some (gz_ra (dA 2) 4 (gz_af (z + 1) 1 i)) else if z + 1 ≤ q ∧ q < z + 1 + i then some (.inr (1, gz_q)) else S q
theorem gz_qs_s {dA : Nat → ClassId} {S : Nat → Option va_E} {a z i : Nat} {x : Int32} (ha : a < z) : gz_st (gz_st (gz_st (gz_qs dA S a z x i) (z + 1 + i) (.inr (1, gz_q0))) (z + 1 + i) (.inr (1, gz_q))) z (gz_ra (dA 2) 4 (gz_af (z + 1) 1 (i + 1))) = gz_qs dA S a z x (i + 1) := by
  funext q
  by_cases h1 : q = a
  · subst h1
    simp [gz_st, gz_qs, show ¬ q = z by omega, show ¬ q = z + 1 + i by omega]
  · by_cases h2 : q = z
    · subst h2
      simp [gz_st, gz_qs, h1]
    · by_cases h3 : q = z + 1 + i
      · subst h3
        simp [gz_st, gz_qs, h1, h2]
      · by_cases h4 : z + 1 ≤ q ∧ q < z + 1 + i
        · simp [gz_st, gz_qs, h1, h2, h3, h4, show q < z + 1 + (i + 1) by omega]
        · have h5 : ¬ (z + 1 ≤ q ∧ q < z + 1 + (i + 1)) := by omega
          simp only [gz_st, gz_qs, h1, h2, h3, h4, h5, if_false]
/-- the whole board, made: at a, the rest from z = a + 1 on -/
def gz_bo (dA : Nat → ClassId) (S : Nat → Option va_E) (a z : Nat) (x : Int32) : Nat → Option va_E := gz_st (gz_jn dA (gz_st (gz_ro dA (gz_st (gz_qs dA S a z x 4) (z + 5) (.inr (3, [.null, .int 0, .int 0]))) (z + 5) (z + 6) 40) (z + 47) (.inr (2, [.null, .int 0]))) (z + 47) (z + 48) 16) a (.inr (0, [.int x, .ref z, .ref (z + 5), .ref (z + 47), .int 0, .int (-1)]))
abbrev rm_Bo_init : Room := { frames := 4, cells := 721, slots := 10297, locals := 75 }
abbrev gz_sx (x : Int32) : Int32 := if x = 1 then 1 else 0
set_option maxHeartbeats 4000000 in
set_option maxRecDepth 100000 in
theorem wl_Bo_init {p : Program} {l : Launch} {e : Env} {s : State} {m : MethodId} {args : Array Value} {below : List Frame} {meth : Method} {c : Code} {D : va_G} {dA : Nat → ClassId} {A : Nat → Prop} (G : gx_G p m c b_Bo_init 3 s args gx_tb R_Bo D dA) (hr : meth.sig.returnType = none) (hin : meth.name = "<init>") (hlocks : meth.locks = false) (hO : gz_O s) (S : Nat → Option va_E) (z a : Nat) (x : Int32) (haz : a < z) (hA : ∀ q, a ≤ q → A q) : ∀ (n i : Nat), i + n = 4 → ∀ (H : Heap) (locs : List Loc) (ls : Array Slot), gz_I D A s.heap (gz_qs dA S a z x i) (z + 1 + i) H locs → lv_has ls 3 [(2, .int (nI i)), (0, .ref a)] → W p l e (headSpec w_Bo_init rm_Bo_init).room s m args below meth c H locs (1 + i) (4 + 6 * i) (MQ below (gz_Q D A (gz_bo dA S a z x) (z + 721)) args s 721 10297 A) (F0 m 28 ls []) := by
  obtain ⟨⟨hx, hb, hml, hown, ht⟩, hK⟩ := id G
  have hN1 : gx_N 1 = 6 := rfl
  have hN2 : gx_N 2 = 2 := rfl
  have hN3 : gx_N 3 = 3 := rfl
  intro n
  induction n with
  | zero =>
    intro i hi H locs ls hI hl
    obtain rfl : i = 4 := by omega
    refine lv_iload_n hx hb d_Bo_init_28 rfl (lv_at hl 0 rfl) ?_
    refine lv_iconst (v := 4) hx hb d_Bo_init_29 (by decide) ?_
    refine lv_icmp_ge (tgt := 52) hx hb d_Bo_init_30 (by decide) (fun c1 => ?_) (fun c1 => absurd (by decide) c1)
    refine lv_aload_n hx hb d_Bo_init_52 rfl (lv_at hl 1 rfl) ?_
    refine gz_new G hI cl_Ro ck_Bo_20 is_Ro in_Ro (fs := [.null, .int 0, .int 0]) (fun j hj => by have hj : j < 3 := hj; match j, hj with | 0, _ => rfl | 1, _ => rfl | 2, _ => rfl | j + 3, h => exact absurd h (by omega)) (Nat.le_of_ble_eq_true rfl) (Nat.le_of_ble_eq_true rfl) d_Bo_init_53 (fun H hI => ?_)
    refine lv_dup hx hb d_Bo_init_56 rfl ?_
    refine gz_go (va_runI (As := []) (rest := [.ref (z + 1 + 4), .ref a]) G.1 (ct_Ro_init l D dA A _ (z + 1 + 4 + 1) (z + 1 + 4) gz_st_s (by omega) (fun q h => hA q (by omega))) (cwI 0 ht gi_Ro_init rfl rfl rfl (ht _ in_Ro) (ht _ mi_Bo_22) (ht _ im_Ro_init) rfl (by decide +kernel) ⟨Nat.le_of_ble_eq_true rfl, Nat.le_of_ble_eq_true rfl⟩) (gz_pre G hO hI) rfl rfl hl.1 rfl (lv_room (Nat.le_of_ble_eq_true rfl)) d_Bo_init_57 ⟨Nat.le_of_ble_eq_true rfl, Nat.le_of_ble_eq_true rfl⟩) hI (fun H locs hI => ?_)
    refine gz_putF G hI cl_Bo (fs := [.int x, .ref z, .null, .null, .int 0, .int 0]) (v := .ref (z + 1 + 4)) ?_ (hA _ (Nat.le_refl _)) 2 (by decide) fl_Bo_23 rfl hin rfl rfl rfl (Nat.le_of_ble_eq_true rfl) d_Bo_init_60 (fun H locs hI => ?_)
    · have h7 : ¬ (z + 1 + 4 + 1 + 1 ≤ a ∧ a < z + 1 + 4 + 1 + 1 + 40) := by omega
      simp only [gz_ro, gz_st, gz_qs]
      rw [if_neg (by omega), if_neg (by omega), if_neg h7, if_neg (by omega)]
      exact if_pos trivial
    refine lv_aload_n hx hb d_Bo_init_63 rfl (lv_at hl 1 rfl) ?_
    refine gz_new G hI cl_Jn ck_Bo_27 is_Jn in_Jn (fs := [.null, .int 0]) (fun j hj => by have hj : j < 2 := hj; match j, hj with | 0, _ => rfl | 1, _ => rfl | j + 2, h => exact absurd h (by omega)) (Nat.le_of_ble_eq_true rfl) (Nat.le_of_ble_eq_true rfl) d_Bo_init_64 (fun H hI => ?_)
    refine lv_dup hx hb d_Bo_init_67 rfl ?_
    refine gz_go (va_runI (As := []) (rest := [.ref (z + 1 + 4 + 1 + 41), .ref a]) G.1 (ct_Jn_init l D dA A _ (z + 1 + 4 + 1 + 41 + 1) (z + 1 + 4 + 1 + 41) gz_st_s (by omega) (fun q h => hA q (by omega))) (cwI 0 ht gi_Jn_init rfl rfl rfl (ht _ in_Jn) (ht _ mi_Bo_29) (ht _ im_Jn_init) rfl (by decide +kernel) ⟨Nat.le_of_ble_eq_true rfl, Nat.le_of_ble_eq_true rfl⟩) (gz_pre G hO hI) rfl rfl hl.1 rfl (lv_room (Nat.le_of_ble_eq_true rfl)) d_Bo_init_68 ⟨Nat.le_of_ble_eq_true rfl, Nat.le_of_ble_eq_true rfl⟩) hI (fun H locs hI => ?_)
    refine gz_putF G hI cl_Bo (fs := [.int x, .ref z, .ref (z + 1 + 4), .null, .int 0, .int 0]) (v := .ref (z + 1 + 4 + 1 + 41)) ?_ (hA _ (Nat.le_refl _)) 3 (by decide) fl_Bo_30 rfl hin rfl rfl rfl (Nat.le_of_ble_eq_true rfl) d_Bo_init_71 (fun H locs hI => ?_)
    · have h7 : ¬ (z + 1 + 4 + 1 + 41 + 1 + 1 ≤ a ∧ a < z + 1 + 4 + 1 + 41 + 1 + 1 + 42 * 16) := by omega
      simp only [gz_jn, gz_st]
      rw [if_neg (by omega), if_neg (by omega), if_neg h7, if_neg (by omega)]
      exact if_pos trivial
    refine lv_aload_n hx hb d_Bo_init_74 rfl (lv_at hl 1 rfl) ?_
    refine lv_iconst (v := 0) hx hb d_Bo_init_75 (by decide) ?_
    refine gz_put G hI cl_Bo gz_st_s (hA _ (Nat.le_refl _)) 4 (by decide) fl_Bo_34 rfl rfl rfl (Nat.le_of_ble_eq_true rfl) d_Bo_init_76 (fun H locs hI => ?_)
    refine lv_aload_n hx hb d_Bo_init_79 rfl (lv_at hl 1 rfl) ?_
    refine lv_iconst (v := -1) hx hb d_Bo_init_80 (by decide) ?_
    refine gz_put G hI cl_Bo gz_st_s (hA _ (Nat.le_refl _)) 5 (by decide) fl_Bo_38 rfl rfl rfl (Nat.le_of_ble_eq_true rfl) d_Bo_init_81 (fun H locs hI => ?_)
    refine W.widen (k := 721) (n := 10297) (Nat.le_of_ble_eq_true rfl) (Nat.le_of_ble_eq_true rfl) ?_
    rw [gz_ss, gz_ss] at hI
    have e9 : gz_st (gz_jn dA (gz_st (gz_st (gz_ro dA (gz_st (gz_qs dA S a z x 4) (z + 1 + 4) (.inr (3, [.null, .int 0, .int 0]))) (z + 1 + 4) (z + 1 + 4 + 1) 40) a (.inr (0, [.int x, .ref z, .ref (z + 1 + 4), .null, .int 0, .int 0]))) (z + 1 + 4 + 1 + 41) (.inr (2, [.null, .int 0]))) (z + 1 + 4 + 1 + 41) (z + 1 + 4 + 1 + 41 + 1) 16) a (.inr (0, [.int x, .ref z, .ref (z + 5), .ref (z + 47), .int 0, .int (-1)])) = gz_bo dA S a z x := by
      funext q
      by_cases h1 : q = a
      · subst h1
        simp only [gz_bo, gz_st, if_true]
      · simp only [gz_bo, gz_st, gz_jn, h1, if_false, show z + 1 + 4 = z + 5 by omega, show z + 5 + 1 = z + 6 by omega, show z + 6 + 41 = z + 47 by omega, show z + 47 + 1 = z + 48 by omega]
    have hI9 : gz_I D A s.heap (gz_bo dA S a z x) (z + 721) H locs := by
      have h8 : z + 1 + 4 + 1 + 41 + 1 + 673 = z + 721 := by omega
      rw [← e9, ← h8]
      exact hI
    exact W.vret hx hb hr (gz_F hI9) hI9.2.1.2.2 d_Bo_init_84
  | succ n ih =>
    intro i hi H locs ls hI hl
    refine lv_iload_n hx hb d_Bo_init_28 rfl (lv_at hl 0 rfl) ?_
    refine lv_iconst (v := 4) hx hb d_Bo_init_29 (by decide) ?_
    refine lv_icmp_ge (tgt := 52) hx hb d_Bo_init_30 (by decide) (fun c1 => absurd (show nI 4 ≤ nI i from c1) (nI_ge (by omega) (by decide))) (fun c1 => ?_)
    refine lv_aload_n hx hb d_Bo_init_33 rfl (lv_at hl 1 rfl) ?_
    refine gz_get G hI cl_Bo (fs := [.int x, .ref z, .null, .null, .int 0, .int 0]) (by simp [gz_qs]) 1 (by decide) fl_Bo_15 rfl d_Bo_init_34 ?_
    refine lv_iload_n hx hb d_Bo_init_37 rfl (lv_at hl 0 rfl) ?_
    refine gz_new G hI cl_Qu ck_Bo_13 is_Qu in_Qu (fs := gz_q0) (fun j hj => by have hj : j < 6 := hj; match j, hj with | 0, _ => rfl | 1, _ => rfl | 2, _ => rfl | 3, _ => rfl | 4, _ => rfl | 5, _ => rfl | j + 6, h => exact absurd h (by omega)) (show 1 + i + 1 ≤ 721 by omega) (show 4 + 6 * i + 6 ≤ 10297 by omega) d_Bo_init_38 (fun H hI => ?_)
    refine W.widen (k := 1 + (i + 1)) (n := 4 + 6 * (i + 1)) (by omega) (by rw [hN1]; omega) ?_
    refine lv_dup hx hb d_Bo_init_41 rfl ?_
    refine gz_go (va_runI (As := []) (rest := [.ref (z + 1 + i), .int (nI i), .ref z]) G.1 (ct_Qu_init l D dA A _ (z + 1 + i + 1) (z + 1 + i) gz_st_s (hA _ (by omega))) (cwI 0 ht gi_Qu_init rfl rfl rfl (ht _ in_Qu) (ht _ mi_Bo_19) (ht _ im_Qu_init) rfl (by decide +kernel) ⟨Nat.le_of_ble_eq_true rfl, Nat.le_of_ble_eq_true rfl⟩) (gz_pre G hO hI) rfl rfl hl.1 rfl (lv_room (Nat.le_of_ble_eq_true rfl)) d_Bo_init_42 ⟨show 1 + (i + 1) + 0 ≤ 721 by omega, show 4 + 6 * (i + 1) + 0 ≤ 10297 by omega⟩) hI (fun H locs hI => ?_)
    refine gz_ast G hI (k := 2) (n := 4) (f := gz_af (z + 1) 1 i) (r := (R_Qu, F_Qu, 6)) (ci := 1) (vs := gz_q) (by simp [gz_st, gz_qs, show ¬ z = z + 1 + i by omega, show ¬ z = a by omega]) (hA _ (by omega)) rfl gz_st_s rfl (vp_in_nI (by omega) (by decide)) d_Bo_init_45 (fun H locs hI => ?_)
    rw [nI_clamp (by omega), show some (z + 1 + i) = some (z + 1 + 1 * i) by rw [Nat.one_mul], gz_af_s, gz_qs_s haz] at hI
    refine lv_iinc (v := nI i + 1) (lv' := [(2, .int (nI i + 1)), (0, .ref a)]) hx hb d_Bo_init_46 hl (k := 0) rfl rfl (by decide) rfl (fun ls hl => ?_)
    refine lv_goto (tgt := 28) hx hb d_Bo_init_49 (by decide) ?_
    rw [nI_1] at hl
    exact ih (i + 1) (by omega) H locs ls hI hl
theorem gz_nar (x : Int32) : narrow .boolean (.int (gz_sx x)) = .int (gz_sx x) := gx_nb (by unfold gz_sx; by_cases h : x = 1 <;> simp [h])
theorem gz_fit (x : Int32) : fits .boolean (.int (gz_sx x)) = true := gx_fb (by unfold gz_sx; by_cases h : x = 1 <;> simp [h])
set_option maxHeartbeats 4000000 in
set_option maxRecDepth 100000 in
theorem wm_Bo_init {p : Program} {l : Launch} {e : Env} {s : State} {m : MethodId} {args : Array Value} {below : List Frame} {meth : Method} {c : Code} {D : va_G} {dA : Nat → ClassId} {A : Nat → Prop} (G : gx_G p m c b_Bo_init 3 s args gx_tb R_Bo D dA) (hr : meth.sig.returnType = none) (hin : meth.name = "<init>") (hlocks : meth.locks = false) (hO : gz_O s) (S : Nat → Option va_E) (z a : Nat) (x : Int32) (ha : S a = some (.inr (0, [.int 0, .null, .null, .null, .int 0, .int 0]))) (haz : a < z) (hA : ∀ q, a ≤ q → A q) (H : Heap) (locs : List Loc) (ls : Array Slot) (hI : gz_I D A s.heap S z H locs) (hl : lv_has ls 3 [(0, .ref a), (1, .int x)]) : W p l e (headSpec w_Bo_init rm_Bo_init).room s m args below meth c H locs 0 0 (MQ below (gz_Q D A (gz_bo dA S a z (gz_sx x)) (z + 721)) args s 721 10297 A) (F0 m 15 ls [.int (gz_sx x), .ref a]) := by
  obtain ⟨⟨hx, hb, hml, hown, ht⟩, hK⟩ := id G
  refine gz_putF G hI cl_Bo ha (hA _ (Nat.le_refl _)) 0 (by decide) fl_Bo_9 rfl hin rfl (gz_nar x) (gz_fit x) (Nat.le_of_ble_eq_true rfl) d_Bo_init_15 (fun H locs hI => ?_)
  refine lv_aload_n hx hb d_Bo_init_18 rfl (lv_at hl 0 rfl) ?_
  refine lv_iconst (v := 4) hx hb d_Bo_init_19 (by decide) ?_
  refine gz_anew G hI ck_Bo_13 hO.1 (k := 2) rfl (N := 4) (by decide) (by decide) (by decide) (Nat.le_of_ble_eq_true rfl) (Nat.le_of_ble_eq_true rfl) d_Bo_init_20 (fun H hI => ?_)
  refine gz_putF G hI cl_Bo (fs := [.int (gz_sx x), .null, .null, .null, .int 0, .int 0]) (v := .ref z) (by rw [gz_st_n (by omega)]; exact gz_st_s) (hA _ (Nat.le_refl _)) 1 (by decide) fl_Bo_15 rfl hin rfl rfl rfl (Nat.le_of_ble_eq_true rfl) d_Bo_init_23 (fun H locs hI => ?_)
  refine lv_iconst (v := 0) hx hb d_Bo_init_26 (by decide) ?_
  refine lv_istore_n (i := 2) (lv' := [(2, .int 0), (0, .ref a), (1, .int x)]) hx hb d_Bo_init_27 rfl hl (by decide) rfl (fun ls hl => ?_)
  refine W.widen (k := 1 + 0) (n := 4 + 6 * 0) (by omega) (by omega) ?_
  refine wl_Bo_init G hr hin hlocks hO S z a (gz_sx x) haz hA 4 0 rfl H locs ls ?_ (lv_sub hl [0, 1] rfl)
  have e9 : gz_st (gz_st (gz_st S a (.inr (0, [.int (gz_sx x), .null, .null, .null, .int 0, .int 0]))) z (.inl (dA 2, 4, .inr (.inr (.inr (.inr (fun _ => none))))))) a (.inr (0, [.int (gz_sx x), .ref z, .null, .null, .int 0, .int 0])) = gz_qs dA S a z (gz_sx x) 0 := by
    funext q
    by_cases h1 : q = a
    · subst h1; simp [gz_st, gz_qs]
    · by_cases h2 : q = z
      · subst h2; simp only [gz_st, gz_qs, h1, if_false, if_true]; rw [gz_af_0 (b := q + 1) (w := 1)]
      · have h5 : ¬ (z + 1 ≤ q ∧ q < z + 1 + 0) := by omega
        simp only [gz_st, gz_qs, h1, h2, h5, if_false]
  exact e9 ▸ hI
set_option maxHeartbeats 4000000 in
set_option maxRecDepth 100000 in
theorem ct_Bo_init (l : Launch) (D : va_G) (dA : Nat → ClassId) (A : Nat → Prop) (S : Nat → Option va_E) (z a : Nat) (x : Int32) (ha : S a = some (.inr (0, [.int 0, .null, .null, .null, .int 0, .int 0]))) (haz : a < z) (hA : ∀ q, a ≤ q → A q) : Met l y_Bo_init w_Bo_init rm_Bo_init (gz_Pc D dA S z [.ref a, .int x]) (gz_Q D A (gz_bo dA S a z (gz_sx x)) (z + 721)) 721 10297 A := by
  refine Met.ofW (cc := b_Bo_init) (maxL := 3) (ret := none) (by decide) rfl ?_
  intro p e s m args below meth c s₁ B hml hv
  obtain ⟨rfl, hP, hz, hK, hO⟩ := hv
  have hx := B.exec
  have hb := B.bytes
  have hr := B.returns
  have hlocks := B.notSynchronized
  have hin : meth.name = "<init>" := (name_of_methodNamed B.named B.method).1
  have ht : ∀ w ∈ gx_tb, w.before _ s = true := fun w h => atoms_spec (ws := w_Bo_init) B.pre w (List.mem_cons_of_mem _ h)
  have hown : s.vm.findClass R_Bo = some m.cls := findClass_of_methodNamed B.named
  have G : gx_G p m c b_Bo_init 3 s _ gx_tb R_Bo D dA := ⟨⟨hx, hb, hml, hown, ht⟩, hK⟩
  have hI : gz_I D A s.heap S z s.heap [] := ⟨hP, va_S.rf, hz⟩
  have hl := lv_entry ([.ref a, .int x]) (n := 3) (Nat.le_of_ble_eq_true rfl)
  rw [lg_entry_eq]
  generalize (lg_sl ([.ref a, .int x]) ++ List.replicate (3 - (lg_sl ([.ref a, .int x])).length) Slot.unset).toArray = ls at hl ⊢
  have hl : lv_has ls 3 [(0, .ref a), (1, .int x)] := hl
  refine lv_aload_n hx hb d_Bo_init_0 rfl (lv_at hl 0 rfl) ?_
  refine W.objInit hx hb hown (ht _ mo_Bo_1) (ht _ im_oi) (ht _ co_oi) rfl (by rw [hml]; exact hl.1) rfl d_Bo_init_1 (Nat.le_of_ble_eq_true rfl) (Nat.le_of_ble_eq_true rfl) ?_
  refine W.eq (g2 := F0 m 4 ls []) rfl ?_
  refine lv_aload_n hx hb d_Bo_init_4 rfl (lv_at hl 0 rfl) ?_
  refine lv_iload_n hx hb d_Bo_init_5 rfl (lv_at hl 1 rfl) ?_
  refine lv_iconst (v := 1) hx hb d_Bo_init_6 (by decide) ?_
  have K := wm_Bo_init (l := l) (e := e) (below := below) G hr hin hlocks hO S z a x ha haz hA s.heap [] ls hI hl
  refine lv_icmp_ne (tgt := 14) hx hb d_Bo_init_7 (by decide) (fun c1 => ?_) (fun c1 => ?_)
  · refine lv_iconst (v := 0) hx hb d_Bo_init_14 (by decide) ?_
    rw [show gz_sx x = 0 from if_neg c1] at K ⊢
    exact K
  · refine lv_iconst (v := 1) hx hb d_Bo_init_10 (by decide) ?_
    refine lv_goto (tgt := 15) hx hb d_Bo_init_11 (by decide) ?_
    rw [show gz_sx x = 1 from if_pos c1] at K ⊢
    exact K

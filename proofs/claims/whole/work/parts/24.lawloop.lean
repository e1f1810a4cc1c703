set_option maxHeartbeats 4000000 in
set_option maxRecDepth 100000 in
theorem law_loop {p : Program} {l : Launch} {e : Env} {s : State} {m : MethodId} {below : List Frame} {meth : Method} {c : Code} {D : va_G} {dA : Nat → ClassId} {adr : Nat → Nat} {b L : Nat} {xs : Nat → Int32} (G : gx_G p m c code 4 s #[Value.ref b] gx_tb R_law D dA) (hr : meth.sig.returnType = ret) (hlocks : meth.locks = false) (hX : va_X b L xs s s.heap) (hbl : b < s.heap.size) (hA : gx_A (fun q : Nat => s.heap.size ≤ q) adr) (hL : L ≤ 3073) (N : Nat) (R : Nat → gx_M → Prop) (hsim : gs_all N R) (hmono : ∀ (n : Nat) (σ : gx_M), R n σ → R (n + 1) σ) : ∀ (k n : Nat), n + k = 513 → ∀ (σ : gx_M) (H : Heap) (locs : List Loc) (ls : Array Slot), R n σ → gx_I D dA adr (fun q : Nat => s.heap.size ≤ q) s.heap σ H locs → lv_has ls 4 [(3, .int (nI (1 + 6 * n))), (2, .ref (adr 722)), (1, .ref (adr 0)), (0, .ref b)] → W p l e room_1 s m #[Value.ref b] below meth c H locs 733 19239 (lw_Z below #[Value.ref b] s) (F0 m 28 ls []) := by
  obtain ⟨⟨hx, hb, hml, hown, ht⟩, hK⟩ := id G
  have hbA : ¬ (fun q : Nat => s.heap.size ≤ q) b := Nat.not_le.mpr hbl
  intro k
  induction k with
  | zero =>
    intro n hn σ H locs ls hR hI hl
    refine lv_iload_n hx hb d_law_28 rfl (lv_at hl 0 rfl) ?_
    refine lv_aload_n hx hb d_law_29 rfl (lv_at hl 3 rfl) ?_
    refine va_slen (A := (fun q : Nat => s.heap.size ≤ q)) hx hb hX hbl hbA hI.2 d_law_30 ?_
    refine lv_bipush (v := 6) hx hb d_law_31 (by decide) ?_
    refine lv_isub hx hb d_law_33 ?_
    refine lv_icmp_gt (tgt := 702) hx hb d_law_34 (by decide) (fun c1 => ?_) (fun c1 => absurd (gl_gt (by omega) (by omega) (by omega)) c1)
    refine lv_iconst (v := 1) hx hb d_law_702 (by decide) ?_
    refine va_forget (fun q hq => hI.2.2.2 q hq) ?_
    refine W.widen (k := 600000) (n := 7302250) (Nat.le_of_ble_eq_true rfl) (Nat.le_of_ble_eq_true rfl) ?_
    exact lw_ret hx hb hr hlocks d_law_703
  | succ k ih =>
    intro n hn σ H locs ls hR hI hl
    refine lv_iload_n hx hb d_law_28 rfl (lv_at hl 0 rfl) ?_
    refine lv_aload_n hx hb d_law_29 rfl (lv_at hl 3 rfl) ?_
    refine va_slen (A := (fun q : Nat => s.heap.size ≤ q)) hx hb hX hbl hbA hI.2 d_law_30 ?_
    refine lv_bipush (v := 6) hx hb d_law_31 (by decide) ?_
    refine lv_isub hx hb d_law_33 ?_
    refine lv_icmp_gt (tgt := 702) hx hb d_law_34 (by decide) (fun c1 => ?_) (fun c1 => ?_)
    · refine lv_iconst (v := 1) hx hb d_law_702 (by decide) ?_
      refine va_forget (fun q hq => hI.2.2.2 q hq) ?_
      refine W.widen (k := 600000) (n := 7302250) (Nat.le_of_ble_eq_true rfl) (Nat.le_of_ble_eq_true rfl) ?_
      exact lw_ret hx hb hr hlocks d_law_703
    · have hi : 1 + 6 * n + 6 ≤ L := gl_ngt (by omega) (by omega) c1
      have hn5 : n < 512 := by omega
      have kk : ∀ (σ : gx_M) (H : Heap) (locs : List Loc), R (n + 1) σ → gx_I D dA adr (fun q : Nat => s.heap.size ≤ q) s.heap σ H locs → W p l e room_1 s m #[Value.ref b] below meth c H locs 733 19239 (lw_Z below #[Value.ref b] s) (F0 m 696 ls []) := by
        intro σ H locs hR hI
        refine lv_iinc (v := nI (1 + 6 * n) + 6) (lv' := [(3, .int (nI (1 + 6 * n) + 6)), (2, .ref (adr 722)), (1, .ref (adr 0)), (0, .ref b)]) hx hb d_law_696 hl (k := 0) rfl rfl (by decide) rfl (fun ls hl => ?_)
        refine lv_goto (tgt := 28) hx hb d_law_699 (by decide) ?_
        rw [show nI (1 + 6 * n) + 6 = nI (1 + 6 * (n + 1)) from nI_add (1 + 6 * n) 6] at hl
        exact ih (n + 1) (by omega) σ H locs ls hR hI hl
      refine lv_aload_n hx hb d_law_37 rfl (lv_at hl 3 rfl) ?_
      refine lv_iload_n hx hb d_law_38 rfl (lv_at hl 0 rfl) ?_
      refine va_sld (A := (fun q : Nat => s.heap.size ≤ q)) hx hb hX hbl hbA hI.2 (vp_in_nI (by omega) (by omega)) d_law_39 ?_
      refine lv_bipush (v := 31) hx hb d_law_40 (by decide) ?_
      refine lv_iand hx hb d_law_42 ?_
      obtain ⟨y, hy, ey⟩ := pk_andE (xs (nI (1 + 6 * n)).toNatClampNeg) (m := 31) 5 (by decide)
      refine gx_top ey.symm ?_
      have hyT : (nI y).toInt = (y : Int) := nI_toInt (by omega)
      obtain ⟨m0, m1, m2, m3, m4, m5, m6, m7, m8, m9, m10, m11, m12, m13, m14, m15, m16, m17, m18, m19⟩ := hsim
      rcases (show y = 0 ∨ y = 1 ∨ y = 2 ∨ y = 3 ∨ y = 4 ∨ y = 5 ∨ y = 6 ∨ y = 7 ∨ y = 8 ∨ y = 9 ∨ y = 10 ∨ y = 11 ∨ y = 12 ∨ y = 13 ∨ y = 14 ∨ y = 15 ∨ y = 16 ∨ y = 17 ∨ y = 18 ∨ y = 19 ∨ 20 ≤ y by omega) with rfl | rfl | rfl | rfl | rfl | rfl | rfl | rfl | rfl | rfl | rfl | rfl | rfl | rfl | rfl | rfl | rfl | rfl | rfl | rfl | h20
      · refine lv_tableIn (tgt := 136) hx hb d_law_43 (by rw [hyT]; decide) (by rw [hyT]; decide) (by rw [hyT]; rfl) (by decide) ?_
        exact lc_queue G hX hbl hA hL N R m0 n hn5 (1 + 6 * n) hi σ hR H locs ls hI hl kk
      · refine lv_tableIn (tgt := 189) hx hb d_law_43 (by rw [hyT]; decide) (by rw [hyT]; decide) (by rw [hyT]; rfl) (by decide) ?_
        exact lc_key G hX hbl hA hL N R m1 n hn5 (1 + 6 * n) hi σ hR H locs ls hI hl kk
      · refine lv_tableIn (tgt := 212) hx hb d_law_43 (by rw [hyT]; decide) (by rw [hyT]; decide) (by rw [hyT]; rfl) (by decide) ?_
        exact lc_submit G hX hbl hA hL N R m2 n hn5 (1 + 6 * n) hi σ hR H locs ls hI hl kk
      · refine lv_tableIn (tgt := 275) hx hb d_law_43 (by rw [hyT]; decide) (by rw [hyT]; decide) (by rw [hyT]; rfl) (by decide) ?_
        exact lc_hold G hX hbl hA hL N R m3 n hn5 (1 + 6 * n) hi σ hR H locs ls hI hl kk
      · refine lv_tableIn (tgt := 308) hx hb d_law_43 (by rw [hyT]; decide) (by rw [hyT]; decide) (by rw [hyT]; rfl) (by decide) ?_
        exact lc_join G hX hbl hA hL N R m4 n hn5 (1 + 6 * n) hi σ hR H locs ls hI hl kk
      · refine lv_tableIn (tgt := 341) hx hb d_law_43 (by rw [hyT]; decide) (by rw [hyT]; decide) (by rw [hyT]; rfl) (by decide) ?_
        exact lc_seal G hX hbl hA hL N R m5 n hn5 (1 + 6 * n) hi σ hR H locs ls hI hl kk
      · refine lv_tableIn (tgt := 364) hx hb d_law_43 (by rw [hyT]; decide) (by rw [hyT]; decide) (by rw [hyT]; rfl) (by decide) ?_
        exact lc_take G hX hbl hA hL N R m6 n hn5 (1 + 6 * n) hi σ hR H locs ls hI hl kk
      · refine lv_tableIn (tgt := 397) hx hb d_law_43 (by rw [hyT]; decide) (by rw [hyT]; decide) (by rw [hyT]; rfl) (by decide) ?_
        exact lc_ack G hX hbl hA hL N R m7 n hn5 (1 + 6 * n) hi σ hR H locs ls hI hl kk
      · refine lv_tableIn (tgt := 420) hx hb d_law_43 (by rw [hyT]; decide) (by rw [hyT]; decide) (by rw [hyT]; rfl) (by decide) ?_
        exact lc_fail G hX hbl hA hL N R m8 n hn5 (1 + 6 * n) hi σ hR H locs ls hI hl kk
      · refine lv_tableIn (tgt := 443) hx hb d_law_43 (by rw [hyT]; decide) (by rw [hyT]; decide) (by rw [hyT]; rfl) (by decide) ?_
        exact lc_tick G hX hbl hA hL N R m9 n hn5 (1 + 6 * n) hi σ hR H locs ls hI hl kk
      · refine lv_tableIn (tgt := 466) hx hb d_law_43 (by rw [hyT]; decide) (by rw [hyT]; decide) (by rw [hyT]; rfl) (by decide) ?_
        exact lc_revive G hX hbl hA hL N R m10 n hn5 (1 + 6 * n) hi σ hR H locs ls hI hl kk
      · refine lv_tableIn (tgt := 489) hx hb d_law_43 (by rw [hyT]; decide) (by rw [hyT]; decide) (by rw [hyT]; rfl) (by decide) ?_
        exact lc_kill G hX hbl hA hL N R m11 n hn5 (1 + 6 * n) hi σ hR H locs ls hI hl kk
      · refine lv_tableIn (tgt := 512) hx hb d_law_43 (by rw [hyT]; decide) (by rw [hyT]; decide) (by rw [hyT]; rfl) (by decide) ?_
        exact lc_flush G hX hbl hA hL N R m12 n hn5 (1 + 6 * n) hi σ hR H locs ls hI hl kk
      · refine lv_tableIn (tgt := 525) hx hb d_law_43 (by rw [hyT]; decide) (by rw [hyT]; decide) (by rw [hyT]; rfl) (by decide) ?_
        exact lc_crash G hX hbl hA hL N R m13 n hn5 (1 + 6 * n) hi σ hR H locs ls hI hl kk
      · refine lv_tableIn (tgt := 548) hx hb d_law_43 (by rw [hyT]; decide) (by rw [hyT]; decide) (by rw [hyT]; rfl) (by decide) ?_
        exact lc_state G hX hbl hA hL N R m14 n hn5 (1 + 6 * n) hi σ hR H locs ls hI hl kk
      · refine lv_tableIn (tgt := 571) hx hb d_law_43 (by rw [hyT]; decide) (by rw [hyT]; decide) (by rw [hyT]; rfl) (by decide) ?_
        exact lc_failures G hX hbl hA hL N R m15 n hn5 (1 + 6 * n) hi σ hR H locs ls hI hl kk
      · refine lv_tableIn (tgt := 594) hx hb d_law_43 (by rw [hyT]; decide) (by rw [hyT]; decide) (by rw [hyT]; rfl) (by decide) ?_
        exact lc_due G hX hbl hA hL N R m16 n hn5 (1 + 6 * n) hi σ hR H locs ls hI hl kk
      · refine lv_tableIn (tgt := 617) hx hb d_law_43 (by rw [hyT]; decide) (by rw [hyT]; decide) (by rw [hyT]; rfl) (by decide) ?_
        exact lc_holding G hX hbl hA hL N R m17 n hn5 (1 + 6 * n) hi σ hR H locs ls hI hl kk
      · refine lv_tableIn (tgt := 640) hx hb d_law_43 (by rw [hyT]; decide) (by rw [hyT]; decide) (by rw [hyT]; rfl) (by decide) ?_
        exact lc_line G hX hbl hA hL N R m18 n hn5 (1 + 6 * n) hi σ hR H locs ls hI hl kk
      · refine lv_tableIn (tgt := 673) hx hb d_law_43 (by rw [hyT]; decide) (by rw [hyT]; decide) (by rw [hyT]; rfl) (by decide) ?_
        exact lc_count G hX hbl hA hL N R m19 n hn5 (1 + 6 * n) hi σ hR H locs ls hI hl kk
      · refine lv_tableOut (tgt := 696) hx hb d_law_43 (Or.inr (by rw [hyT]; omega)) (by decide) ?_
        exact kk σ H locs (hmono n σ hR) hI

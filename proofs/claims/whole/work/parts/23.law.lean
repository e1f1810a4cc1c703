def lw_P (b : Addr) (xs : List Int32) (args : Array Value) (s : State) : Prop := args = #[.ref b] ∧ s.IntsAt b xs ∧ xs.length ≤ 3073 ∧ (Jvm.Cond.and given_1 narrow_1).before args s = true
def lw_Q (_ : Array Value) (s : State) (o : Outcome) (t : State) : Prop := o = .returned (some (.int 1)) ∧ Framed s o t [] 600000 7302250
def lw_Z (below : List Frame) (a : Array Value) (s : State) : State → Prop := fun t => ∃ o, t.status = .running ∧ Ended t below o ∧ lw_Q a s o t
/-- the law's own end, with 1 on the stack, nothing written that was there before, its room as the claim has it -/
theorem lw_ret {p : Program} {l : Launch} {e : Env} {s : State} {m : MethodId} {below : List Frame} {meth : Method} {c : Code} {b : Nat} (hx : p.tables.exec = Jvm.exec) (hb : c.code = code) (hr : meth.sig.returnType = ret) (hlocks : meth.locks = false) {pc : Nat} {H : Heap} {ls : Array Slot} (hdg : decode code pc = .ok (.ireturn, 1)) : W p l e room_1 s m #[Value.ref b] below meth c H [] 600000 7302250 (lw_Z below #[Value.ref b] s) (F0 m pc ls [.int 1]) := by
  intro T hT X
  obtain ⟨fs, hret, hrun, hended, hW, hframe⟩ := X.leave (v := some (.int 1)) (hlocks := hlocks) (fun h => by rw [hr] at h; cases h)
  have hmeth' : T.vm.method? m = some meth := X.method'
  refine ⟨T.setFrames fs, ?_, .returned (some (.int 1)), hrun, hended, rfl, ⟨_, rfl⟩, hW, hframe⟩
  jvm_step X.here [X.here.top, hx, hb, hdg, hmeth', hr, ret, narrow_b1]
  (try refine ⟨rfl, ?_⟩); (try refine ⟨rfl, ?_⟩)
  first | (intro acts; rw [hret _ acts rfl rfl rfl]) | rw [hret _ _ rfl rfl rfl]
  exact Steps.refl _
/-- what holds at the law's entry: the machine, the code, the tables' words (any of lw_tbl by 'hts w (by decide +kernel)'), the script of L ints xs at the cell b, what the Statement gives of the start (any of its parts by flat_of_before) -/
def lw_At (p : Program) (s : State) (m : MethodId) (meth : Method) (c : Code) (b L : Nat) (xs : Nat → Int32) : Prop :=
  p.tables.exec = Jvm.exec ∧ c.code = code ∧ meth.sig.returnType = ret ∧ c.maxLocals = 4 ∧ s.vm.findClass R_law = some m.cls ∧ (∀ w ∈ lw_tbl, w.before #[Value.ref b] s = true) ∧ va_X b L xs s s.heap ∧ b < s.heap.size ∧ meth.locks = false ∧ (Jvm.Cond.and given_1 narrow_1).before #[Value.ref b] s = true
/-- one call of the class and of the reference: both answer, and answer alike; R goes on -/
def gs_op (R : Nat → gx_M → Prop) (f g : gx_M → Option (Int32 × gx_M)) : Prop := ∀ (n : Nat) (σ : gx_M), n < 512 → R n σ → ∃ (r : Int32) (σ1 σ2 : gx_M), f σ = some (r, σ1) ∧ g σ1 = some (r, σ2) ∧ R (n + 1) σ2
def gs_queue (N : Nat) (R : Nat → gx_M → Prop) : Prop := ∀ a0 a1 a2 a3 : Int32, gs_op R (fn_Bo_queue N a0 a1 a2 a3) (fn_Mo_queue N a0 a1 a2 a3)
def gs_key (N : Nat) (R : Nat → gx_M → Prop) : Prop := ∀ a0 : Int32, gs_op R (fn_Bo_key N a0) (fn_Mo_key N a0)
def gs_submit (N : Nat) (R : Nat → gx_M → Prop) : Prop := ∀ a0 a1 a2 a3 a4 : Int32, gs_op R (fn_Bo_submit N a0 a1 a2 a3 a4) (fn_Mo_submit N a0 a1 a2 a3 a4)
def gs_hold (N : Nat) (R : Nat → gx_M → Prop) : Prop := ∀ a0 a1 : Int32, gs_op R (fn_Bo_hold N a0 a1) (fn_Mo_hold N a0 a1)
def gs_join (N : Nat) (R : Nat → gx_M → Prop) : Prop := ∀ a0 a1 : Int32, gs_op R (fn_Bo_join N a0 a1) (fn_Mo_join N a0 a1)
def gs_seal (N : Nat) (R : Nat → gx_M → Prop) : Prop := ∀ a0 : Int32, gs_op R (fn_Bo_seal N a0) (fn_Mo_seal N a0)
def gs_take (N : Nat) (R : Nat → gx_M → Prop) : Prop := ∀ a0 a1 : Int32, gs_op R (fn_Bo_take N a0 a1) (fn_Mo_take N a0 a1)
def gs_ack (N : Nat) (R : Nat → gx_M → Prop) : Prop := ∀ a0 : Int32, gs_op R (fn_Bo_ack N a0) (fn_Mo_ack N a0)
def gs_fail (N : Nat) (R : Nat → gx_M → Prop) : Prop := ∀ a0 : Int32, gs_op R (fn_Bo_fail N a0) (fn_Mo_fail N a0)
def gs_tick (N : Nat) (R : Nat → gx_M → Prop) : Prop := ∀ a0 : Int32, gs_op R (fn_Bo_tick N a0) (fn_Mo_tick N a0)
def gs_revive (N : Nat) (R : Nat → gx_M → Prop) : Prop := ∀ a0 : Int32, gs_op R (fn_Bo_revive N a0) (fn_Mo_revive N a0)
def gs_kill (N : Nat) (R : Nat → gx_M → Prop) : Prop := ∀ a0 : Int32, gs_op R (fn_Bo_kill N a0) (fn_Mo_kill N a0)
def gs_flush (N : Nat) (R : Nat → gx_M → Prop) : Prop := gs_op R (fn_Bo_flush N) (fn_Mo_flush N)
def gs_crash (N : Nat) (R : Nat → gx_M → Prop) : Prop := ∀ a0 : Int32, gs_op R (fn_Bo_crash N a0) (fn_Mo_crash N a0)
def gs_state (N : Nat) (R : Nat → gx_M → Prop) : Prop := ∀ a0 : Int32, gs_op R (fn_Bo_state N a0) (fn_Mo_state N a0)
def gs_failures (N : Nat) (R : Nat → gx_M → Prop) : Prop := ∀ a0 : Int32, gs_op R (fn_Bo_failures N a0) (fn_Mo_failures N a0)
def gs_due (N : Nat) (R : Nat → gx_M → Prop) : Prop := ∀ a0 : Int32, gs_op R (fn_Bo_due N a0) (fn_Mo_due N a0)
def gs_holding (N : Nat) (R : Nat → gx_M → Prop) : Prop := ∀ a0 : Int32, gs_op R (fn_Bo_holding N a0) (fn_Mo_holding N a0)
def gs_line (N : Nat) (R : Nat → gx_M → Prop) : Prop := ∀ a0 a1 : Int32, gs_op R (fn_Bo_line N a0 a1) (fn_Mo_line N a0 a1)
def gs_count (N : Nat) (R : Nat → gx_M → Prop) : Prop := ∀ a0 : Int32, gs_op R (fn_Bo_count N a0) (fn_Mo_count N a0)
def gs_all (N : Nat) (R : Nat → gx_M → Prop) : Prop := gs_queue N R ∧ gs_key N R ∧ gs_submit N R ∧ gs_hold N R ∧ gs_join N R ∧ gs_seal N R ∧ gs_take N R ∧ gs_ack N R ∧ gs_fail N R ∧ gs_tick N R ∧ gs_revive N R ∧ gs_kill N R ∧ gs_flush N R ∧ gs_crash N R ∧ gs_state N R ∧ gs_failures N R ∧ gs_due N R ∧ gs_holding N R ∧ gs_line N R ∧ gs_count N R
def gl_ad (o : Nat) : Nat := if o < 6 then o else if o = 6 then 48 else if o = 7 then 49 else if o < 24 then 50 + 42 * (o - 8) else if o = 24 then 6 else if o < 41 then 51 + 42 * (o - 25) else if o = 41 then 7 else if o < 682 then 52 + 42 * ((o - 42) / 40) + (o - 42) % 40 else if o < 722 then 8 + (o - 682) else o
theorem gl_T {L : Nat} (hL : L ≤ 3073) : (Int32.ofNat L - 6).toInt = (L : Int) - 6 := pk_sub_toInt (a := L) (b := 6) (by omega) (by decide)
theorem gl_gt {L i : Nat} (hL : L ≤ 3073) (hi : i ≤ 4000) (h : L < i + 6) : Int32.ofNat L - 6 < nI i := by
  rw [Int32.lt_iff_toInt_lt, gl_T hL, nI_toInt (by omega)]
  omega
theorem gl_ngt {L i : Nat} (hL : L ≤ 3073) (hi : i ≤ 4000) (h : ¬ Int32.ofNat L - 6 < nI i) : i + 6 ≤ L := by
  rw [Int32.lt_iff_toInt_lt, gl_T hL, nI_toInt (by omega)] at h
  omega
set_option maxHeartbeats 4000000 in
set_option maxRecDepth 100000 in
theorem lc_queue {p : Program} {l : Launch} {e : Env} {s : State} {m : MethodId} {below : List Frame} {meth : Method} {c : Code} {D : va_G} {dA : Nat → ClassId} {adr : Nat → Nat} {b L : Nat} {xs : Nat → Int32} (G : gx_G p m c code 4 s #[Value.ref b] gx_tb R_law D dA) (hX : va_X b L xs s s.heap) (hbl : b < s.heap.size) (hA : gx_A (fun q : Nat => s.heap.size ≤ q) adr) (hL : L ≤ 3073) (N : Nat) (R : Nat → gx_M → Prop) (hsim : gs_queue N R) (n : Nat) (hn : n < 512) (i : Nat) (hi : i + 6 ≤ L) (σ : gx_M) (hR : R n σ) (H : Heap) (locs : List Loc) (ls : Array Slot) (hI : gx_I D dA adr (fun q : Nat => s.heap.size ≤ q) s.heap σ H locs) (hl : lv_has ls 4 [(3, .int (nI i)), (2, .ref (adr 722)), (1, .ref (adr 0)), (0, .ref b)]) (kk : ∀ (σ : gx_M) (H : Heap) (locs : List Loc), R (n + 1) σ → gx_I D dA adr (fun q : Nat => s.heap.size ≤ q) s.heap σ H locs → W p l e room_1 s m #[Value.ref b] below meth c H locs 733 19239 (lw_Z below #[Value.ref b] s) (F0 m 696 ls [])) : W p l e room_1 s m #[Value.ref b] below meth c H locs 733 19239 (lw_Z below #[Value.ref b] s) (F0 m 136 ls []) := by
  obtain ⟨⟨hx, hb, hml, hown, ht⟩, hK⟩ := id G
  have hbA : ¬ (fun q : Nat => s.heap.size ≤ q) b := Nat.not_le.mpr hbl
  obtain ⟨r, σ1, σ2, h1, h2, hR2⟩ := hsim (xs (nI i + 1).toNatClampNeg) (xs (nI i + 2).toNatClampNeg) (xs (nI i + 3).toNatClampNeg) (xs (nI i + 4).toNatClampNeg) n σ hn hR
  have hin1 : vp_in (nI i + 1) L := by rw [show nI i + 1 = nI (i + 1) from nI_add i 1]; exact vp_in_nI (by omega) (by omega)
  have hin2 : vp_in (nI i + 2) L := by rw [show nI i + 2 = nI (i + 2) from nI_add i 2]; exact vp_in_nI (by omega) (by omega)
  have hin3 : vp_in (nI i + 3) L := by rw [show nI i + 3 = nI (i + 3) from nI_add i 3]; exact vp_in_nI (by omega) (by omega)
  have hin4 : vp_in (nI i + 4) L := by rw [show nI i + 4 = nI (i + 4) from nI_add i 4]; exact vp_in_nI (by omega) (by omega)
  refine lv_aload_n hx hb d_law_136 rfl (lv_at hl 2 rfl) ?_
  refine lv_aload_n hx hb d_law_137 rfl (lv_at hl 3 rfl) ?_
  refine lv_iload_n hx hb d_law_138 rfl (lv_at hl 0 rfl) ?_
  refine lv_iconst (v := 1) hx hb d_law_139 (by decide) ?_
  refine lv_iadd hx hb d_law_140 ?_
  refine va_sld (A := (fun q : Nat => s.heap.size ≤ q)) hx hb hX hbl hbA hI.2 hin1 d_law_141 ?_
  refine lv_aload_n hx hb d_law_142 rfl (lv_at hl 3 rfl) ?_
  refine lv_iload_n hx hb d_law_143 rfl (lv_at hl 0 rfl) ?_
  refine lv_iconst (v := 2) hx hb d_law_144 (by decide) ?_
  refine lv_iadd hx hb d_law_145 ?_
  refine va_sld (A := (fun q : Nat => s.heap.size ≤ q)) hx hb hX hbl hbA hI.2 hin2 d_law_146 ?_
  refine lv_aload_n hx hb d_law_147 rfl (lv_at hl 3 rfl) ?_
  refine lv_iload_n hx hb d_law_148 rfl (lv_at hl 0 rfl) ?_
  refine lv_iconst (v := 3) hx hb d_law_149 (by decide) ?_
  refine lv_iadd hx hb d_law_150 ?_
  refine va_sld (A := (fun q : Nat => s.heap.size ≤ q)) hx hb hX hbl hbA hI.2 hin3 d_law_151 ?_
  refine lv_aload_n hx hb d_law_152 rfl (lv_at hl 3 rfl) ?_
  refine lv_iload_n hx hb d_law_153 rfl (lv_at hl 0 rfl) ?_
  refine lv_iconst (v := 4) hx hb d_law_154 (by decide) ?_
  refine lv_iadd hx hb d_law_155 ?_
  refine va_sld (A := (fun q : Nat => s.heap.size ≤ q)) hx hb hX hbl hbA hI.2 hin4 d_law_156 ?_
  refine gx_go (va_runV (As := [.int (xs (nI i + 1).toNatClampNeg), .int (xs (nI i + 2).toNatClampNeg), .int (xs (nI i + 3).toNatClampNeg), .int (xs (nI i + 4).toNatClampNeg)]) (rest := []) G.1 (ct_Bo_queue l D dA adr _ hA N (xs (nI i + 1).toNatClampNeg) (xs (nI i + 2).toNatClampNeg) (xs (nI i + 3).toNatClampNeg) (xs (nI i + 4).toNatClampNeg) σ r σ1 h1) (cwV 4 ht gi_La_21 rfl rfl rfl (by decide +kernel) ⟨Nat.le_of_ble_eq_true rfl, Nat.le_of_ble_eq_true rfl⟩) (gx_preV G hI cl_Bo (by decide)) rfl rfl hl.1 rfl (lv_room (Nat.le_of_ble_eq_true rfl)) d_law_157 ⟨Nat.le_of_ble_eq_true rfl, Nat.le_of_ble_eq_true rfl⟩) hI (st1 := [.int r]) rfl (fun H locs hI => ?_)
  refine lv_aload_n hx hb d_law_160 rfl (lv_at hl 1 rfl) ?_
  refine lv_aload_n hx hb d_law_161 rfl (lv_at hl 3 rfl) ?_
  refine lv_iload_n hx hb d_law_162 rfl (lv_at hl 0 rfl) ?_
  refine lv_iconst (v := 1) hx hb d_law_163 (by decide) ?_
  refine lv_iadd hx hb d_law_164 ?_
  refine va_sld (A := (fun q : Nat => s.heap.size ≤ q)) hx hb hX hbl hbA hI.2 hin1 d_law_165 ?_
  refine lv_aload_n hx hb d_law_166 rfl (lv_at hl 3 rfl) ?_
  refine lv_iload_n hx hb d_law_167 rfl (lv_at hl 0 rfl) ?_
  refine lv_iconst (v := 2) hx hb d_law_168 (by decide) ?_
  refine lv_iadd hx hb d_law_169 ?_
  refine va_sld (A := (fun q : Nat => s.heap.size ≤ q)) hx hb hX hbl hbA hI.2 hin2 d_law_170 ?_
  refine lv_aload_n hx hb d_law_171 rfl (lv_at hl 3 rfl) ?_
  refine lv_iload_n hx hb d_law_172 rfl (lv_at hl 0 rfl) ?_
  refine lv_iconst (v := 3) hx hb d_law_173 (by decide) ?_
  refine lv_iadd hx hb d_law_174 ?_
  refine va_sld (A := (fun q : Nat => s.heap.size ≤ q)) hx hb hX hbl hbA hI.2 hin3 d_law_175 ?_
  refine lv_aload_n hx hb d_law_176 rfl (lv_at hl 3 rfl) ?_
  refine lv_iload_n hx hb d_law_177 rfl (lv_at hl 0 rfl) ?_
  refine lv_iconst (v := 4) hx hb d_law_178 (by decide) ?_
  refine lv_iadd hx hb d_law_179 ?_
  refine va_sld (A := (fun q : Nat => s.heap.size ≤ q)) hx hb hX hbl hbA hI.2 hin4 d_law_180 ?_
  refine gx_go (va_runV (As := [.int (xs (nI i + 1).toNatClampNeg), .int (xs (nI i + 2).toNatClampNeg), .int (xs (nI i + 3).toNatClampNeg), .int (xs (nI i + 4).toNatClampNeg)]) (rest := [.int r]) G.1 (ct_Mo_queue l D dA adr _ hA N (xs (nI i + 1).toNatClampNeg) (xs (nI i + 2).toNatClampNeg) (xs (nI i + 3).toNatClampNeg) (xs (nI i + 4).toNatClampNeg) σ1 r σ2 h2) (cwV 4 ht gi_La_25 rfl rfl rfl (by decide +kernel) ⟨Nat.le_of_ble_eq_true rfl, Nat.le_of_ble_eq_true rfl⟩) (gx_preV G hI cl_Mo (by decide)) rfl rfl hl.1 rfl (lv_room (Nat.le_of_ble_eq_true rfl)) d_law_181 ⟨Nat.le_of_ble_eq_true rfl, Nat.le_of_ble_eq_true rfl⟩) hI (st1 := [.int r, .int r]) rfl (fun H locs hI => ?_)
  refine lv_icmp_eq (tgt := 696) hx hb d_law_184 (by decide) (fun _ => kk σ2 H locs hR2 hI) (fun c1 => absurd rfl c1)
set_option maxHeartbeats 4000000 in
set_option maxRecDepth 100000 in
theorem lc_key {p : Program} {l : Launch} {e : Env} {s : State} {m : MethodId} {below : List Frame} {meth : Method} {c : Code} {D : va_G} {dA : Nat → ClassId} {adr : Nat → Nat} {b L : Nat} {xs : Nat → Int32} (G : gx_G p m c code 4 s #[Value.ref b] gx_tb R_law D dA) (hX : va_X b L xs s s.heap) (hbl : b < s.heap.size) (hA : gx_A (fun q : Nat => s.heap.size ≤ q) adr) (hL : L ≤ 3073) (N : Nat) (R : Nat → gx_M → Prop) (hsim : gs_key N R) (n : Nat) (hn : n < 512) (i : Nat) (hi : i + 6 ≤ L) (σ : gx_M) (hR : R n σ) (H : Heap) (locs : List Loc) (ls : Array Slot) (hI : gx_I D dA adr (fun q : Nat => s.heap.size ≤ q) s.heap σ H locs) (hl : lv_has ls 4 [(3, .int (nI i)), (2, .ref (adr 722)), (1, .ref (adr 0)), (0, .ref b)]) (kk : ∀ (σ : gx_M) (H : Heap) (locs : List Loc), R (n + 1) σ → gx_I D dA adr (fun q : Nat => s.heap.size ≤ q) s.heap σ H locs → W p l e room_1 s m #[Value.ref b] below meth c H locs 733 19239 (lw_Z below #[Value.ref b] s) (F0 m 696 ls [])) : W p l e room_1 s m #[Value.ref b] below meth c H locs 733 19239 (lw_Z below #[Value.ref b] s) (F0 m 189 ls []) := by
  obtain ⟨⟨hx, hb, hml, hown, ht⟩, hK⟩ := id G
  have hbA : ¬ (fun q : Nat => s.heap.size ≤ q) b := Nat.not_le.mpr hbl
  obtain ⟨r, σ1, σ2, h1, h2, hR2⟩ := hsim (xs (nI i + 1).toNatClampNeg) n σ hn hR
  have hin1 : vp_in (nI i + 1) L := by rw [show nI i + 1 = nI (i + 1) from nI_add i 1]; exact vp_in_nI (by omega) (by omega)
  refine lv_aload_n hx hb d_law_189 rfl (lv_at hl 2 rfl) ?_
  refine lv_aload_n hx hb d_law_190 rfl (lv_at hl 3 rfl) ?_
  refine lv_iload_n hx hb d_law_191 rfl (lv_at hl 0 rfl) ?_
  refine lv_iconst (v := 1) hx hb d_law_192 (by decide) ?_
  refine lv_iadd hx hb d_law_193 ?_
  refine va_sld (A := (fun q : Nat => s.heap.size ≤ q)) hx hb hX hbl hbA hI.2 hin1 d_law_194 ?_
  refine gx_go (va_runV (As := [.int (xs (nI i + 1).toNatClampNeg)]) (rest := []) G.1 (ct_Bo_key l D dA adr _ hA N (xs (nI i + 1).toNatClampNeg) σ r σ1 h1) (cwV 1 ht gi_La_26 rfl rfl rfl (by decide +kernel) ⟨Nat.le_of_ble_eq_true rfl, Nat.le_of_ble_eq_true rfl⟩) (gx_preV G hI cl_Bo (by decide)) rfl rfl hl.1 rfl (lv_room (Nat.le_of_ble_eq_true rfl)) d_law_195 ⟨Nat.le_of_ble_eq_true rfl, Nat.le_of_ble_eq_true rfl⟩) hI (st1 := [.int r]) rfl (fun H locs hI => ?_)
  refine lv_aload_n hx hb d_law_198 rfl (lv_at hl 1 rfl) ?_
  refine lv_aload_n hx hb d_law_199 rfl (lv_at hl 3 rfl) ?_
  refine lv_iload_n hx hb d_law_200 rfl (lv_at hl 0 rfl) ?_
  refine lv_iconst (v := 1) hx hb d_law_201 (by decide) ?_
  refine lv_iadd hx hb d_law_202 ?_
  refine va_sld (A := (fun q : Nat => s.heap.size ≤ q)) hx hb hX hbl hbA hI.2 hin1 d_law_203 ?_
  refine gx_go (va_runV (As := [.int (xs (nI i + 1).toNatClampNeg)]) (rest := [.int r]) G.1 (ct_Mo_key l D dA adr _ hA N (xs (nI i + 1).toNatClampNeg) σ1 r σ2 h2) (cwV 1 ht gi_La_30 rfl rfl rfl (by decide +kernel) ⟨Nat.le_of_ble_eq_true rfl, Nat.le_of_ble_eq_true rfl⟩) (gx_preV G hI cl_Mo (by decide)) rfl rfl hl.1 rfl (lv_room (Nat.le_of_ble_eq_true rfl)) d_law_204 ⟨Nat.le_of_ble_eq_true rfl, Nat.le_of_ble_eq_true rfl⟩) hI (st1 := [.int r, .int r]) rfl (fun H locs hI => ?_)
  refine lv_icmp_eq (tgt := 696) hx hb d_law_207 (by decide) (fun _ => kk σ2 H locs hR2 hI) (fun c1 => absurd rfl c1)
set_option maxHeartbeats 4000000 in
set_option maxRecDepth 100000 in
theorem lc_submit {p : Program} {l : Launch} {e : Env} {s : State} {m : MethodId} {below : List Frame} {meth : Method} {c : Code} {D : va_G} {dA : Nat → ClassId} {adr : Nat → Nat} {b L : Nat} {xs : Nat → Int32} (G : gx_G p m c code 4 s #[Value.ref b] gx_tb R_law D dA) (hX : va_X b L xs s s.heap) (hbl : b < s.heap.size) (hA : gx_A (fun q : Nat => s.heap.size ≤ q) adr) (hL : L ≤ 3073) (N : Nat) (R : Nat → gx_M → Prop) (hsim : gs_submit N R) (n : Nat) (hn : n < 512) (i : Nat) (hi : i + 6 ≤ L) (σ : gx_M) (hR : R n σ) (H : Heap) (locs : List Loc) (ls : Array Slot) (hI : gx_I D dA adr (fun q : Nat => s.heap.size ≤ q) s.heap σ H locs) (hl : lv_has ls 4 [(3, .int (nI i)), (2, .ref (adr 722)), (1, .ref (adr 0)), (0, .ref b)]) (kk : ∀ (σ : gx_M) (H : Heap) (locs : List Loc), R (n + 1) σ → gx_I D dA adr (fun q : Nat => s.heap.size ≤ q) s.heap σ H locs → W p l e room_1 s m #[Value.ref b] below meth c H locs 733 19239 (lw_Z below #[Value.ref b] s) (F0 m 696 ls [])) : W p l e room_1 s m #[Value.ref b] below meth c H locs 733 19239 (lw_Z below #[Value.ref b] s) (F0 m 212 ls []) := by
  obtain ⟨⟨hx, hb, hml, hown, ht⟩, hK⟩ := id G
  have hbA : ¬ (fun q : Nat => s.heap.size ≤ q) b := Nat.not_le.mpr hbl
  obtain ⟨r, σ1, σ2, h1, h2, hR2⟩ := hsim (xs (nI i + 1).toNatClampNeg) (xs (nI i + 2).toNatClampNeg) (xs (nI i + 3).toNatClampNeg) (xs (nI i + 4).toNatClampNeg) (xs (nI i + 5).toNatClampNeg) n σ hn hR
  have hin1 : vp_in (nI i + 1) L := by rw [show nI i + 1 = nI (i + 1) from nI_add i 1]; exact vp_in_nI (by omega) (by omega)
  have hin2 : vp_in (nI i + 2) L := by rw [show nI i + 2 = nI (i + 2) from nI_add i 2]; exact vp_in_nI (by omega) (by omega)
  have hin3 : vp_in (nI i + 3) L := by rw [show nI i + 3 = nI (i + 3) from nI_add i 3]; exact vp_in_nI (by omega) (by omega)
  have hin4 : vp_in (nI i + 4) L := by rw [show nI i + 4 = nI (i + 4) from nI_add i 4]; exact vp_in_nI (by omega) (by omega)
  have hin5 : vp_in (nI i + 5) L := by rw [show nI i + 5 = nI (i + 5) from nI_add i 5]; exact vp_in_nI (by omega) (by omega)
  refine lv_aload_n hx hb d_law_212 rfl (lv_at hl 2 rfl) ?_
  refine lv_aload_n hx hb d_law_213 rfl (lv_at hl 3 rfl) ?_
  refine lv_iload_n hx hb d_law_214 rfl (lv_at hl 0 rfl) ?_
  refine lv_iconst (v := 1) hx hb d_law_215 (by decide) ?_
  refine lv_iadd hx hb d_law_216 ?_
  refine va_sld (A := (fun q : Nat => s.heap.size ≤ q)) hx hb hX hbl hbA hI.2 hin1 d_law_217 ?_
  refine lv_aload_n hx hb d_law_218 rfl (lv_at hl 3 rfl) ?_
  refine lv_iload_n hx hb d_law_219 rfl (lv_at hl 0 rfl) ?_
  refine lv_iconst (v := 2) hx hb d_law_220 (by decide) ?_
  refine lv_iadd hx hb d_law_221 ?_
  refine va_sld (A := (fun q : Nat => s.heap.size ≤ q)) hx hb hX hbl hbA hI.2 hin2 d_law_222 ?_
  refine lv_aload_n hx hb d_law_223 rfl (lv_at hl 3 rfl) ?_
  refine lv_iload_n hx hb d_law_224 rfl (lv_at hl 0 rfl) ?_
  refine lv_iconst (v := 3) hx hb d_law_225 (by decide) ?_
  refine lv_iadd hx hb d_law_226 ?_
  refine va_sld (A := (fun q : Nat => s.heap.size ≤ q)) hx hb hX hbl hbA hI.2 hin3 d_law_227 ?_
  refine lv_aload_n hx hb d_law_228 rfl (lv_at hl 3 rfl) ?_
  refine lv_iload_n hx hb d_law_229 rfl (lv_at hl 0 rfl) ?_
  refine lv_iconst (v := 4) hx hb d_law_230 (by decide) ?_
  refine lv_iadd hx hb d_law_231 ?_
  refine va_sld (A := (fun q : Nat => s.heap.size ≤ q)) hx hb hX hbl hbA hI.2 hin4 d_law_232 ?_
  refine lv_aload_n hx hb d_law_233 rfl (lv_at hl 3 rfl) ?_
  refine lv_iload_n hx hb d_law_234 rfl (lv_at hl 0 rfl) ?_
  refine lv_iconst (v := 5) hx hb d_law_235 (by decide) ?_
  refine lv_iadd hx hb d_law_236 ?_
  refine va_sld (A := (fun q : Nat => s.heap.size ≤ q)) hx hb hX hbl hbA hI.2 hin5 d_law_237 ?_
  refine gx_go (va_runV (As := [.int (xs (nI i + 1).toNatClampNeg), .int (xs (nI i + 2).toNatClampNeg), .int (xs (nI i + 3).toNatClampNeg), .int (xs (nI i + 4).toNatClampNeg), .int (xs (nI i + 5).toNatClampNeg)]) (rest := []) G.1 (ct_Bo_submit l D dA adr _ hA N (xs (nI i + 1).toNatClampNeg) (xs (nI i + 2).toNatClampNeg) (xs (nI i + 3).toNatClampNeg) (xs (nI i + 4).toNatClampNeg) (xs (nI i + 5).toNatClampNeg) σ r σ1 h1) (cwV 5 ht gi_La_31 rfl rfl rfl (by decide +kernel) ⟨Nat.le_of_ble_eq_true rfl, Nat.le_of_ble_eq_true rfl⟩) (gx_preV G hI cl_Bo (by decide)) rfl rfl hl.1 rfl (lv_room (Nat.le_of_ble_eq_true rfl)) d_law_238 ⟨Nat.le_of_ble_eq_true rfl, Nat.le_of_ble_eq_true rfl⟩) hI (st1 := [.int r]) rfl (fun H locs hI => ?_)
  refine lv_aload_n hx hb d_law_241 rfl (lv_at hl 1 rfl) ?_
  refine lv_aload_n hx hb d_law_242 rfl (lv_at hl 3 rfl) ?_
  refine lv_iload_n hx hb d_law_243 rfl (lv_at hl 0 rfl) ?_
  refine lv_iconst (v := 1) hx hb d_law_244 (by decide) ?_
  refine lv_iadd hx hb d_law_245 ?_
  refine va_sld (A := (fun q : Nat => s.heap.size ≤ q)) hx hb hX hbl hbA hI.2 hin1 d_law_246 ?_
  refine lv_aload_n hx hb d_law_247 rfl (lv_at hl 3 rfl) ?_
  refine lv_iload_n hx hb d_law_248 rfl (lv_at hl 0 rfl) ?_
  refine lv_iconst (v := 2) hx hb d_law_249 (by decide) ?_
  refine lv_iadd hx hb d_law_250 ?_
  refine va_sld (A := (fun q : Nat => s.heap.size ≤ q)) hx hb hX hbl hbA hI.2 hin2 d_law_251 ?_
  refine lv_aload_n hx hb d_law_252 rfl (lv_at hl 3 rfl) ?_
  refine lv_iload_n hx hb d_law_253 rfl (lv_at hl 0 rfl) ?_
  refine lv_iconst (v := 3) hx hb d_law_254 (by decide) ?_
  refine lv_iadd hx hb d_law_255 ?_
  refine va_sld (A := (fun q : Nat => s.heap.size ≤ q)) hx hb hX hbl hbA hI.2 hin3 d_law_256 ?_
  refine lv_aload_n hx hb d_law_257 rfl (lv_at hl 3 rfl) ?_
  refine lv_iload_n hx hb d_law_258 rfl (lv_at hl 0 rfl) ?_
  refine lv_iconst (v := 4) hx hb d_law_259 (by decide) ?_
  refine lv_iadd hx hb d_law_260 ?_
  refine va_sld (A := (fun q : Nat => s.heap.size ≤ q)) hx hb hX hbl hbA hI.2 hin4 d_law_261 ?_
  refine lv_aload_n hx hb d_law_262 rfl (lv_at hl 3 rfl) ?_
  refine lv_iload_n hx hb d_law_263 rfl (lv_at hl 0 rfl) ?_
  refine lv_iconst (v := 5) hx hb d_law_264 (by decide) ?_
  refine lv_iadd hx hb d_law_265 ?_
  refine va_sld (A := (fun q : Nat => s.heap.size ≤ q)) hx hb hX hbl hbA hI.2 hin5 d_law_266 ?_
  refine gx_go (va_runV (As := [.int (xs (nI i + 1).toNatClampNeg), .int (xs (nI i + 2).toNatClampNeg), .int (xs (nI i + 3).toNatClampNeg), .int (xs (nI i + 4).toNatClampNeg), .int (xs (nI i + 5).toNatClampNeg)]) (rest := [.int r]) G.1 (ct_Mo_submit l D dA adr _ hA N (xs (nI i + 1).toNatClampNeg) (xs (nI i + 2).toNatClampNeg) (xs (nI i + 3).toNatClampNeg) (xs (nI i + 4).toNatClampNeg) (xs (nI i + 5).toNatClampNeg) σ1 r σ2 h2) (cwV 5 ht gi_La_35 rfl rfl rfl (by decide +kernel) ⟨Nat.le_of_ble_eq_true rfl, Nat.le_of_ble_eq_true rfl⟩) (gx_preV G hI cl_Mo (by decide)) rfl rfl hl.1 rfl (lv_room (Nat.le_of_ble_eq_true rfl)) d_law_267 ⟨Nat.le_of_ble_eq_true rfl, Nat.le_of_ble_eq_true rfl⟩) hI (st1 := [.int r, .int r]) rfl (fun H locs hI => ?_)
  refine lv_icmp_eq (tgt := 696) hx hb d_law_270 (by decide) (fun _ => kk σ2 H locs hR2 hI) (fun c1 => absurd rfl c1)
set_option maxHeartbeats 4000000 in
set_option maxRecDepth 100000 in
theorem lc_hold {p : Program} {l : Launch} {e : Env} {s : State} {m : MethodId} {below : List Frame} {meth : Method} {c : Code} {D : va_G} {dA : Nat → ClassId} {adr : Nat → Nat} {b L : Nat} {xs : Nat → Int32} (G : gx_G p m c code 4 s #[Value.ref b] gx_tb R_law D dA) (hX : va_X b L xs s s.heap) (hbl : b < s.heap.size) (hA : gx_A (fun q : Nat => s.heap.size ≤ q) adr) (hL : L ≤ 3073) (N : Nat) (R : Nat → gx_M → Prop) (hsim : gs_hold N R) (n : Nat) (hn : n < 512) (i : Nat) (hi : i + 6 ≤ L) (σ : gx_M) (hR : R n σ) (H : Heap) (locs : List Loc) (ls : Array Slot) (hI : gx_I D dA adr (fun q : Nat => s.heap.size ≤ q) s.heap σ H locs) (hl : lv_has ls 4 [(3, .int (nI i)), (2, .ref (adr 722)), (1, .ref (adr 0)), (0, .ref b)]) (kk : ∀ (σ : gx_M) (H : Heap) (locs : List Loc), R (n + 1) σ → gx_I D dA adr (fun q : Nat => s.heap.size ≤ q) s.heap σ H locs → W p l e room_1 s m #[Value.ref b] below meth c H locs 733 19239 (lw_Z below #[Value.ref b] s) (F0 m 696 ls [])) : W p l e room_1 s m #[Value.ref b] below meth c H locs 733 19239 (lw_Z below #[Value.ref b] s) (F0 m 275 ls []) := by
  obtain ⟨⟨hx, hb, hml, hown, ht⟩, hK⟩ := id G
  have hbA : ¬ (fun q : Nat => s.heap.size ≤ q) b := Nat.not_le.mpr hbl
  obtain ⟨r, σ1, σ2, h1, h2, hR2⟩ := hsim (xs (nI i + 1).toNatClampNeg) (xs (nI i + 2).toNatClampNeg) n σ hn hR
  have hin1 : vp_in (nI i + 1) L := by rw [show nI i + 1 = nI (i + 1) from nI_add i 1]; exact vp_in_nI (by omega) (by omega)
  have hin2 : vp_in (nI i + 2) L := by rw [show nI i + 2 = nI (i + 2) from nI_add i 2]; exact vp_in_nI (by omega) (by omega)
  refine lv_aload_n hx hb d_law_275 rfl (lv_at hl 2 rfl) ?_
  refine lv_aload_n hx hb d_law_276 rfl (lv_at hl 3 rfl) ?_
  refine lv_iload_n hx hb d_law_277 rfl (lv_at hl 0 rfl) ?_
  refine lv_iconst (v := 1) hx hb d_law_278 (by decide) ?_
  refine lv_iadd hx hb d_law_279 ?_
  refine va_sld (A := (fun q : Nat => s.heap.size ≤ q)) hx hb hX hbl hbA hI.2 hin1 d_law_280 ?_
  refine lv_aload_n hx hb d_law_281 rfl (lv_at hl 3 rfl) ?_
  refine lv_iload_n hx hb d_law_282 rfl (lv_at hl 0 rfl) ?_
  refine lv_iconst (v := 2) hx hb d_law_283 (by decide) ?_
  refine lv_iadd hx hb d_law_284 ?_
  refine va_sld (A := (fun q : Nat => s.heap.size ≤ q)) hx hb hX hbl hbA hI.2 hin2 d_law_285 ?_
  refine gx_go (va_runV (As := [.int (xs (nI i + 1).toNatClampNeg), .int (xs (nI i + 2).toNatClampNeg)]) (rest := []) G.1 (ct_Bo_hold l D dA adr _ hA N (xs (nI i + 1).toNatClampNeg) (xs (nI i + 2).toNatClampNeg) σ r σ1 h1) (cwV 2 ht gi_La_36 rfl rfl rfl (by decide +kernel) ⟨Nat.le_of_ble_eq_true rfl, Nat.le_of_ble_eq_true rfl⟩) (gx_preV G hI cl_Bo (by decide)) rfl rfl hl.1 rfl (lv_room (Nat.le_of_ble_eq_true rfl)) d_law_286 ⟨Nat.le_of_ble_eq_true rfl, Nat.le_of_ble_eq_true rfl⟩) hI (st1 := [.int r]) rfl (fun H locs hI => ?_)
  refine lv_aload_n hx hb d_law_289 rfl (lv_at hl 1 rfl) ?_
  refine lv_aload_n hx hb d_law_290 rfl (lv_at hl 3 rfl) ?_
  refine lv_iload_n hx hb d_law_291 rfl (lv_at hl 0 rfl) ?_
  refine lv_iconst (v := 1) hx hb d_law_292 (by decide) ?_
  refine lv_iadd hx hb d_law_293 ?_
  refine va_sld (A := (fun q : Nat => s.heap.size ≤ q)) hx hb hX hbl hbA hI.2 hin1 d_law_294 ?_
  refine lv_aload_n hx hb d_law_295 rfl (lv_at hl 3 rfl) ?_
  refine lv_iload_n hx hb d_law_296 rfl (lv_at hl 0 rfl) ?_
  refine lv_iconst (v := 2) hx hb d_law_297 (by decide) ?_
  refine lv_iadd hx hb d_law_298 ?_
  refine va_sld (A := (fun q : Nat => s.heap.size ≤ q)) hx hb hX hbl hbA hI.2 hin2 d_law_299 ?_
  refine gx_go (va_runV (As := [.int (xs (nI i + 1).toNatClampNeg), .int (xs (nI i + 2).toNatClampNeg)]) (rest := [.int r]) G.1 (ct_Mo_hold l D dA adr _ hA N (xs (nI i + 1).toNatClampNeg) (xs (nI i + 2).toNatClampNeg) σ1 r σ2 h2) (cwV 2 ht gi_La_40 rfl rfl rfl (by decide +kernel) ⟨Nat.le_of_ble_eq_true rfl, Nat.le_of_ble_eq_true rfl⟩) (gx_preV G hI cl_Mo (by decide)) rfl rfl hl.1 rfl (lv_room (Nat.le_of_ble_eq_true rfl)) d_law_300 ⟨Nat.le_of_ble_eq_true rfl, Nat.le_of_ble_eq_true rfl⟩) hI (st1 := [.int r, .int r]) rfl (fun H locs hI => ?_)
  refine lv_icmp_eq (tgt := 696) hx hb d_law_303 (by decide) (fun _ => kk σ2 H locs hR2 hI) (fun c1 => absurd rfl c1)
set_option maxHeartbeats 4000000 in
set_option maxRecDepth 100000 in
theorem lc_join {p : Program} {l : Launch} {e : Env} {s : State} {m : MethodId} {below : List Frame} {meth : Method} {c : Code} {D : va_G} {dA : Nat → ClassId} {adr : Nat → Nat} {b L : Nat} {xs : Nat → Int32} (G : gx_G p m c code 4 s #[Value.ref b] gx_tb R_law D dA) (hX : va_X b L xs s s.heap) (hbl : b < s.heap.size) (hA : gx_A (fun q : Nat => s.heap.size ≤ q) adr) (hL : L ≤ 3073) (N : Nat) (R : Nat → gx_M → Prop) (hsim : gs_join N R) (n : Nat) (hn : n < 512) (i : Nat) (hi : i + 6 ≤ L) (σ : gx_M) (hR : R n σ) (H : Heap) (locs : List Loc) (ls : Array Slot) (hI : gx_I D dA adr (fun q : Nat => s.heap.size ≤ q) s.heap σ H locs) (hl : lv_has ls 4 [(3, .int (nI i)), (2, .ref (adr 722)), (1, .ref (adr 0)), (0, .ref b)]) (kk : ∀ (σ : gx_M) (H : Heap) (locs : List Loc), R (n + 1) σ → gx_I D dA adr (fun q : Nat => s.heap.size ≤ q) s.heap σ H locs → W p l e room_1 s m #[Value.ref b] below meth c H locs 733 19239 (lw_Z below #[Value.ref b] s) (F0 m 696 ls [])) : W p l e room_1 s m #[Value.ref b] below meth c H locs 733 19239 (lw_Z below #[Value.ref b] s) (F0 m 308 ls []) := by
  obtain ⟨⟨hx, hb, hml, hown, ht⟩, hK⟩ := id G
  have hbA : ¬ (fun q : Nat => s.heap.size ≤ q) b := Nat.not_le.mpr hbl
  obtain ⟨r, σ1, σ2, h1, h2, hR2⟩ := hsim (xs (nI i + 1).toNatClampNeg) (xs (nI i + 2).toNatClampNeg) n σ hn hR
  have hin1 : vp_in (nI i + 1) L := by rw [show nI i + 1 = nI (i + 1) from nI_add i 1]; exact vp_in_nI (by omega) (by omega)
  have hin2 : vp_in (nI i + 2) L := by rw [show nI i + 2 = nI (i + 2) from nI_add i 2]; exact vp_in_nI (by omega) (by omega)
  refine lv_aload_n hx hb d_law_308 rfl (lv_at hl 2 rfl) ?_
  refine lv_aload_n hx hb d_law_309 rfl (lv_at hl 3 rfl) ?_
  refine lv_iload_n hx hb d_law_310 rfl (lv_at hl 0 rfl) ?_
  refine lv_iconst (v := 1) hx hb d_law_311 (by decide) ?_
  refine lv_iadd hx hb d_law_312 ?_
  refine va_sld (A := (fun q : Nat => s.heap.size ≤ q)) hx hb hX hbl hbA hI.2 hin1 d_law_313 ?_
  refine lv_aload_n hx hb d_law_314 rfl (lv_at hl 3 rfl) ?_
  refine lv_iload_n hx hb d_law_315 rfl (lv_at hl 0 rfl) ?_
  refine lv_iconst (v := 2) hx hb d_law_316 (by decide) ?_
  refine lv_iadd hx hb d_law_317 ?_
  refine va_sld (A := (fun q : Nat => s.heap.size ≤ q)) hx hb hX hbl hbA hI.2 hin2 d_law_318 ?_
  refine gx_go (va_runV (As := [.int (xs (nI i + 1).toNatClampNeg), .int (xs (nI i + 2).toNatClampNeg)]) (rest := []) G.1 (ct_Bo_join l D dA adr _ hA N (xs (nI i + 1).toNatClampNeg) (xs (nI i + 2).toNatClampNeg) σ r σ1 h1) (cwV 2 ht gi_La_41 rfl rfl rfl (by decide +kernel) ⟨Nat.le_of_ble_eq_true rfl, Nat.le_of_ble_eq_true rfl⟩) (gx_preV G hI cl_Bo (by decide)) rfl rfl hl.1 rfl (lv_room (Nat.le_of_ble_eq_true rfl)) d_law_319 ⟨Nat.le_of_ble_eq_true rfl, Nat.le_of_ble_eq_true rfl⟩) hI (st1 := [.int r]) rfl (fun H locs hI => ?_)
  refine lv_aload_n hx hb d_law_322 rfl (lv_at hl 1 rfl) ?_
  refine lv_aload_n hx hb d_law_323 rfl (lv_at hl 3 rfl) ?_
  refine lv_iload_n hx hb d_law_324 rfl (lv_at hl 0 rfl) ?_
  refine lv_iconst (v := 1) hx hb d_law_325 (by decide) ?_
  refine lv_iadd hx hb d_law_326 ?_
  refine va_sld (A := (fun q : Nat => s.heap.size ≤ q)) hx hb hX hbl hbA hI.2 hin1 d_law_327 ?_
  refine lv_aload_n hx hb d_law_328 rfl (lv_at hl 3 rfl) ?_
  refine lv_iload_n hx hb d_law_329 rfl (lv_at hl 0 rfl) ?_
  refine lv_iconst (v := 2) hx hb d_law_330 (by decide) ?_
  refine lv_iadd hx hb d_law_331 ?_
  refine va_sld (A := (fun q : Nat => s.heap.size ≤ q)) hx hb hX hbl hbA hI.2 hin2 d_law_332 ?_
  refine gx_go (va_runV (As := [.int (xs (nI i + 1).toNatClampNeg), .int (xs (nI i + 2).toNatClampNeg)]) (rest := [.int r]) G.1 (ct_Mo_join l D dA adr _ hA N (xs (nI i + 1).toNatClampNeg) (xs (nI i + 2).toNatClampNeg) σ1 r σ2 h2) (cwV 2 ht gi_La_44 rfl rfl rfl (by decide +kernel) ⟨Nat.le_of_ble_eq_true rfl, Nat.le_of_ble_eq_true rfl⟩) (gx_preV G hI cl_Mo (by decide)) rfl rfl hl.1 rfl (lv_room (Nat.le_of_ble_eq_true rfl)) d_law_333 ⟨Nat.le_of_ble_eq_true rfl, Nat.le_of_ble_eq_true rfl⟩) hI (st1 := [.int r, .int r]) rfl (fun H locs hI => ?_)
  refine lv_icmp_eq (tgt := 696) hx hb d_law_336 (by decide) (fun _ => kk σ2 H locs hR2 hI) (fun c1 => absurd rfl c1)
set_option maxHeartbeats 4000000 in
set_option maxRecDepth 100000 in
theorem lc_seal {p : Program} {l : Launch} {e : Env} {s : State} {m : MethodId} {below : List Frame} {meth : Method} {c : Code} {D : va_G} {dA : Nat → ClassId} {adr : Nat → Nat} {b L : Nat} {xs : Nat → Int32} (G : gx_G p m c code 4 s #[Value.ref b] gx_tb R_law D dA) (hX : va_X b L xs s s.heap) (hbl : b < s.heap.size) (hA : gx_A (fun q : Nat => s.heap.size ≤ q) adr) (hL : L ≤ 3073) (N : Nat) (R : Nat → gx_M → Prop) (hsim : gs_seal N R) (n : Nat) (hn : n < 512) (i : Nat) (hi : i + 6 ≤ L) (σ : gx_M) (hR : R n σ) (H : Heap) (locs : List Loc) (ls : Array Slot) (hI : gx_I D dA adr (fun q : Nat => s.heap.size ≤ q) s.heap σ H locs) (hl : lv_has ls 4 [(3, .int (nI i)), (2, .ref (adr 722)), (1, .ref (adr 0)), (0, .ref b)]) (kk : ∀ (σ : gx_M) (H : Heap) (locs : List Loc), R (n + 1) σ → gx_I D dA adr (fun q : Nat => s.heap.size ≤ q) s.heap σ H locs → W p l e room_1 s m #[Value.ref b] below meth c H locs 733 19239 (lw_Z below #[Value.ref b] s) (F0 m 696 ls [])) : W p l e room_1 s m #[Value.ref b] below meth c H locs 733 19239 (lw_Z below #[Value.ref b] s) (F0 m 341 ls []) := by
  obtain ⟨⟨hx, hb, hml, hown, ht⟩, hK⟩ := id G
  have hbA : ¬ (fun q : Nat => s.heap.size ≤ q) b := Nat.not_le.mpr hbl
  obtain ⟨r, σ1, σ2, h1, h2, hR2⟩ := hsim (xs (nI i + 1).toNatClampNeg) n σ hn hR
  have hin1 : vp_in (nI i + 1) L := by rw [show nI i + 1 = nI (i + 1) from nI_add i 1]; exact vp_in_nI (by omega) (by omega)
  refine lv_aload_n hx hb d_law_341 rfl (lv_at hl 2 rfl) ?_
  refine lv_aload_n hx hb d_law_342 rfl (lv_at hl 3 rfl) ?_
  refine lv_iload_n hx hb d_law_343 rfl (lv_at hl 0 rfl) ?_
  refine lv_iconst (v := 1) hx hb d_law_344 (by decide) ?_
  refine lv_iadd hx hb d_law_345 ?_
  refine va_sld (A := (fun q : Nat => s.heap.size ≤ q)) hx hb hX hbl hbA hI.2 hin1 d_law_346 ?_
  refine gx_go (va_runV (As := [.int (xs (nI i + 1).toNatClampNeg)]) (rest := []) G.1 (ct_Bo_seal l D dA adr _ hA N (xs (nI i + 1).toNatClampNeg) σ r σ1 h1) (cwV 1 ht gi_La_45 rfl rfl rfl (by decide +kernel) ⟨Nat.le_of_ble_eq_true rfl, Nat.le_of_ble_eq_true rfl⟩) (gx_preV G hI cl_Bo (by decide)) rfl rfl hl.1 rfl (lv_room (Nat.le_of_ble_eq_true rfl)) d_law_347 ⟨Nat.le_of_ble_eq_true rfl, Nat.le_of_ble_eq_true rfl⟩) hI (st1 := [.int r]) rfl (fun H locs hI => ?_)
  refine lv_aload_n hx hb d_law_350 rfl (lv_at hl 1 rfl) ?_
  refine lv_aload_n hx hb d_law_351 rfl (lv_at hl 3 rfl) ?_
  refine lv_iload_n hx hb d_law_352 rfl (lv_at hl 0 rfl) ?_
  refine lv_iconst (v := 1) hx hb d_law_353 (by decide) ?_
  refine lv_iadd hx hb d_law_354 ?_
  refine va_sld (A := (fun q : Nat => s.heap.size ≤ q)) hx hb hX hbl hbA hI.2 hin1 d_law_355 ?_
  refine gx_go (va_runV (As := [.int (xs (nI i + 1).toNatClampNeg)]) (rest := [.int r]) G.1 (ct_Mo_seal l D dA adr _ hA N (xs (nI i + 1).toNatClampNeg) σ1 r σ2 h2) (cwV 1 ht gi_La_48 rfl rfl rfl (by decide +kernel) ⟨Nat.le_of_ble_eq_true rfl, Nat.le_of_ble_eq_true rfl⟩) (gx_preV G hI cl_Mo (by decide)) rfl rfl hl.1 rfl (lv_room (Nat.le_of_ble_eq_true rfl)) d_law_356 ⟨Nat.le_of_ble_eq_true rfl, Nat.le_of_ble_eq_true rfl⟩) hI (st1 := [.int r, .int r]) rfl (fun H locs hI => ?_)
  refine lv_icmp_eq (tgt := 696) hx hb d_law_359 (by decide) (fun _ => kk σ2 H locs hR2 hI) (fun c1 => absurd rfl c1)
set_option maxHeartbeats 4000000 in
set_option maxRecDepth 100000 in
theorem lc_take {p : Program} {l : Launch} {e : Env} {s : State} {m : MethodId} {below : List Frame} {meth : Method} {c : Code} {D : va_G} {dA : Nat → ClassId} {adr : Nat → Nat} {b L : Nat} {xs : Nat → Int32} (G : gx_G p m c code 4 s #[Value.ref b] gx_tb R_law D dA) (hX : va_X b L xs s s.heap) (hbl : b < s.heap.size) (hA : gx_A (fun q : Nat => s.heap.size ≤ q) adr) (hL : L ≤ 3073) (N : Nat) (R : Nat → gx_M → Prop) (hsim : gs_take N R) (n : Nat) (hn : n < 512) (i : Nat) (hi : i + 6 ≤ L) (σ : gx_M) (hR : R n σ) (H : Heap) (locs : List Loc) (ls : Array Slot) (hI : gx_I D dA adr (fun q : Nat => s.heap.size ≤ q) s.heap σ H locs) (hl : lv_has ls 4 [(3, .int (nI i)), (2, .ref (adr 722)), (1, .ref (adr 0)), (0, .ref b)]) (kk : ∀ (σ : gx_M) (H : Heap) (locs : List Loc), R (n + 1) σ → gx_I D dA adr (fun q : Nat => s.heap.size ≤ q) s.heap σ H locs → W p l e room_1 s m #[Value.ref b] below meth c H locs 733 19239 (lw_Z below #[Value.ref b] s) (F0 m 696 ls [])) : W p l e room_1 s m #[Value.ref b] below meth c H locs 733 19239 (lw_Z below #[Value.ref b] s) (F0 m 364 ls []) := by
  obtain ⟨⟨hx, hb, hml, hown, ht⟩, hK⟩ := id G
  have hbA : ¬ (fun q : Nat => s.heap.size ≤ q) b := Nat.not_le.mpr hbl
  obtain ⟨r, σ1, σ2, h1, h2, hR2⟩ := hsim (xs (nI i + 1).toNatClampNeg) (xs (nI i + 2).toNatClampNeg) n σ hn hR
  have hin1 : vp_in (nI i + 1) L := by rw [show nI i + 1 = nI (i + 1) from nI_add i 1]; exact vp_in_nI (by omega) (by omega)
  have hin2 : vp_in (nI i + 2) L := by rw [show nI i + 2 = nI (i + 2) from nI_add i 2]; exact vp_in_nI (by omega) (by omega)
  refine lv_aload_n hx hb d_law_364 rfl (lv_at hl 2 rfl) ?_
  refine lv_aload_n hx hb d_law_365 rfl (lv_at hl 3 rfl) ?_
  refine lv_iload_n hx hb d_law_366 rfl (lv_at hl 0 rfl) ?_
  refine lv_iconst (v := 1) hx hb d_law_367 (by decide) ?_
  refine lv_iadd hx hb d_law_368 ?_
  refine va_sld (A := (fun q : Nat => s.heap.size ≤ q)) hx hb hX hbl hbA hI.2 hin1 d_law_369 ?_
  refine lv_aload_n hx hb d_law_370 rfl (lv_at hl 3 rfl) ?_
  refine lv_iload_n hx hb d_law_371 rfl (lv_at hl 0 rfl) ?_
  refine lv_iconst (v := 2) hx hb d_law_372 (by decide) ?_
  refine lv_iadd hx hb d_law_373 ?_
  refine va_sld (A := (fun q : Nat => s.heap.size ≤ q)) hx hb hX hbl hbA hI.2 hin2 d_law_374 ?_
  refine gx_go (va_runV (As := [.int (xs (nI i + 1).toNatClampNeg), .int (xs (nI i + 2).toNatClampNeg)]) (rest := []) G.1 (ct_Bo_take l D dA adr _ hA N (xs (nI i + 1).toNatClampNeg) (xs (nI i + 2).toNatClampNeg) σ r σ1 h1) (cwV 2 ht gi_La_49 rfl rfl rfl (by decide +kernel) ⟨Nat.le_of_ble_eq_true rfl, Nat.le_of_ble_eq_true rfl⟩) (gx_preV G hI cl_Bo (by decide)) rfl rfl hl.1 rfl (lv_room (Nat.le_of_ble_eq_true rfl)) d_law_375 ⟨Nat.le_of_ble_eq_true rfl, Nat.le_of_ble_eq_true rfl⟩) hI (st1 := [.int r]) rfl (fun H locs hI => ?_)
  refine lv_aload_n hx hb d_law_378 rfl (lv_at hl 1 rfl) ?_
  refine lv_aload_n hx hb d_law_379 rfl (lv_at hl 3 rfl) ?_
  refine lv_iload_n hx hb d_law_380 rfl (lv_at hl 0 rfl) ?_
  refine lv_iconst (v := 1) hx hb d_law_381 (by decide) ?_
  refine lv_iadd hx hb d_law_382 ?_
  refine va_sld (A := (fun q : Nat => s.heap.size ≤ q)) hx hb hX hbl hbA hI.2 hin1 d_law_383 ?_
  refine lv_aload_n hx hb d_law_384 rfl (lv_at hl 3 rfl) ?_
  refine lv_iload_n hx hb d_law_385 rfl (lv_at hl 0 rfl) ?_
  refine lv_iconst (v := 2) hx hb d_law_386 (by decide) ?_
  refine lv_iadd hx hb d_law_387 ?_
  refine va_sld (A := (fun q : Nat => s.heap.size ≤ q)) hx hb hX hbl hbA hI.2 hin2 d_law_388 ?_
  refine gx_go (va_runV (As := [.int (xs (nI i + 1).toNatClampNeg), .int (xs (nI i + 2).toNatClampNeg)]) (rest := [.int r]) G.1 (ct_Mo_take l D dA adr _ hA N (xs (nI i + 1).toNatClampNeg) (xs (nI i + 2).toNatClampNeg) σ1 r σ2 h2) (cwV 2 ht gi_La_52 rfl rfl rfl (by decide +kernel) ⟨Nat.le_of_ble_eq_true rfl, Nat.le_of_ble_eq_true rfl⟩) (gx_preV G hI cl_Mo (by decide)) rfl rfl hl.1 rfl (lv_room (Nat.le_of_ble_eq_true rfl)) d_law_389 ⟨Nat.le_of_ble_eq_true rfl, Nat.le_of_ble_eq_true rfl⟩) hI (st1 := [.int r, .int r]) rfl (fun H locs hI => ?_)
  refine lv_icmp_eq (tgt := 696) hx hb d_law_392 (by decide) (fun _ => kk σ2 H locs hR2 hI) (fun c1 => absurd rfl c1)
set_option maxHeartbeats 4000000 in
set_option maxRecDepth 100000 in
theorem lc_ack {p : Program} {l : Launch} {e : Env} {s : State} {m : MethodId} {below : List Frame} {meth : Method} {c : Code} {D : va_G} {dA : Nat → ClassId} {adr : Nat → Nat} {b L : Nat} {xs : Nat → Int32} (G : gx_G p m c code 4 s #[Value.ref b] gx_tb R_law D dA) (hX : va_X b L xs s s.heap) (hbl : b < s.heap.size) (hA : gx_A (fun q : Nat => s.heap.size ≤ q) adr) (hL : L ≤ 3073) (N : Nat) (R : Nat → gx_M → Prop) (hsim : gs_ack N R) (n : Nat) (hn : n < 512) (i : Nat) (hi : i + 6 ≤ L) (σ : gx_M) (hR : R n σ) (H : Heap) (locs : List Loc) (ls : Array Slot) (hI : gx_I D dA adr (fun q : Nat => s.heap.size ≤ q) s.heap σ H locs) (hl : lv_has ls 4 [(3, .int (nI i)), (2, .ref (adr 722)), (1, .ref (adr 0)), (0, .ref b)]) (kk : ∀ (σ : gx_M) (H : Heap) (locs : List Loc), R (n + 1) σ → gx_I D dA adr (fun q : Nat => s.heap.size ≤ q) s.heap σ H locs → W p l e room_1 s m #[Value.ref b] below meth c H locs 733 19239 (lw_Z below #[Value.ref b] s) (F0 m 696 ls [])) : W p l e room_1 s m #[Value.ref b] below meth c H locs 733 19239 (lw_Z below #[Value.ref b] s) (F0 m 397 ls []) := by
  obtain ⟨⟨hx, hb, hml, hown, ht⟩, hK⟩ := id G
  have hbA : ¬ (fun q : Nat => s.heap.size ≤ q) b := Nat.not_le.mpr hbl
  obtain ⟨r, σ1, σ2, h1, h2, hR2⟩ := hsim (xs (nI i + 1).toNatClampNeg) n σ hn hR
  have hin1 : vp_in (nI i + 1) L := by rw [show nI i + 1 = nI (i + 1) from nI_add i 1]; exact vp_in_nI (by omega) (by omega)
  refine lv_aload_n hx hb d_law_397 rfl (lv_at hl 2 rfl) ?_
  refine lv_aload_n hx hb d_law_398 rfl (lv_at hl 3 rfl) ?_
  refine lv_iload_n hx hb d_law_399 rfl (lv_at hl 0 rfl) ?_
  refine lv_iconst (v := 1) hx hb d_law_400 (by decide) ?_
  refine lv_iadd hx hb d_law_401 ?_
  refine va_sld (A := (fun q : Nat => s.heap.size ≤ q)) hx hb hX hbl hbA hI.2 hin1 d_law_402 ?_
  refine gx_go (va_runV (As := [.int (xs (nI i + 1).toNatClampNeg)]) (rest := []) G.1 (ct_Bo_ack l D dA adr _ hA N (xs (nI i + 1).toNatClampNeg) σ r σ1 h1) (cwV 1 ht gi_La_53 rfl rfl rfl (by decide +kernel) ⟨Nat.le_of_ble_eq_true rfl, Nat.le_of_ble_eq_true rfl⟩) (gx_preV G hI cl_Bo (by decide)) rfl rfl hl.1 rfl (lv_room (Nat.le_of_ble_eq_true rfl)) d_law_403 ⟨Nat.le_of_ble_eq_true rfl, Nat.le_of_ble_eq_true rfl⟩) hI (st1 := [.int r]) rfl (fun H locs hI => ?_)
  refine lv_aload_n hx hb d_law_406 rfl (lv_at hl 1 rfl) ?_
  refine lv_aload_n hx hb d_law_407 rfl (lv_at hl 3 rfl) ?_
  refine lv_iload_n hx hb d_law_408 rfl (lv_at hl 0 rfl) ?_
  refine lv_iconst (v := 1) hx hb d_law_409 (by decide) ?_
  refine lv_iadd hx hb d_law_410 ?_
  refine va_sld (A := (fun q : Nat => s.heap.size ≤ q)) hx hb hX hbl hbA hI.2 hin1 d_law_411 ?_
  refine gx_go (va_runV (As := [.int (xs (nI i + 1).toNatClampNeg)]) (rest := [.int r]) G.1 (ct_Mo_ack l D dA adr _ hA N (xs (nI i + 1).toNatClampNeg) σ1 r σ2 h2) (cwV 1 ht gi_La_56 rfl rfl rfl (by decide +kernel) ⟨Nat.le_of_ble_eq_true rfl, Nat.le_of_ble_eq_true rfl⟩) (gx_preV G hI cl_Mo (by decide)) rfl rfl hl.1 rfl (lv_room (Nat.le_of_ble_eq_true rfl)) d_law_412 ⟨Nat.le_of_ble_eq_true rfl, Nat.le_of_ble_eq_true rfl⟩) hI (st1 := [.int r, .int r]) rfl (fun H locs hI => ?_)
  refine lv_icmp_eq (tgt := 696) hx hb d_law_415 (by decide) (fun _ => kk σ2 H locs hR2 hI) (fun c1 => absurd rfl c1)
set_option maxHeartbeats 4000000 in
set_option maxRecDepth 100000 in
theorem lc_fail {p : Program} {l : Launch} {e : Env} {s : State} {m : MethodId} {below : List Frame} {meth : Method} {c : Code} {D : va_G} {dA : Nat → ClassId} {adr : Nat → Nat} {b L : Nat} {xs : Nat → Int32} (G : gx_G p m c code 4 s #[Value.ref b] gx_tb R_law D dA) (hX : va_X b L xs s s.heap) (hbl : b < s.heap.size) (hA : gx_A (fun q : Nat => s.heap.size ≤ q) adr) (hL : L ≤ 3073) (N : Nat) (R : Nat → gx_M → Prop) (hsim : gs_fail N R) (n : Nat) (hn : n < 512) (i : Nat) (hi : i + 6 ≤ L) (σ : gx_M) (hR : R n σ) (H : Heap) (locs : List Loc) (ls : Array Slot) (hI : gx_I D dA adr (fun q : Nat => s.heap.size ≤ q) s.heap σ H locs) (hl : lv_has ls 4 [(3, .int (nI i)), (2, .ref (adr 722)), (1, .ref (adr 0)), (0, .ref b)]) (kk : ∀ (σ : gx_M) (H : Heap) (locs : List Loc), R (n + 1) σ → gx_I D dA adr (fun q : Nat => s.heap.size ≤ q) s.heap σ H locs → W p l e room_1 s m #[Value.ref b] below meth c H locs 733 19239 (lw_Z below #[Value.ref b] s) (F0 m 696 ls [])) : W p l e room_1 s m #[Value.ref b] below meth c H locs 733 19239 (lw_Z below #[Value.ref b] s) (F0 m 420 ls []) := by
  obtain ⟨⟨hx, hb, hml, hown, ht⟩, hK⟩ := id G
  have hbA : ¬ (fun q : Nat => s.heap.size ≤ q) b := Nat.not_le.mpr hbl
  obtain ⟨r, σ1, σ2, h1, h2, hR2⟩ := hsim (xs (nI i + 1).toNatClampNeg) n σ hn hR
  have hin1 : vp_in (nI i + 1) L := by rw [show nI i + 1 = nI (i + 1) from nI_add i 1]; exact vp_in_nI (by omega) (by omega)
  refine lv_aload_n hx hb d_law_420 rfl (lv_at hl 2 rfl) ?_
  refine lv_aload_n hx hb d_law_421 rfl (lv_at hl 3 rfl) ?_
  refine lv_iload_n hx hb d_law_422 rfl (lv_at hl 0 rfl) ?_
  refine lv_iconst (v := 1) hx hb d_law_423 (by decide) ?_
  refine lv_iadd hx hb d_law_424 ?_
  refine va_sld (A := (fun q : Nat => s.heap.size ≤ q)) hx hb hX hbl hbA hI.2 hin1 d_law_425 ?_
  refine gx_go (va_runV (As := [.int (xs (nI i + 1).toNatClampNeg)]) (rest := []) G.1 (ct_Bo_fail l D dA adr _ hA N (xs (nI i + 1).toNatClampNeg) σ r σ1 h1) (cwV 1 ht gi_La_57 rfl rfl rfl (by decide +kernel) ⟨Nat.le_of_ble_eq_true rfl, Nat.le_of_ble_eq_true rfl⟩) (gx_preV G hI cl_Bo (by decide)) rfl rfl hl.1 rfl (lv_room (Nat.le_of_ble_eq_true rfl)) d_law_426 ⟨Nat.le_of_ble_eq_true rfl, Nat.le_of_ble_eq_true rfl⟩) hI (st1 := [.int r]) rfl (fun H locs hI => ?_)
  refine lv_aload_n hx hb d_law_429 rfl (lv_at hl 1 rfl) ?_
  refine lv_aload_n hx hb d_law_430 rfl (lv_at hl 3 rfl) ?_
  refine lv_iload_n hx hb d_law_431 rfl (lv_at hl 0 rfl) ?_
  refine lv_iconst (v := 1) hx hb d_law_432 (by decide) ?_
  refine lv_iadd hx hb d_law_433 ?_
  refine va_sld (A := (fun q : Nat => s.heap.size ≤ q)) hx hb hX hbl hbA hI.2 hin1 d_law_434 ?_
  refine gx_go (va_runV (As := [.int (xs (nI i + 1).toNatClampNeg)]) (rest := [.int r]) G.1 (ct_Mo_fail l D dA adr _ hA N (xs (nI i + 1).toNatClampNeg) σ1 r σ2 h2) (cwV 1 ht gi_La_60 rfl rfl rfl (by decide +kernel) ⟨Nat.le_of_ble_eq_true rfl, Nat.le_of_ble_eq_true rfl⟩) (gx_preV G hI cl_Mo (by decide)) rfl rfl hl.1 rfl (lv_room (Nat.le_of_ble_eq_true rfl)) d_law_435 ⟨Nat.le_of_ble_eq_true rfl, Nat.le_of_ble_eq_true rfl⟩) hI (st1 := [.int r, .int r]) rfl (fun H locs hI => ?_)
  refine lv_icmp_eq (tgt := 696) hx hb d_law_438 (by decide) (fun _ => kk σ2 H locs hR2 hI) (fun c1 => absurd rfl c1)
set_option maxHeartbeats 4000000 in
set_option maxRecDepth 100000 in
theorem lc_tick {p : Program} {l : Launch} {e : Env} {s : State} {m : MethodId} {below : List Frame} {meth : Method} {c : Code} {D : va_G} {dA : Nat → ClassId} {adr : Nat → Nat} {b L : Nat} {xs : Nat → Int32} (G : gx_G p m c code 4 s #[Value.ref b] gx_tb R_law D dA) (hX : va_X b L xs s s.heap) (hbl : b < s.heap.size) (hA : gx_A (fun q : Nat => s.heap.size ≤ q) adr) (hL : L ≤ 3073) (N : Nat) (R : Nat → gx_M → Prop) (hsim : gs_tick N R) (n : Nat) (hn : n < 512) (i : Nat) (hi : i + 6 ≤ L) (σ : gx_M) (hR : R n σ) (H : Heap) (locs : List Loc) (ls : Array Slot) (hI : gx_I D dA adr (fun q : Nat => s.heap.size ≤ q) s.heap σ H locs) (hl : lv_has ls 4 [(3, .int (nI i)), (2, .ref (adr 722)), (1, .ref (adr 0)), (0, .ref b)]) (kk : ∀ (σ : gx_M) (H : Heap) (locs : List Loc), R (n + 1) σ → gx_I D dA adr (fun q : Nat => s.heap.size ≤ q) s.heap σ H locs → W p l e room_1 s m #[Value.ref b] below meth c H locs 733 19239 (lw_Z below #[Value.ref b] s) (F0 m 696 ls [])) : W p l e room_1 s m #[Value.ref b] below meth c H locs 733 19239 (lw_Z below #[Value.ref b] s) (F0 m 443 ls []) := by
  obtain ⟨⟨hx, hb, hml, hown, ht⟩, hK⟩ := id G
  have hbA : ¬ (fun q : Nat => s.heap.size ≤ q) b := Nat.not_le.mpr hbl
  obtain ⟨r, σ1, σ2, h1, h2, hR2⟩ := hsim (xs (nI i + 1).toNatClampNeg) n σ hn hR
  have hin1 : vp_in (nI i + 1) L := by rw [show nI i + 1 = nI (i + 1) from nI_add i 1]; exact vp_in_nI (by omega) (by omega)
  refine lv_aload_n hx hb d_law_443 rfl (lv_at hl 2 rfl) ?_
  refine lv_aload_n hx hb d_law_444 rfl (lv_at hl 3 rfl) ?_
  refine lv_iload_n hx hb d_law_445 rfl (lv_at hl 0 rfl) ?_
  refine lv_iconst (v := 1) hx hb d_law_446 (by decide) ?_
  refine lv_iadd hx hb d_law_447 ?_
  refine va_sld (A := (fun q : Nat => s.heap.size ≤ q)) hx hb hX hbl hbA hI.2 hin1 d_law_448 ?_
  refine gx_go (va_runV (As := [.int (xs (nI i + 1).toNatClampNeg)]) (rest := []) G.1 (ct_Bo_tick l D dA adr _ hA N (xs (nI i + 1).toNatClampNeg) σ r σ1 h1) (cwV 1 ht gi_La_61 rfl rfl rfl (by decide +kernel) ⟨Nat.le_of_ble_eq_true rfl, Nat.le_of_ble_eq_true rfl⟩) (gx_preV G hI cl_Bo (by decide)) rfl rfl hl.1 rfl (lv_room (Nat.le_of_ble_eq_true rfl)) d_law_449 ⟨Nat.le_of_ble_eq_true rfl, Nat.le_of_ble_eq_true rfl⟩) hI (st1 := [.int r]) rfl (fun H locs hI => ?_)
  refine lv_aload_n hx hb d_law_452 rfl (lv_at hl 1 rfl) ?_
  refine lv_aload_n hx hb d_law_453 rfl (lv_at hl 3 rfl) ?_
  refine lv_iload_n hx hb d_law_454 rfl (lv_at hl 0 rfl) ?_
  refine lv_iconst (v := 1) hx hb d_law_455 (by decide) ?_
  refine lv_iadd hx hb d_law_456 ?_
  refine va_sld (A := (fun q : Nat => s.heap.size ≤ q)) hx hb hX hbl hbA hI.2 hin1 d_law_457 ?_
  refine gx_go (va_runV (As := [.int (xs (nI i + 1).toNatClampNeg)]) (rest := [.int r]) G.1 (ct_Mo_tick l D dA adr _ hA N (xs (nI i + 1).toNatClampNeg) σ1 r σ2 h2) (cwV 1 ht gi_La_64 rfl rfl rfl (by decide +kernel) ⟨Nat.le_of_ble_eq_true rfl, Nat.le_of_ble_eq_true rfl⟩) (gx_preV G hI cl_Mo (by decide)) rfl rfl hl.1 rfl (lv_room (Nat.le_of_ble_eq_true rfl)) d_law_458 ⟨Nat.le_of_ble_eq_true rfl, Nat.le_of_ble_eq_true rfl⟩) hI (st1 := [.int r, .int r]) rfl (fun H locs hI => ?_)
  refine lv_icmp_eq (tgt := 696) hx hb d_law_461 (by decide) (fun _ => kk σ2 H locs hR2 hI) (fun c1 => absurd rfl c1)
set_option maxHeartbeats 4000000 in
set_option maxRecDepth 100000 in
theorem lc_revive {p : Program} {l : Launch} {e : Env} {s : State} {m : MethodId} {below : List Frame} {meth : Method} {c : Code} {D : va_G} {dA : Nat → ClassId} {adr : Nat → Nat} {b L : Nat} {xs : Nat → Int32} (G : gx_G p m c code 4 s #[Value.ref b] gx_tb R_law D dA) (hX : va_X b L xs s s.heap) (hbl : b < s.heap.size) (hA : gx_A (fun q : Nat => s.heap.size ≤ q) adr) (hL : L ≤ 3073) (N : Nat) (R : Nat → gx_M → Prop) (hsim : gs_revive N R) (n : Nat) (hn : n < 512) (i : Nat) (hi : i + 6 ≤ L) (σ : gx_M) (hR : R n σ) (H : Heap) (locs : List Loc) (ls : Array Slot) (hI : gx_I D dA adr (fun q : Nat => s.heap.size ≤ q) s.heap σ H locs) (hl : lv_has ls 4 [(3, .int (nI i)), (2, .ref (adr 722)), (1, .ref (adr 0)), (0, .ref b)]) (kk : ∀ (σ : gx_M) (H : Heap) (locs : List Loc), R (n + 1) σ → gx_I D dA adr (fun q : Nat => s.heap.size ≤ q) s.heap σ H locs → W p l e room_1 s m #[Value.ref b] below meth c H locs 733 19239 (lw_Z below #[Value.ref b] s) (F0 m 696 ls [])) : W p l e room_1 s m #[Value.ref b] below meth c H locs 733 19239 (lw_Z below #[Value.ref b] s) (F0 m 466 ls []) := by
  obtain ⟨⟨hx, hb, hml, hown, ht⟩, hK⟩ := id G
  have hbA : ¬ (fun q : Nat => s.heap.size ≤ q) b := Nat.not_le.mpr hbl
  obtain ⟨r, σ1, σ2, h1, h2, hR2⟩ := hsim (xs (nI i + 1).toNatClampNeg) n σ hn hR
  have hin1 : vp_in (nI i + 1) L := by rw [show nI i + 1 = nI (i + 1) from nI_add i 1]; exact vp_in_nI (by omega) (by omega)
  refine lv_aload_n hx hb d_law_466 rfl (lv_at hl 2 rfl) ?_
  refine lv_aload_n hx hb d_law_467 rfl (lv_at hl 3 rfl) ?_
  refine lv_iload_n hx hb d_law_468 rfl (lv_at hl 0 rfl) ?_
  refine lv_iconst (v := 1) hx hb d_law_469 (by decide) ?_
  refine lv_iadd hx hb d_law_470 ?_
  refine va_sld (A := (fun q : Nat => s.heap.size ≤ q)) hx hb hX hbl hbA hI.2 hin1 d_law_471 ?_
  refine gx_go (va_runV (As := [.int (xs (nI i + 1).toNatClampNeg)]) (rest := []) G.1 (ct_Bo_revive l D dA adr _ hA N (xs (nI i + 1).toNatClampNeg) σ r σ1 h1) (cwV 1 ht gi_La_65 rfl rfl rfl (by decide +kernel) ⟨Nat.le_of_ble_eq_true rfl, Nat.le_of_ble_eq_true rfl⟩) (gx_preV G hI cl_Bo (by decide)) rfl rfl hl.1 rfl (lv_room (Nat.le_of_ble_eq_true rfl)) d_law_472 ⟨Nat.le_of_ble_eq_true rfl, Nat.le_of_ble_eq_true rfl⟩) hI (st1 := [.int r]) rfl (fun H locs hI => ?_)
  refine lv_aload_n hx hb d_law_475 rfl (lv_at hl 1 rfl) ?_
  refine lv_aload_n hx hb d_law_476 rfl (lv_at hl 3 rfl) ?_
  refine lv_iload_n hx hb d_law_477 rfl (lv_at hl 0 rfl) ?_
  refine lv_iconst (v := 1) hx hb d_law_478 (by decide) ?_
  refine lv_iadd hx hb d_law_479 ?_
  refine va_sld (A := (fun q : Nat => s.heap.size ≤ q)) hx hb hX hbl hbA hI.2 hin1 d_law_480 ?_
  refine gx_go (va_runV (As := [.int (xs (nI i + 1).toNatClampNeg)]) (rest := [.int r]) G.1 (ct_Mo_revive l D dA adr _ hA N (xs (nI i + 1).toNatClampNeg) σ1 r σ2 h2) (cwV 1 ht gi_La_68 rfl rfl rfl (by decide +kernel) ⟨Nat.le_of_ble_eq_true rfl, Nat.le_of_ble_eq_true rfl⟩) (gx_preV G hI cl_Mo (by decide)) rfl rfl hl.1 rfl (lv_room (Nat.le_of_ble_eq_true rfl)) d_law_481 ⟨Nat.le_of_ble_eq_true rfl, Nat.le_of_ble_eq_true rfl⟩) hI (st1 := [.int r, .int r]) rfl (fun H locs hI => ?_)
  refine lv_icmp_eq (tgt := 696) hx hb d_law_484 (by decide) (fun _ => kk σ2 H locs hR2 hI) (fun c1 => absurd rfl c1)
set_option maxHeartbeats 4000000 in
set_option maxRecDepth 100000 in
theorem lc_kill {p : Program} {l : Launch} {e : Env} {s : State} {m : MethodId} {below : List Frame} {meth : Method} {c : Code} {D : va_G} {dA : Nat → ClassId} {adr : Nat → Nat} {b L : Nat} {xs : Nat → Int32} (G : gx_G p m c code 4 s #[Value.ref b] gx_tb R_law D dA) (hX : va_X b L xs s s.heap) (hbl : b < s.heap.size) (hA : gx_A (fun q : Nat => s.heap.size ≤ q) adr) (hL : L ≤ 3073) (N : Nat) (R : Nat → gx_M → Prop) (hsim : gs_kill N R) (n : Nat) (hn : n < 512) (i : Nat) (hi : i + 6 ≤ L) (σ : gx_M) (hR : R n σ) (H : Heap) (locs : List Loc) (ls : Array Slot) (hI : gx_I D dA adr (fun q : Nat => s.heap.size ≤ q) s.heap σ H locs) (hl : lv_has ls 4 [(3, .int (nI i)), (2, .ref (adr 722)), (1, .ref (adr 0)), (0, .ref b)]) (kk : ∀ (σ : gx_M) (H : Heap) (locs : List Loc), R (n + 1) σ → gx_I D dA adr (fun q : Nat => s.heap.size ≤ q) s.heap σ H locs → W p l e room_1 s m #[Value.ref b] below meth c H locs 733 19239 (lw_Z below #[Value.ref b] s) (F0 m 696 ls [])) : W p l e room_1 s m #[Value.ref b] below meth c H locs 733 19239 (lw_Z below #[Value.ref b] s) (F0 m 489 ls []) := by
  obtain ⟨⟨hx, hb, hml, hown, ht⟩, hK⟩ := id G
  have hbA : ¬ (fun q : Nat => s.heap.size ≤ q) b := Nat.not_le.mpr hbl
  obtain ⟨r, σ1, σ2, h1, h2, hR2⟩ := hsim (xs (nI i + 1).toNatClampNeg) n σ hn hR
  have hin1 : vp_in (nI i + 1) L := by rw [show nI i + 1 = nI (i + 1) from nI_add i 1]; exact vp_in_nI (by omega) (by omega)
  refine lv_aload_n hx hb d_law_489 rfl (lv_at hl 2 rfl) ?_
  refine lv_aload_n hx hb d_law_490 rfl (lv_at hl 3 rfl) ?_
  refine lv_iload_n hx hb d_law_491 rfl (lv_at hl 0 rfl) ?_
  refine lv_iconst (v := 1) hx hb d_law_492 (by decide) ?_
  refine lv_iadd hx hb d_law_493 ?_
  refine va_sld (A := (fun q : Nat => s.heap.size ≤ q)) hx hb hX hbl hbA hI.2 hin1 d_law_494 ?_
  refine gx_go (va_runV (As := [.int (xs (nI i + 1).toNatClampNeg)]) (rest := []) G.1 (ct_Bo_kill l D dA adr _ hA N (xs (nI i + 1).toNatClampNeg) σ r σ1 h1) (cwV 1 ht gi_La_69 rfl rfl rfl (by decide +kernel) ⟨Nat.le_of_ble_eq_true rfl, Nat.le_of_ble_eq_true rfl⟩) (gx_preV G hI cl_Bo (by decide)) rfl rfl hl.1 rfl (lv_room (Nat.le_of_ble_eq_true rfl)) d_law_495 ⟨Nat.le_of_ble_eq_true rfl, Nat.le_of_ble_eq_true rfl⟩) hI (st1 := [.int r]) rfl (fun H locs hI => ?_)
  refine lv_aload_n hx hb d_law_498 rfl (lv_at hl 1 rfl) ?_
  refine lv_aload_n hx hb d_law_499 rfl (lv_at hl 3 rfl) ?_
  refine lv_iload_n hx hb d_law_500 rfl (lv_at hl 0 rfl) ?_
  refine lv_iconst (v := 1) hx hb d_law_501 (by decide) ?_
  refine lv_iadd hx hb d_law_502 ?_
  refine va_sld (A := (fun q : Nat => s.heap.size ≤ q)) hx hb hX hbl hbA hI.2 hin1 d_law_503 ?_
  refine gx_go (va_runV (As := [.int (xs (nI i + 1).toNatClampNeg)]) (rest := [.int r]) G.1 (ct_Mo_kill l D dA adr _ hA N (xs (nI i + 1).toNatClampNeg) σ1 r σ2 h2) (cwV 1 ht gi_La_72 rfl rfl rfl (by decide +kernel) ⟨Nat.le_of_ble_eq_true rfl, Nat.le_of_ble_eq_true rfl⟩) (gx_preV G hI cl_Mo (by decide)) rfl rfl hl.1 rfl (lv_room (Nat.le_of_ble_eq_true rfl)) d_law_504 ⟨Nat.le_of_ble_eq_true rfl, Nat.le_of_ble_eq_true rfl⟩) hI (st1 := [.int r, .int r]) rfl (fun H locs hI => ?_)
  refine lv_icmp_eq (tgt := 696) hx hb d_law_507 (by decide) (fun _ => kk σ2 H locs hR2 hI) (fun c1 => absurd rfl c1)
set_option maxHeartbeats 4000000 in
set_option maxRecDepth 100000 in
theorem lc_flush {p : Program} {l : Launch} {e : Env} {s : State} {m : MethodId} {below : List Frame} {meth : Method} {c : Code} {D : va_G} {dA : Nat → ClassId} {adr : Nat → Nat} {b L : Nat} {xs : Nat → Int32} (G : gx_G p m c code 4 s #[Value.ref b] gx_tb R_law D dA) (hX : va_X b L xs s s.heap) (hbl : b < s.heap.size) (hA : gx_A (fun q : Nat => s.heap.size ≤ q) adr) (hL : L ≤ 3073) (N : Nat) (R : Nat → gx_M → Prop) (hsim : gs_flush N R) (n : Nat) (hn : n < 512) (i : Nat) (hi : i + 6 ≤ L) (σ : gx_M) (hR : R n σ) (H : Heap) (locs : List Loc) (ls : Array Slot) (hI : gx_I D dA adr (fun q : Nat => s.heap.size ≤ q) s.heap σ H locs) (hl : lv_has ls 4 [(3, .int (nI i)), (2, .ref (adr 722)), (1, .ref (adr 0)), (0, .ref b)]) (kk : ∀ (σ : gx_M) (H : Heap) (locs : List Loc), R (n + 1) σ → gx_I D dA adr (fun q : Nat => s.heap.size ≤ q) s.heap σ H locs → W p l e room_1 s m #[Value.ref b] below meth c H locs 733 19239 (lw_Z below #[Value.ref b] s) (F0 m 696 ls [])) : W p l e room_1 s m #[Value.ref b] below meth c H locs 733 19239 (lw_Z below #[Value.ref b] s) (F0 m 512 ls []) := by
  obtain ⟨⟨hx, hb, hml, hown, ht⟩, hK⟩ := id G
  have hbA : ¬ (fun q : Nat => s.heap.size ≤ q) b := Nat.not_le.mpr hbl
  obtain ⟨r, σ1, σ2, h1, h2, hR2⟩ := hsim n σ hn hR
  refine lv_aload_n hx hb d_law_512 rfl (lv_at hl 2 rfl) ?_
  refine gx_go (va_runV (As := []) (rest := []) G.1 (ct_Bo_flush l D dA adr _ hA N σ r σ1 h1) (cwV 0 ht gi_La_73 rfl rfl rfl (by decide +kernel) ⟨Nat.le_of_ble_eq_true rfl, Nat.le_of_ble_eq_true rfl⟩) (gx_preV G hI cl_Bo (by decide)) rfl rfl hl.1 rfl (lv_room (Nat.le_of_ble_eq_true rfl)) d_law_513 ⟨Nat.le_of_ble_eq_true rfl, Nat.le_of_ble_eq_true rfl⟩) hI (st1 := [.int r]) rfl (fun H locs hI => ?_)
  refine lv_aload_n hx hb d_law_516 rfl (lv_at hl 1 rfl) ?_
  refine gx_go (va_runV (As := []) (rest := [.int r]) G.1 (ct_Mo_flush l D dA adr _ hA N σ1 r σ2 h2) (cwV 0 ht gi_La_77 rfl rfl rfl (by decide +kernel) ⟨Nat.le_of_ble_eq_true rfl, Nat.le_of_ble_eq_true rfl⟩) (gx_preV G hI cl_Mo (by decide)) rfl rfl hl.1 rfl (lv_room (Nat.le_of_ble_eq_true rfl)) d_law_517 ⟨Nat.le_of_ble_eq_true rfl, Nat.le_of_ble_eq_true rfl⟩) hI (st1 := [.int r, .int r]) rfl (fun H locs hI => ?_)
  refine lv_icmp_eq (tgt := 696) hx hb d_law_520 (by decide) (fun _ => kk σ2 H locs hR2 hI) (fun c1 => absurd rfl c1)
set_option maxHeartbeats 4000000 in
set_option maxRecDepth 100000 in
theorem lc_crash {p : Program} {l : Launch} {e : Env} {s : State} {m : MethodId} {below : List Frame} {meth : Method} {c : Code} {D : va_G} {dA : Nat → ClassId} {adr : Nat → Nat} {b L : Nat} {xs : Nat → Int32} (G : gx_G p m c code 4 s #[Value.ref b] gx_tb R_law D dA) (hX : va_X b L xs s s.heap) (hbl : b < s.heap.size) (hA : gx_A (fun q : Nat => s.heap.size ≤ q) adr) (hL : L ≤ 3073) (N : Nat) (R : Nat → gx_M → Prop) (hsim : gs_crash N R) (n : Nat) (hn : n < 512) (i : Nat) (hi : i + 6 ≤ L) (σ : gx_M) (hR : R n σ) (H : Heap) (locs : List Loc) (ls : Array Slot) (hI : gx_I D dA adr (fun q : Nat => s.heap.size ≤ q) s.heap σ H locs) (hl : lv_has ls 4 [(3, .int (nI i)), (2, .ref (adr 722)), (1, .ref (adr 0)), (0, .ref b)]) (kk : ∀ (σ : gx_M) (H : Heap) (locs : List Loc), R (n + 1) σ → gx_I D dA adr (fun q : Nat => s.heap.size ≤ q) s.heap σ H locs → W p l e room_1 s m #[Value.ref b] below meth c H locs 733 19239 (lw_Z below #[Value.ref b] s) (F0 m 696 ls [])) : W p l e room_1 s m #[Value.ref b] below meth c H locs 733 19239 (lw_Z below #[Value.ref b] s) (F0 m 525 ls []) := by
  obtain ⟨⟨hx, hb, hml, hown, ht⟩, hK⟩ := id G
  have hbA : ¬ (fun q : Nat => s.heap.size ≤ q) b := Nat.not_le.mpr hbl
  obtain ⟨r, σ1, σ2, h1, h2, hR2⟩ := hsim (xs (nI i + 1).toNatClampNeg) n σ hn hR
  have hin1 : vp_in (nI i + 1) L := by rw [show nI i + 1 = nI (i + 1) from nI_add i 1]; exact vp_in_nI (by omega) (by omega)
  refine lv_aload_n hx hb d_law_525 rfl (lv_at hl 2 rfl) ?_
  refine lv_aload_n hx hb d_law_526 rfl (lv_at hl 3 rfl) ?_
  refine lv_iload_n hx hb d_law_527 rfl (lv_at hl 0 rfl) ?_
  refine lv_iconst (v := 1) hx hb d_law_528 (by decide) ?_
  refine lv_iadd hx hb d_law_529 ?_
  refine va_sld (A := (fun q : Nat => s.heap.size ≤ q)) hx hb hX hbl hbA hI.2 hin1 d_law_530 ?_
  refine gx_go (va_runV (As := [.int (xs (nI i + 1).toNatClampNeg)]) (rest := []) G.1 (ct_Bo_crash l D dA adr _ hA N (xs (nI i + 1).toNatClampNeg) σ r σ1 h1) (cwV 1 ht gi_La_78 rfl rfl rfl (by decide +kernel) ⟨Nat.le_of_ble_eq_true rfl, Nat.le_of_ble_eq_true rfl⟩) (gx_preV G hI cl_Bo (by decide)) rfl rfl hl.1 rfl (lv_room (Nat.le_of_ble_eq_true rfl)) d_law_531 ⟨Nat.le_of_ble_eq_true rfl, Nat.le_of_ble_eq_true rfl⟩) hI (st1 := [.int r]) rfl (fun H locs hI => ?_)
  refine lv_aload_n hx hb d_law_534 rfl (lv_at hl 1 rfl) ?_
  refine lv_aload_n hx hb d_law_535 rfl (lv_at hl 3 rfl) ?_
  refine lv_iload_n hx hb d_law_536 rfl (lv_at hl 0 rfl) ?_
  refine lv_iconst (v := 1) hx hb d_law_537 (by decide) ?_
  refine lv_iadd hx hb d_law_538 ?_
  refine va_sld (A := (fun q : Nat => s.heap.size ≤ q)) hx hb hX hbl hbA hI.2 hin1 d_law_539 ?_
  refine gx_go (va_runV (As := [.int (xs (nI i + 1).toNatClampNeg)]) (rest := [.int r]) G.1 (ct_Mo_crash l D dA adr _ hA N (xs (nI i + 1).toNatClampNeg) σ1 r σ2 h2) (cwV 1 ht gi_La_81 rfl rfl rfl (by decide +kernel) ⟨Nat.le_of_ble_eq_true rfl, Nat.le_of_ble_eq_true rfl⟩) (gx_preV G hI cl_Mo (by decide)) rfl rfl hl.1 rfl (lv_room (Nat.le_of_ble_eq_true rfl)) d_law_540 ⟨Nat.le_of_ble_eq_true rfl, Nat.le_of_ble_eq_true rfl⟩) hI (st1 := [.int r, .int r]) rfl (fun H locs hI => ?_)
  refine lv_icmp_eq (tgt := 696) hx hb d_law_543 (by decide) (fun _ => kk σ2 H locs hR2 hI) (fun c1 => absurd rfl c1)
set_option maxHeartbeats 4000000 in
set_option maxRecDepth 100000 in
theorem lc_state {p : Program} {l : Launch} {e : Env} {s : State} {m : MethodId} {below : List Frame} {meth : Method} {c : Code} {D : va_G} {dA : Nat → ClassId} {adr : Nat → Nat} {b L : Nat} {xs : Nat → Int32} (G : gx_G p m c code 4 s #[Value.ref b] gx_tb R_law D dA) (hX : va_X b L xs s s.heap) (hbl : b < s.heap.size) (hA : gx_A (fun q : Nat => s.heap.size ≤ q) adr) (hL : L ≤ 3073) (N : Nat) (R : Nat → gx_M → Prop) (hsim : gs_state N R) (n : Nat) (hn : n < 512) (i : Nat) (hi : i + 6 ≤ L) (σ : gx_M) (hR : R n σ) (H : Heap) (locs : List Loc) (ls : Array Slot) (hI : gx_I D dA adr (fun q : Nat => s.heap.size ≤ q) s.heap σ H locs) (hl : lv_has ls 4 [(3, .int (nI i)), (2, .ref (adr 722)), (1, .ref (adr 0)), (0, .ref b)]) (kk : ∀ (σ : gx_M) (H : Heap) (locs : List Loc), R (n + 1) σ → gx_I D dA adr (fun q : Nat => s.heap.size ≤ q) s.heap σ H locs → W p l e room_1 s m #[Value.ref b] below meth c H locs 733 19239 (lw_Z below #[Value.ref b] s) (F0 m 696 ls [])) : W p l e room_1 s m #[Value.ref b] below meth c H locs 733 19239 (lw_Z below #[Value.ref b] s) (F0 m 548 ls []) := by
  obtain ⟨⟨hx, hb, hml, hown, ht⟩, hK⟩ := id G
  have hbA : ¬ (fun q : Nat => s.heap.size ≤ q) b := Nat.not_le.mpr hbl
  obtain ⟨r, σ1, σ2, h1, h2, hR2⟩ := hsim (xs (nI i + 1).toNatClampNeg) n σ hn hR
  have hin1 : vp_in (nI i + 1) L := by rw [show nI i + 1 = nI (i + 1) from nI_add i 1]; exact vp_in_nI (by omega) (by omega)
  refine lv_aload_n hx hb d_law_548 rfl (lv_at hl 2 rfl) ?_
  refine lv_aload_n hx hb d_law_549 rfl (lv_at hl 3 rfl) ?_
  refine lv_iload_n hx hb d_law_550 rfl (lv_at hl 0 rfl) ?_
  refine lv_iconst (v := 1) hx hb d_law_551 (by decide) ?_
  refine lv_iadd hx hb d_law_552 ?_
  refine va_sld (A := (fun q : Nat => s.heap.size ≤ q)) hx hb hX hbl hbA hI.2 hin1 d_law_553 ?_
  refine gx_go (va_runV (As := [.int (xs (nI i + 1).toNatClampNeg)]) (rest := []) G.1 (ct_Bo_state l D dA adr _ hA N (xs (nI i + 1).toNatClampNeg) σ r σ1 h1) (cwV 1 ht gi_La_82 rfl rfl rfl (by decide +kernel) ⟨Nat.le_of_ble_eq_true rfl, Nat.le_of_ble_eq_true rfl⟩) (gx_preV G hI cl_Bo (by decide)) rfl rfl hl.1 rfl (lv_room (Nat.le_of_ble_eq_true rfl)) d_law_554 ⟨Nat.le_of_ble_eq_true rfl, Nat.le_of_ble_eq_true rfl⟩) hI (st1 := [.int r]) rfl (fun H locs hI => ?_)
  refine lv_aload_n hx hb d_law_557 rfl (lv_at hl 1 rfl) ?_
  refine lv_aload_n hx hb d_law_558 rfl (lv_at hl 3 rfl) ?_
  refine lv_iload_n hx hb d_law_559 rfl (lv_at hl 0 rfl) ?_
  refine lv_iconst (v := 1) hx hb d_law_560 (by decide) ?_
  refine lv_iadd hx hb d_law_561 ?_
  refine va_sld (A := (fun q : Nat => s.heap.size ≤ q)) hx hb hX hbl hbA hI.2 hin1 d_law_562 ?_
  refine gx_go (va_runV (As := [.int (xs (nI i + 1).toNatClampNeg)]) (rest := [.int r]) G.1 (ct_Mo_state l D dA adr _ hA N (xs (nI i + 1).toNatClampNeg) σ1 r σ2 h2) (cwV 1 ht gi_La_85 rfl rfl rfl (by decide +kernel) ⟨Nat.le_of_ble_eq_true rfl, Nat.le_of_ble_eq_true rfl⟩) (gx_preV G hI cl_Mo (by decide)) rfl rfl hl.1 rfl (lv_room (Nat.le_of_ble_eq_true rfl)) d_law_563 ⟨Nat.le_of_ble_eq_true rfl, Nat.le_of_ble_eq_true rfl⟩) hI (st1 := [.int r, .int r]) rfl (fun H locs hI => ?_)
  refine lv_icmp_eq (tgt := 696) hx hb d_law_566 (by decide) (fun _ => kk σ2 H locs hR2 hI) (fun c1 => absurd rfl c1)
set_option maxHeartbeats 4000000 in
set_option maxRecDepth 100000 in
theorem lc_failures {p : Program} {l : Launch} {e : Env} {s : State} {m : MethodId} {below : List Frame} {meth : Method} {c : Code} {D : va_G} {dA : Nat → ClassId} {adr : Nat → Nat} {b L : Nat} {xs : Nat → Int32} (G : gx_G p m c code 4 s #[Value.ref b] gx_tb R_law D dA) (hX : va_X b L xs s s.heap) (hbl : b < s.heap.size) (hA : gx_A (fun q : Nat => s.heap.size ≤ q) adr) (hL : L ≤ 3073) (N : Nat) (R : Nat → gx_M → Prop) (hsim : gs_failures N R) (n : Nat) (hn : n < 512) (i : Nat) (hi : i + 6 ≤ L) (σ : gx_M) (hR : R n σ) (H : Heap) (locs : List Loc) (ls : Array Slot) (hI : gx_I D dA adr (fun q : Nat => s.heap.size ≤ q) s.heap σ H locs) (hl : lv_has ls 4 [(3, .int (nI i)), (2, .ref (adr 722)), (1, .ref (adr 0)), (0, .ref b)]) (kk : ∀ (σ : gx_M) (H : Heap) (locs : List Loc), R (n + 1) σ → gx_I D dA adr (fun q : Nat => s.heap.size ≤ q) s.heap σ H locs → W p l e room_1 s m #[Value.ref b] below meth c H locs 733 19239 (lw_Z below #[Value.ref b] s) (F0 m 696 ls [])) : W p l e room_1 s m #[Value.ref b] below meth c H locs 733 19239 (lw_Z below #[Value.ref b] s) (F0 m 571 ls []) := by
  obtain ⟨⟨hx, hb, hml, hown, ht⟩, hK⟩ := id G
  have hbA : ¬ (fun q : Nat => s.heap.size ≤ q) b := Nat.not_le.mpr hbl
  obtain ⟨r, σ1, σ2, h1, h2, hR2⟩ := hsim (xs (nI i + 1).toNatClampNeg) n σ hn hR
  have hin1 : vp_in (nI i + 1) L := by rw [show nI i + 1 = nI (i + 1) from nI_add i 1]; exact vp_in_nI (by omega) (by omega)
  refine lv_aload_n hx hb d_law_571 rfl (lv_at hl 2 rfl) ?_
  refine lv_aload_n hx hb d_law_572 rfl (lv_at hl 3 rfl) ?_
  refine lv_iload_n hx hb d_law_573 rfl (lv_at hl 0 rfl) ?_
  refine lv_iconst (v := 1) hx hb d_law_574 (by decide) ?_
  refine lv_iadd hx hb d_law_575 ?_
  refine va_sld (A := (fun q : Nat => s.heap.size ≤ q)) hx hb hX hbl hbA hI.2 hin1 d_law_576 ?_
  refine gx_go (va_runV (As := [.int (xs (nI i + 1).toNatClampNeg)]) (rest := []) G.1 (ct_Bo_failures l D dA adr _ hA N (xs (nI i + 1).toNatClampNeg) σ r σ1 h1) (cwV 1 ht gi_La_86 rfl rfl rfl (by decide +kernel) ⟨Nat.le_of_ble_eq_true rfl, Nat.le_of_ble_eq_true rfl⟩) (gx_preV G hI cl_Bo (by decide)) rfl rfl hl.1 rfl (lv_room (Nat.le_of_ble_eq_true rfl)) d_law_577 ⟨Nat.le_of_ble_eq_true rfl, Nat.le_of_ble_eq_true rfl⟩) hI (st1 := [.int r]) rfl (fun H locs hI => ?_)
  refine lv_aload_n hx hb d_law_580 rfl (lv_at hl 1 rfl) ?_
  refine lv_aload_n hx hb d_law_581 rfl (lv_at hl 3 rfl) ?_
  refine lv_iload_n hx hb d_law_582 rfl (lv_at hl 0 rfl) ?_
  refine lv_iconst (v := 1) hx hb d_law_583 (by decide) ?_
  refine lv_iadd hx hb d_law_584 ?_
  refine va_sld (A := (fun q : Nat => s.heap.size ≤ q)) hx hb hX hbl hbA hI.2 hin1 d_law_585 ?_
  refine gx_go (va_runV (As := [.int (xs (nI i + 1).toNatClampNeg)]) (rest := [.int r]) G.1 (ct_Mo_failures l D dA adr _ hA N (xs (nI i + 1).toNatClampNeg) σ1 r σ2 h2) (cwV 1 ht gi_La_89 rfl rfl rfl (by decide +kernel) ⟨Nat.le_of_ble_eq_true rfl, Nat.le_of_ble_eq_true rfl⟩) (gx_preV G hI cl_Mo (by decide)) rfl rfl hl.1 rfl (lv_room (Nat.le_of_ble_eq_true rfl)) d_law_586 ⟨Nat.le_of_ble_eq_true rfl, Nat.le_of_ble_eq_true rfl⟩) hI (st1 := [.int r, .int r]) rfl (fun H locs hI => ?_)
  refine lv_icmp_eq (tgt := 696) hx hb d_law_589 (by decide) (fun _ => kk σ2 H locs hR2 hI) (fun c1 => absurd rfl c1)
set_option maxHeartbeats 4000000 in
set_option maxRecDepth 100000 in
theorem lc_due {p : Program} {l : Launch} {e : Env} {s : State} {m : MethodId} {below : List Frame} {meth : Method} {c : Code} {D : va_G} {dA : Nat → ClassId} {adr : Nat → Nat} {b L : Nat} {xs : Nat → Int32} (G : gx_G p m c code 4 s #[Value.ref b] gx_tb R_law D dA) (hX : va_X b L xs s s.heap) (hbl : b < s.heap.size) (hA : gx_A (fun q : Nat => s.heap.size ≤ q) adr) (hL : L ≤ 3073) (N : Nat) (R : Nat → gx_M → Prop) (hsim : gs_due N R) (n : Nat) (hn : n < 512) (i : Nat) (hi : i + 6 ≤ L) (σ : gx_M) (hR : R n σ) (H : Heap) (locs : List Loc) (ls : Array Slot) (hI : gx_I D dA adr (fun q : Nat => s.heap.size ≤ q) s.heap σ H locs) (hl : lv_has ls 4 [(3, .int (nI i)), (2, .ref (adr 722)), (1, .ref (adr 0)), (0, .ref b)]) (kk : ∀ (σ : gx_M) (H : Heap) (locs : List Loc), R (n + 1) σ → gx_I D dA adr (fun q : Nat => s.heap.size ≤ q) s.heap σ H locs → W p l e room_1 s m #[Value.ref b] below meth c H locs 733 19239 (lw_Z below #[Value.ref b] s) (F0 m 696 ls [])) : W p l e room_1 s m #[Value.ref b] below meth c H locs 733 19239 (lw_Z below #[Value.ref b] s) (F0 m 594 ls []) := by
  obtain ⟨⟨hx, hb, hml, hown, ht⟩, hK⟩ := id G
  have hbA : ¬ (fun q : Nat => s.heap.size ≤ q) b := Nat.not_le.mpr hbl
  obtain ⟨r, σ1, σ2, h1, h2, hR2⟩ := hsim (xs (nI i + 1).toNatClampNeg) n σ hn hR
  have hin1 : vp_in (nI i + 1) L := by rw [show nI i + 1 = nI (i + 1) from nI_add i 1]; exact vp_in_nI (by omega) (by omega)
  refine lv_aload_n hx hb d_law_594 rfl (lv_at hl 2 rfl) ?_
  refine lv_aload_n hx hb d_law_595 rfl (lv_at hl 3 rfl) ?_
  refine lv_iload_n hx hb d_law_596 rfl (lv_at hl 0 rfl) ?_
  refine lv_iconst (v := 1) hx hb d_law_597 (by decide) ?_
  refine lv_iadd hx hb d_law_598 ?_
  refine va_sld (A := (fun q : Nat => s.heap.size ≤ q)) hx hb hX hbl hbA hI.2 hin1 d_law_599 ?_
  refine gx_go (va_runV (As := [.int (xs (nI i + 1).toNatClampNeg)]) (rest := []) G.1 (ct_Bo_due l D dA adr _ hA N (xs (nI i + 1).toNatClampNeg) σ r σ1 h1) (cwV 1 ht gi_La_90 rfl rfl rfl (by decide +kernel) ⟨Nat.le_of_ble_eq_true rfl, Nat.le_of_ble_eq_true rfl⟩) (gx_preV G hI cl_Bo (by decide)) rfl rfl hl.1 rfl (lv_room (Nat.le_of_ble_eq_true rfl)) d_law_600 ⟨Nat.le_of_ble_eq_true rfl, Nat.le_of_ble_eq_true rfl⟩) hI (st1 := [.int r]) rfl (fun H locs hI => ?_)
  refine lv_aload_n hx hb d_law_603 rfl (lv_at hl 1 rfl) ?_
  refine lv_aload_n hx hb d_law_604 rfl (lv_at hl 3 rfl) ?_
  refine lv_iload_n hx hb d_law_605 rfl (lv_at hl 0 rfl) ?_
  refine lv_iconst (v := 1) hx hb d_law_606 (by decide) ?_
  refine lv_iadd hx hb d_law_607 ?_
  refine va_sld (A := (fun q : Nat => s.heap.size ≤ q)) hx hb hX hbl hbA hI.2 hin1 d_law_608 ?_
  refine gx_go (va_runV (As := [.int (xs (nI i + 1).toNatClampNeg)]) (rest := [.int r]) G.1 (ct_Mo_due l D dA adr _ hA N (xs (nI i + 1).toNatClampNeg) σ1 r σ2 h2) (cwV 1 ht gi_La_93 rfl rfl rfl (by decide +kernel) ⟨Nat.le_of_ble_eq_true rfl, Nat.le_of_ble_eq_true rfl⟩) (gx_preV G hI cl_Mo (by decide)) rfl rfl hl.1 rfl (lv_room (Nat.le_of_ble_eq_true rfl)) d_law_609 ⟨Nat.le_of_ble_eq_true rfl, Nat.le_of_ble_eq_true rfl⟩) hI (st1 := [.int r, .int r]) rfl (fun H locs hI => ?_)
  refine lv_icmp_eq (tgt := 696) hx hb d_law_612 (by decide) (fun _ => kk σ2 H locs hR2 hI) (fun c1 => absurd rfl c1)
set_option maxHeartbeats 4000000 in
set_option maxRecDepth 100000 in
theorem lc_holding {p : Program} {l : Launch} {e : Env} {s : State} {m : MethodId} {below : List Frame} {meth : Method} {c : Code} {D : va_G} {dA : Nat → ClassId} {adr : Nat → Nat} {b L : Nat} {xs : Nat → Int32} (G : gx_G p m c code 4 s #[Value.ref b] gx_tb R_law D dA) (hX : va_X b L xs s s.heap) (hbl : b < s.heap.size) (hA : gx_A (fun q : Nat => s.heap.size ≤ q) adr) (hL : L ≤ 3073) (N : Nat) (R : Nat → gx_M → Prop) (hsim : gs_holding N R) (n : Nat) (hn : n < 512) (i : Nat) (hi : i + 6 ≤ L) (σ : gx_M) (hR : R n σ) (H : Heap) (locs : List Loc) (ls : Array Slot) (hI : gx_I D dA adr (fun q : Nat => s.heap.size ≤ q) s.heap σ H locs) (hl : lv_has ls 4 [(3, .int (nI i)), (2, .ref (adr 722)), (1, .ref (adr 0)), (0, .ref b)]) (kk : ∀ (σ : gx_M) (H : Heap) (locs : List Loc), R (n + 1) σ → gx_I D dA adr (fun q : Nat => s.heap.size ≤ q) s.heap σ H locs → W p l e room_1 s m #[Value.ref b] below meth c H locs 733 19239 (lw_Z below #[Value.ref b] s) (F0 m 696 ls [])) : W p l e room_1 s m #[Value.ref b] below meth c H locs 733 19239 (lw_Z below #[Value.ref b] s) (F0 m 617 ls []) := by
  obtain ⟨⟨hx, hb, hml, hown, ht⟩, hK⟩ := id G
  have hbA : ¬ (fun q : Nat => s.heap.size ≤ q) b := Nat.not_le.mpr hbl
  obtain ⟨r, σ1, σ2, h1, h2, hR2⟩ := hsim (xs (nI i + 1).toNatClampNeg) n σ hn hR
  have hin1 : vp_in (nI i + 1) L := by rw [show nI i + 1 = nI (i + 1) from nI_add i 1]; exact vp_in_nI (by omega) (by omega)
  refine lv_aload_n hx hb d_law_617 rfl (lv_at hl 2 rfl) ?_
  refine lv_aload_n hx hb d_law_618 rfl (lv_at hl 3 rfl) ?_
  refine lv_iload_n hx hb d_law_619 rfl (lv_at hl 0 rfl) ?_
  refine lv_iconst (v := 1) hx hb d_law_620 (by decide) ?_
  refine lv_iadd hx hb d_law_621 ?_
  refine va_sld (A := (fun q : Nat => s.heap.size ≤ q)) hx hb hX hbl hbA hI.2 hin1 d_law_622 ?_
  refine gx_go (va_runV (As := [.int (xs (nI i + 1).toNatClampNeg)]) (rest := []) G.1 (ct_Bo_holding l D dA adr _ hA N (xs (nI i + 1).toNatClampNeg) σ r σ1 h1) (cwV 1 ht gi_La_94 rfl rfl rfl (by decide +kernel) ⟨Nat.le_of_ble_eq_true rfl, Nat.le_of_ble_eq_true rfl⟩) (gx_preV G hI cl_Bo (by decide)) rfl rfl hl.1 rfl (lv_room (Nat.le_of_ble_eq_true rfl)) d_law_623 ⟨Nat.le_of_ble_eq_true rfl, Nat.le_of_ble_eq_true rfl⟩) hI (st1 := [.int r]) rfl (fun H locs hI => ?_)
  refine lv_aload_n hx hb d_law_626 rfl (lv_at hl 1 rfl) ?_
  refine lv_aload_n hx hb d_law_627 rfl (lv_at hl 3 rfl) ?_
  refine lv_iload_n hx hb d_law_628 rfl (lv_at hl 0 rfl) ?_
  refine lv_iconst (v := 1) hx hb d_law_629 (by decide) ?_
  refine lv_iadd hx hb d_law_630 ?_
  refine va_sld (A := (fun q : Nat => s.heap.size ≤ q)) hx hb hX hbl hbA hI.2 hin1 d_law_631 ?_
  refine gx_go (va_runV (As := [.int (xs (nI i + 1).toNatClampNeg)]) (rest := [.int r]) G.1 (ct_Mo_holding l D dA adr _ hA N (xs (nI i + 1).toNatClampNeg) σ1 r σ2 h2) (cwV 1 ht gi_La_97 rfl rfl rfl (by decide +kernel) ⟨Nat.le_of_ble_eq_true rfl, Nat.le_of_ble_eq_true rfl⟩) (gx_preV G hI cl_Mo (by decide)) rfl rfl hl.1 rfl (lv_room (Nat.le_of_ble_eq_true rfl)) d_law_632 ⟨Nat.le_of_ble_eq_true rfl, Nat.le_of_ble_eq_true rfl⟩) hI (st1 := [.int r, .int r]) rfl (fun H locs hI => ?_)
  refine lv_icmp_eq (tgt := 696) hx hb d_law_635 (by decide) (fun _ => kk σ2 H locs hR2 hI) (fun c1 => absurd rfl c1)
set_option maxHeartbeats 4000000 in
set_option maxRecDepth 100000 in
theorem lc_line {p : Program} {l : Launch} {e : Env} {s : State} {m : MethodId} {below : List Frame} {meth : Method} {c : Code} {D : va_G} {dA : Nat → ClassId} {adr : Nat → Nat} {b L : Nat} {xs : Nat → Int32} (G : gx_G p m c code 4 s #[Value.ref b] gx_tb R_law D dA) (hX : va_X b L xs s s.heap) (hbl : b < s.heap.size) (hA : gx_A (fun q : Nat => s.heap.size ≤ q) adr) (hL : L ≤ 3073) (N : Nat) (R : Nat → gx_M → Prop) (hsim : gs_line N R) (n : Nat) (hn : n < 512) (i : Nat) (hi : i + 6 ≤ L) (σ : gx_M) (hR : R n σ) (H : Heap) (locs : List Loc) (ls : Array Slot) (hI : gx_I D dA adr (fun q : Nat => s.heap.size ≤ q) s.heap σ H locs) (hl : lv_has ls 4 [(3, .int (nI i)), (2, .ref (adr 722)), (1, .ref (adr 0)), (0, .ref b)]) (kk : ∀ (σ : gx_M) (H : Heap) (locs : List Loc), R (n + 1) σ → gx_I D dA adr (fun q : Nat => s.heap.size ≤ q) s.heap σ H locs → W p l e room_1 s m #[Value.ref b] below meth c H locs 733 19239 (lw_Z below #[Value.ref b] s) (F0 m 696 ls [])) : W p l e room_1 s m #[Value.ref b] below meth c H locs 733 19239 (lw_Z below #[Value.ref b] s) (F0 m 640 ls []) := by
  obtain ⟨⟨hx, hb, hml, hown, ht⟩, hK⟩ := id G
  have hbA : ¬ (fun q : Nat => s.heap.size ≤ q) b := Nat.not_le.mpr hbl
  obtain ⟨r, σ1, σ2, h1, h2, hR2⟩ := hsim (xs (nI i + 1).toNatClampNeg) (xs (nI i + 2).toNatClampNeg) n σ hn hR
  have hin1 : vp_in (nI i + 1) L := by rw [show nI i + 1 = nI (i + 1) from nI_add i 1]; exact vp_in_nI (by omega) (by omega)
  have hin2 : vp_in (nI i + 2) L := by rw [show nI i + 2 = nI (i + 2) from nI_add i 2]; exact vp_in_nI (by omega) (by omega)
  refine lv_aload_n hx hb d_law_640 rfl (lv_at hl 2 rfl) ?_
  refine lv_aload_n hx hb d_law_641 rfl (lv_at hl 3 rfl) ?_
  refine lv_iload_n hx hb d_law_642 rfl (lv_at hl 0 rfl) ?_
  refine lv_iconst (v := 1) hx hb d_law_643 (by decide) ?_
  refine lv_iadd hx hb d_law_644 ?_
  refine va_sld (A := (fun q : Nat => s.heap.size ≤ q)) hx hb hX hbl hbA hI.2 hin1 d_law_645 ?_
  refine lv_aload_n hx hb d_law_646 rfl (lv_at hl 3 rfl) ?_
  refine lv_iload_n hx hb d_law_647 rfl (lv_at hl 0 rfl) ?_
  refine lv_iconst (v := 2) hx hb d_law_648 (by decide) ?_
  refine lv_iadd hx hb d_law_649 ?_
  refine va_sld (A := (fun q : Nat => s.heap.size ≤ q)) hx hb hX hbl hbA hI.2 hin2 d_law_650 ?_
  refine gx_go (va_runV (As := [.int (xs (nI i + 1).toNatClampNeg), .int (xs (nI i + 2).toNatClampNeg)]) (rest := []) G.1 (ct_Bo_line l D dA adr _ hA N (xs (nI i + 1).toNatClampNeg) (xs (nI i + 2).toNatClampNeg) σ r σ1 h1) (cwV 2 ht gi_La_98 rfl rfl rfl (by decide +kernel) ⟨Nat.le_of_ble_eq_true rfl, Nat.le_of_ble_eq_true rfl⟩) (gx_preV G hI cl_Bo (by decide)) rfl rfl hl.1 rfl (lv_room (Nat.le_of_ble_eq_true rfl)) d_law_651 ⟨Nat.le_of_ble_eq_true rfl, Nat.le_of_ble_eq_true rfl⟩) hI (st1 := [.int r]) rfl (fun H locs hI => ?_)
  refine lv_aload_n hx hb d_law_654 rfl (lv_at hl 1 rfl) ?_
  refine lv_aload_n hx hb d_law_655 rfl (lv_at hl 3 rfl) ?_
  refine lv_iload_n hx hb d_law_656 rfl (lv_at hl 0 rfl) ?_
  refine lv_iconst (v := 1) hx hb d_law_657 (by decide) ?_
  refine lv_iadd hx hb d_law_658 ?_
  refine va_sld (A := (fun q : Nat => s.heap.size ≤ q)) hx hb hX hbl hbA hI.2 hin1 d_law_659 ?_
  refine lv_aload_n hx hb d_law_660 rfl (lv_at hl 3 rfl) ?_
  refine lv_iload_n hx hb d_law_661 rfl (lv_at hl 0 rfl) ?_
  refine lv_iconst (v := 2) hx hb d_law_662 (by decide) ?_
  refine lv_iadd hx hb d_law_663 ?_
  refine va_sld (A := (fun q : Nat => s.heap.size ≤ q)) hx hb hX hbl hbA hI.2 hin2 d_law_664 ?_
  refine gx_go (va_runV (As := [.int (xs (nI i + 1).toNatClampNeg), .int (xs (nI i + 2).toNatClampNeg)]) (rest := [.int r]) G.1 (ct_Mo_line l D dA adr _ hA N (xs (nI i + 1).toNatClampNeg) (xs (nI i + 2).toNatClampNeg) σ1 r σ2 h2) (cwV 2 ht gi_La_101 rfl rfl rfl (by decide +kernel) ⟨Nat.le_of_ble_eq_true rfl, Nat.le_of_ble_eq_true rfl⟩) (gx_preV G hI cl_Mo (by decide)) rfl rfl hl.1 rfl (lv_room (Nat.le_of_ble_eq_true rfl)) d_law_665 ⟨Nat.le_of_ble_eq_true rfl, Nat.le_of_ble_eq_true rfl⟩) hI (st1 := [.int r, .int r]) rfl (fun H locs hI => ?_)
  refine lv_icmp_eq (tgt := 696) hx hb d_law_668 (by decide) (fun _ => kk σ2 H locs hR2 hI) (fun c1 => absurd rfl c1)
set_option maxHeartbeats 4000000 in
set_option maxRecDepth 100000 in
theorem lc_count {p : Program} {l : Launch} {e : Env} {s : State} {m : MethodId} {below : List Frame} {meth : Method} {c : Code} {D : va_G} {dA : Nat → ClassId} {adr : Nat → Nat} {b L : Nat} {xs : Nat → Int32} (G : gx_G p m c code 4 s #[Value.ref b] gx_tb R_law D dA) (hX : va_X b L xs s s.heap) (hbl : b < s.heap.size) (hA : gx_A (fun q : Nat => s.heap.size ≤ q) adr) (hL : L ≤ 3073) (N : Nat) (R : Nat → gx_M → Prop) (hsim : gs_count N R) (n : Nat) (hn : n < 512) (i : Nat) (hi : i + 6 ≤ L) (σ : gx_M) (hR : R n σ) (H : Heap) (locs : List Loc) (ls : Array Slot) (hI : gx_I D dA adr (fun q : Nat => s.heap.size ≤ q) s.heap σ H locs) (hl : lv_has ls 4 [(3, .int (nI i)), (2, .ref (adr 722)), (1, .ref (adr 0)), (0, .ref b)]) (kk : ∀ (σ : gx_M) (H : Heap) (locs : List Loc), R (n + 1) σ → gx_I D dA adr (fun q : Nat => s.heap.size ≤ q) s.heap σ H locs → W p l e room_1 s m #[Value.ref b] below meth c H locs 733 19239 (lw_Z below #[Value.ref b] s) (F0 m 696 ls [])) : W p l e room_1 s m #[Value.ref b] below meth c H locs 733 19239 (lw_Z below #[Value.ref b] s) (F0 m 673 ls []) := by
  obtain ⟨⟨hx, hb, hml, hown, ht⟩, hK⟩ := id G
  have hbA : ¬ (fun q : Nat => s.heap.size ≤ q) b := Nat.not_le.mpr hbl
  obtain ⟨r, σ1, σ2, h1, h2, hR2⟩ := hsim (xs (nI i + 1).toNatClampNeg) n σ hn hR
  have hin1 : vp_in (nI i + 1) L := by rw [show nI i + 1 = nI (i + 1) from nI_add i 1]; exact vp_in_nI (by omega) (by omega)
  refine lv_aload_n hx hb d_law_673 rfl (lv_at hl 2 rfl) ?_
  refine lv_aload_n hx hb d_law_674 rfl (lv_at hl 3 rfl) ?_
  refine lv_iload_n hx hb d_law_675 rfl (lv_at hl 0 rfl) ?_
  refine lv_iconst (v := 1) hx hb d_law_676 (by decide) ?_
  refine lv_iadd hx hb d_law_677 ?_
  refine va_sld (A := (fun q : Nat => s.heap.size ≤ q)) hx hb hX hbl hbA hI.2 hin1 d_law_678 ?_
  refine gx_go (va_runV (As := [.int (xs (nI i + 1).toNatClampNeg)]) (rest := []) G.1 (ct_Bo_count l D dA adr _ hA N (xs (nI i + 1).toNatClampNeg) σ r σ1 h1) (cwV 1 ht gi_La_102 rfl rfl rfl (by decide +kernel) ⟨Nat.le_of_ble_eq_true rfl, Nat.le_of_ble_eq_true rfl⟩) (gx_preV G hI cl_Bo (by decide)) rfl rfl hl.1 rfl (lv_room (Nat.le_of_ble_eq_true rfl)) d_law_679 ⟨Nat.le_of_ble_eq_true rfl, Nat.le_of_ble_eq_true rfl⟩) hI (st1 := [.int r]) rfl (fun H locs hI => ?_)
  refine lv_aload_n hx hb d_law_682 rfl (lv_at hl 1 rfl) ?_
  refine lv_aload_n hx hb d_law_683 rfl (lv_at hl 3 rfl) ?_
  refine lv_iload_n hx hb d_law_684 rfl (lv_at hl 0 rfl) ?_
  refine lv_iconst (v := 1) hx hb d_law_685 (by decide) ?_
  refine lv_iadd hx hb d_law_686 ?_
  refine va_sld (A := (fun q : Nat => s.heap.size ≤ q)) hx hb hX hbl hbA hI.2 hin1 d_law_687 ?_
  refine gx_go (va_runV (As := [.int (xs (nI i + 1).toNatClampNeg)]) (rest := [.int r]) G.1 (ct_Mo_count l D dA adr _ hA N (xs (nI i + 1).toNatClampNeg) σ1 r σ2 h2) (cwV 1 ht gi_La_105 rfl rfl rfl (by decide +kernel) ⟨Nat.le_of_ble_eq_true rfl, Nat.le_of_ble_eq_true rfl⟩) (gx_preV G hI cl_Mo (by decide)) rfl rfl hl.1 rfl (lv_room (Nat.le_of_ble_eq_true rfl)) d_law_688 ⟨Nat.le_of_ble_eq_true rfl, Nat.le_of_ble_eq_true rfl⟩) hI (st1 := [.int r, .int r]) rfl (fun H locs hI => ?_)
  refine lv_icmp_eq (tgt := 696) hx hb d_law_691 (by decide) (fun _ => kk σ2 H locs hR2 hI) (fun c1 => absurd rfl c1)

/-- what the words say of a class of the world -/
def gx_Cl (Ts : List Cond) (ci : Nat) (C : String) (T : u_T) (t : Nat → FieldType) : Prop := (∀ w ∈ u_ws C T (gx_N ci), w ∈ Ts) ∧ gx_cl[ci]? = some (C, T, gx_N ci) ∧ (∀ k, k < gx_N ci → (T k).1 = C) ∧ (∀ k, k < gx_N ci → parseFieldDescriptor (T k).2.2.1 = some (t k)) ∧ ∀ a, a < gx_N ci → ∀ b, b < gx_N ci → a ≠ b → (T a).2.1 ≠ (T b).2.1
section GXR
variable {p : Program} {l : Launch} {e : Env} {R : Room} {s : State} {m : MethodId} {args : Array Value} {below : List Frame} {meth : Method} {c : Code} {H : Heap} {locs : List Loc} {cells slots : Nat} {Q : State → Prop}
variable {cc : ByteArray} {pc nL : Nat} {ls : Array Slot} {rest : List Value} {D : va_G} {dA : Nat → ClassId} {adr : Nat → Nat} {A : Nat → Prop} {σ σ' : gx_M} {H0 : Heap} {Ts : List Cond} {own C : String} {T : u_T} {t : Nat → FieldType} {ci index o : Nat}
/-- where a method stands: the machine, its code, the words, the classes -/
def gx_G (p : Program) (m : MethodId) (c : Code) (cc : ByteArray) (nL : Nat) (s : State) (args : Array Value) (Ts : List Cond) (own : String) (D : va_G) (dA : Nat → ClassId) : Prop := CallFix p m c cc nL s args Ts own ∧ va_K D gx_cl (gx_tys dA) s
def gx_I (D : va_G) (dA : Nat → ClassId) (adr : Nat → Nat) (A : Nat → Prop) (H0 : Heap) (σ : gx_M) (H : Heap) (locs : List Loc) : Prop := va_P D gx_cl (gx_ws dA adr σ) H ∧ va_S A H0 H locs
theorem gx_atO (hci : gx_ci o = some ci) : (gx_ws dA adr σ)[o]? = some (adr o, .inr (ci, (List.range (gx_N ci)).map (fun k => gx_fv adr o k (σ o k)))) := by
  rw [gx_ws_at (gx_ci_lt hci), gx_cell_o hci]
theorem gx_get (G : gx_G p m c cc nL s args Ts own D dA) (hI : gx_I D dA adr A H0 σ H locs) (X : gx_Cl Ts ci C T t) (hci : gx_ci o = some ci) (k : Nat) (hk : k < gx_N ci) (hl : Cond.fieldLink own index C (T k).2.1 (T k).2.2.1 ∈ Ts) {v : Value} (hv : gx_fv adr o k (σ o k) = v) (hdg : decode cc pc = .ok (.getfield index, 3))
    (kk : W p l e R s m args below meth c H locs cells slots Q (F0 m (pc + 3) ls (v :: rest))) : W p l e R s m args below meth c H locs cells slots Q (F0 m pc ls (.ref (adr o) :: rest)) := by
  obtain ⟨⟨hx, hb, hml, hown, hts⟩, hK⟩ := G
  obtain ⟨h1, h2, h3, h4, h5⟩ := X
  subst hv
  exact va_get (D := D) (ci := ci) (C := C) (T := T) (N := gx_N ci) hx hb hts h1 hown hK hI.1 o (gx_atO hci) h2 k hk (hts _ hl) (fun x h => by rwa [h3 k hk] at h) (gx_fs_at hk) hdg kk
theorem gx_getI (G : gx_G p m c cc nL s args Ts own D dA) (hI : gx_I D dA adr A H0 σ H locs) (X : gx_Cl Ts ci C T t) (hci : gx_ci o = some ci) (k : Nat) (hk : k < gx_N ci) (hrf : gx_rf o k = none) (hl : Cond.fieldLink own index C (T k).2.1 (T k).2.2.1 ∈ Ts) (hdg : decode cc pc = .ok (.getfield index, 3))
    (kk : W p l e R s m args below meth c H locs cells slots Q (F0 m (pc + 3) ls (.int (σ o k) :: rest))) : W p l e R s m args below meth c H locs cells slots Q (F0 m pc ls (.ref (adr o) :: rest)) :=
  gx_get G hI X hci k hk hl (by unfold gx_fv; rw [hrf]) hdg kk
theorem gx_getR (G : gx_G p m c cc nL s args Ts own D dA) (hI : gx_I D dA adr A H0 σ H locs) (X : gx_Cl Ts ci C T t) (hci : gx_ci o = some ci) (k : Nat) (hk : k < gx_N ci) {o' : Nat} (hrf : gx_rf o k = some o') (hl : Cond.fieldLink own index C (T k).2.1 (T k).2.2.1 ∈ Ts) (hdg : decode cc pc = .ok (.getfield index, 3))
    (kk : W p l e R s m args below meth c H locs cells slots Q (F0 m (pc + 3) ls (.ref (adr o') :: rest))) : W p l e R s m args below meth c H locs cells slots Q (F0 m pc ls (.ref (adr o) :: rest)) :=
  gx_get G hI X hci k hk hl (by unfold gx_fv; rw [hrf]) hdg kk
theorem gx_put (G : gx_G p m c cc nL s args Ts own D dA) (hI : gx_I D dA adr A H0 σ H locs) (hA : gx_A A adr) (X : gx_Cl Ts ci C T t) (hci : gx_ci o = some ci) (k : Nat) (hk : k < gx_N ci) (hrf : gx_rf o k = none) (hl : Cond.fieldLink own index C (T k).2.1 (T k).2.2.1 ∈ Ts) (hfin : (T k).2.2.2 = false) {v : Int32} (hn : narrow (t k) (.int v) = .int v) (hfit : fits (t k) (.int v) = true) (hσ : σ' = gx_up σ o k v) (hdg : decode cc pc = .ok (.putfield index, 3))
    (kk : ∀ (H1 : Heap) (locs1 : List Loc), gx_I D dA adr A H0 σ' H1 locs1 → W p l e R s m args below meth c H1 locs1 cells slots Q (F0 m (pc + 3) ls rest)) : W p l e R s m args below meth c H locs cells slots Q (F0 m pc ls (.int v :: .ref (adr o) :: rest)) := by
  obtain ⟨⟨hx, hb, hml, hown, hts⟩, hK⟩ := G
  obtain ⟨h1, h2, h3, h4, h5⟩ := X
  refine va_put (D := D) (ci := ci) (C := C) (T := T) (N := gx_N ci) (v := .int v) (ty := t k) hx hb hts h1 t h4 h5 hown hK hI.1 (gx_D hA σ) hI.2 o (gx_atO hci) h2 k hk (hts _ hl) (fun x h => by rwa [h3 k hk] at h) hfin (h4 k hk) hn hfit (by simpa using hk) hdg (fun H1 locs1 hP hD hS => kk H1 locs1 ⟨?_, hS⟩)
  rw [gx_fs_set hrf, gx_ws_set (σ' := σ') (gx_ci_lt hci) (by rw [gx_cell_o hci, hσ, gx_up_row]) (fun a ha => by rw [hσ, gx_up_ne a ha])] at hP
  exact hP
theorem gx_ald (G : gx_G p m c cc nL s args Ts own D dA) (hI : gx_I D dA adr A H0 σ H locs) (hci : gx_ci o = none) (ho : o < 722) {E : String} (ht : (gx_tys dA)[gx_ta o]? = some (dA (gx_ta o), .object E)) {i : Int32} (hin : vp_in i (gx_len o)) (hdg : decode cc pc = .ok (.aaload, 1))
    (kk : W p l e R s m args below meth c H locs cells slots Q (F0 m (pc + 1) ls (.ref (adr (gx_el o i.toNatClampNeg)) :: rest))) : W p l e R s m args below meth c H locs cells slots Q (F0 m pc ls (.int i :: .ref (adr o) :: rest)) := by
  obtain ⟨⟨hx, hb, hml, hown, hts⟩, hK⟩ := G
  exact va_aldq (f := fun i => some (adr (gx_el o i))) hx hb hK hI.1 o (gx_ta o) (by rw [gx_ws_at (by omega), gx_cell_r hci ho]) ht hin hdg kk
theorem gx_ild (G : gx_G p m c cc nL s args Ts own D dA) (hI : gx_I D dA adr A H0 σ H locs) (ho : 722 < o ∧ o < 732) {i : Int32} (hin : vp_in i (gx_len o)) (hdg : decode cc pc = .ok (.iaload, 1))
    (kk : W p l e R s m args below meth c H locs cells slots Q (F0 m (pc + 1) ls (.int (σ o i.toNatClampNeg) :: rest))) : W p l e R s m args below meth c H locs cells slots Q (F0 m pc ls (.int i :: .ref (adr o) :: rest)) := by
  obtain ⟨⟨hx, hb, hml, hown, hts⟩, hK⟩ := G
  have hci : gx_ci o = none := by
    unfold gx_ci
    rw [if_neg (by omega), if_neg (by omega), if_neg (by omega), if_neg (by omega), if_neg (by omega), if_neg (by omega), if_neg (by omega), if_neg (by omega), if_neg (by omega)]
  have hta : gx_ta o = 0 := by
    unfold gx_ta
    rw [if_neg (by omega), if_neg (by omega), if_neg (by omega), if_neg (by omega)]
  exact va_iald hx hb hK hI.1 o 0 (by rw [gx_ws_at (by omega), gx_cell_i hci (by omega), hta]) rfl hin hdg kk
theorem gx_ist (G : gx_G p m c cc nL s args Ts own D dA) (hI : gx_I D dA adr A H0 σ H locs) (hA : gx_A A adr) (ho : 722 < o ∧ o < 732) {i x : Int32} (hin : vp_in i (gx_len o)) (hσ : σ' = gx_up σ o i.toNatClampNeg x) (hdg : decode cc pc = .ok (.iastore, 1))
    (kk : ∀ (H1 : Heap) (locs1 : List Loc), gx_I D dA adr A H0 σ' H1 locs1 → W p l e R s m args below meth c H1 locs1 cells slots Q (F0 m (pc + 1) ls rest)) : W p l e R s m args below meth c H locs cells slots Q (F0 m pc ls (.int x :: .int i :: .ref (adr o) :: rest)) := by
  obtain ⟨⟨hx, hb, hml, hown, hts⟩, hK⟩ := G
  have hci : gx_ci o = none := by
    unfold gx_ci
    rw [if_neg (by omega), if_neg (by omega), if_neg (by omega), if_neg (by omega), if_neg (by omega), if_neg (by omega), if_neg (by omega), if_neg (by omega), if_neg (by omega)]
  have hta : gx_ta o = 0 := by
    unfold gx_ta
    rw [if_neg (by omega), if_neg (by omega), if_neg (by omega), if_neg (by omega)]
  refine va_iast hx hb hK hI.1 (gx_D hA σ) hI.2 o 0 (by rw [gx_ws_at (by omega), gx_cell_i hci (by omega), hta]) rfl hin hdg (fun H1 locs1 hP hD hS => kk H1 locs1 ⟨?_, hS⟩)
  rw [gx_ws_set (σ' := σ') (by omega) (by rw [gx_cell_i hci (by omega), hσ, gx_up_row, hta]) (fun a ha => by rw [hσ, gx_up_ne a ha])] at hP
  exact hP
theorem gx_zld (G : gx_G p m c cc nL s args Ts own D dA) (hI : gx_I D dA adr A H0 σ H locs) {i : Int32} (hin : vp_in i 40) (hdg : decode cc pc = .ok (.baload, 1))
    (kk : W p l e R s m args below meth c H locs cells slots Q (F0 m (pc + 1) ls (.int (σ 732 i.toNatClampNeg) :: rest))) : W p l e R s m args below meth c H locs cells slots Q (F0 m pc ls (.int i :: .ref (adr 732) :: rest)) := by
  obtain ⟨⟨hx, hb, hml, hown, hts⟩, hK⟩ := G
  exact va_zald hx hb hK hI.1 732 1 (by rw [gx_ws_at (by omega), gx_cell_i (by decide) (by omega)]; rfl) rfl hin hdg kk
theorem gx_zst (G : gx_G p m c cc nL s args Ts own D dA) (hI : gx_I D dA adr A H0 σ H locs) (hA : gx_A A adr) {i x : Int32} (hx1 : vp_nar .boolean x = x) (hin : vp_in i 40) (hσ : σ' = gx_up σ 732 i.toNatClampNeg x) (hdg : decode cc pc = .ok (.bastore, 1))
    (kk : ∀ (H1 : Heap) (locs1 : List Loc), gx_I D dA adr A H0 σ' H1 locs1 → W p l e R s m args below meth c H1 locs1 cells slots Q (F0 m (pc + 1) ls rest)) : W p l e R s m args below meth c H locs cells slots Q (F0 m pc ls (.int x :: .int i :: .ref (adr 732) :: rest)) := by
  obtain ⟨⟨hx, hb, hml, hown, hts⟩, hK⟩ := G
  refine va_zast hx hb hK hI.1 (gx_D hA σ) hI.2 732 1 (by rw [gx_ws_at (by omega), gx_cell_i (by decide) (by omega)]; rfl) rfl hin hdg (fun H1 locs1 hP hD hS => kk H1 locs1 ⟨?_, hS⟩)
  rw [hx1, gx_ws_set (σ' := σ') (by omega) (by rw [gx_cell_i (by decide) (by omega), hσ, gx_up_row]; rfl) (fun a ha => by rw [hσ, gx_up_ne a ha])] at hP
  exact hP
/-- a method's start and end -/
def gx_Pc (D : va_G) (dA : Nat → ClassId) (adr : Nat → Nat) (σ : gx_M) (av : List Value) : Array Value → State → Prop := va_Pc av (fun U => va_P D gx_cl (gx_ws dA adr σ) U.heap ∧ va_K D gx_cl (gx_tys dA) U)
def gx_Q (D : va_G) (dA : Nat → ClassId) (adr : Nat → Nat) (A : Nat → Prop) (v : Option Value) (σ : gx_M) : Array Value → State → Outcome → State → Prop := fun _ st oc t => oc = .returned v ∧ va_P D gx_cl (gx_ws dA adr σ) t.heap ∧ va_F A st t
theorem gx_blind {av : List Value} : FrameBlind (gx_Pc D dA adr σ av) := fun a U g mk q => by
  obtain ⟨q0, qP, qK⟩ := q
  exact ⟨q0, qP, va_K.moved (u := U) (U := U.calling g mk a) (Vm.Alike.refl U.vm) qK⟩
theorem gx_pre {av : List Value} (G : gx_G p m c cc nL s args Ts own D dA) (hI : gx_I D dA adr A H0 σ H locs) : PreS s H (gx_Pc D dA adr σ av) av :=
  ⟨gx_blind, fun U hU hW => ⟨rfl, by rw [hU]; exact hI.1, va_K.moved hW.alike G.2⟩⟩
theorem gx_preV {av : List Value} (G : gx_G p m c cc nL s args Ts own D dA) (hI : gx_I D dA adr A H0 σ H locs) (X : gx_Cl Ts ci C T t) (hci : gx_ci o = some ci) : PreV s H C (adr o) (gx_Pc D dA adr σ (.ref (adr o) :: av)) av :=
  ⟨gx_blind, va_recv G.2 hI.1 (ci := ci) (q0 := o) X.2.1 (gx_atO hci), fun U hU hW => ⟨rfl, by rw [hU]; exact hI.1, va_K.moved hW.alike G.2⟩⟩
theorem gx_go {v : Option Value} {st0 st1 : List Value} {a : Array Value} (hr : va_Run p l e R s m args below meth c H locs cells slots 0 0 (F0 m pc ls st0) rest (gx_Q D dA adr A v σ' a) A) (hI : gx_I D dA adr A H0 σ H locs) (hst : v.toList ++ rest = st1)
    (kk : ∀ (H1 : Heap) (locs1 : List Loc), gx_I D dA adr A H0 σ' H1 locs1 → W p l e R s m args below meth c H1 locs1 cells slots Q (F0 m (pc + 3) ls st1)) : W p l e R s m args below meth c H locs cells slots Q (F0 m pc ls st0) := by
  subst hst
  intro T hT X
  obtain ⟨v', st₀, t, T', L, h0, X', hL, e1, e2, ⟨hv, hP, hz, hk⟩, st⟩ := hr T hT X
  cases hv
  rw [h0] at hz hk
  have hS := hI.2
  obtain ⟨t2, a1, b1⟩ := kk T'.heap (locs ++ L) ⟨by rw [e1]; exact hP, Nat.le_trans hS.1 (by rw [e1]; exact hz), fun q h1 h2 => by rw [e1, hk q (Nat.lt_of_lt_of_le h1 hS.1) h2]; exact hS.2.1 q h1 h2, fun q hq => by
      rcases List.mem_append.mp hq with h | h
      · exact hS.2.2 q h
      · exact hL q h⟩ T' rfl X'
  exact ⟨t2, st t2 a1, b1⟩
/-- a method's end -/
theorem gx_F {v : Option Value} {a : Array Value} (hI : gx_I D dA adr A s.heap σ H locs) : ∀ t : State, t.heap = H → s.WarmedH t.vm → gx_Q D dA adr A v σ a s (.returned v) t := fun t ht _ => ⟨rfl, by rw [ht]; exact hI.1, hI.2.F ht⟩
theorem gx_aldQ (G : gx_G p m c cc nL s args Ts own D dA) (hI : gx_I D dA adr A H0 σ H locs) {i : Int32} (hi : 0 ≤ i ∧ i < 4) (hdg : decode cc pc = .ok (.aaload, 1))
    (kk : W p l e R s m args below meth c H locs cells slots Q (F0 m (pc + 1) ls (.ref (adr (gx_el 1 i.toNatClampNeg)) :: rest))) : W p l e R s m args below meth c H locs cells slots Q (F0 m pc ls (.int i :: .ref (adr 1) :: rest)) :=
  gx_ald G hI (by decide) (by decide) (E := R_Qu) rfl (gx_in hi (by decide)) hdg kk
theorem gx_aldP (G : gx_G p m c cc nL s args Ts own D dA) (hI : gx_I D dA adr A H0 σ H locs) {i : Int32} (hi : 0 ≤ i ∧ i < 16) (hdg : decode cc pc = .ok (.aaload, 1))
    (kk : W p l e R s m args below meth c H locs cells slots Q (F0 m (pc + 1) ls (.ref (adr (gx_el 7 i.toNatClampNeg)) :: rest))) : W p l e R s m args below meth c H locs cells slots Q (F0 m pc ls (.int i :: .ref (adr 7) :: rest)) :=
  gx_ald G hI (by decide) (by decide) (E := R_Ro) rfl (gx_in hi (by decide)) hdg kk
theorem gx_aldJ (G : gx_G p m c cc nL s args Ts own D dA) (hI : gx_I D dA adr A H0 σ H locs) (ho : 8 ≤ o ∧ o < 25) {i : Int32} (hi : 0 ≤ i ∧ i < 40) (hdg : decode cc pc = .ok (.aaload, 1))
    (kk : W p l e R s m args below meth c H locs cells slots Q (F0 m (pc + 1) ls (.ref (adr (gx_el (o + 17) i.toNatClampNeg)) :: rest))) : W p l e R s m args below meth c H locs cells slots Q (F0 m pc ls (.int i :: .ref (adr (o + 17)) :: rest)) := by
  have hta : gx_ta (o + 17) = 4 := by
    unfold gx_ta
    rw [if_neg (by omega), if_neg (by omega), if_pos (by omega)]
  have hln : gx_len (o + 17) = 40 := by
    unfold gx_len
    rw [if_neg (by omega), if_neg (by omega), if_pos (by omega)]
  exact gx_ald G hI (gx_ci_a (by omega)) (by omega) (E := R_Jb) (by rw [hta]; rfl) (by rw [hln]; exact gx_in hi (by decide)) hdg kk
theorem gx_top {x y : Int32} (h : y = x) (k : W p l e R s m args below meth c H locs cells slots Q (F0 m pc ls (.int y :: rest))) : W p l e R s m args below meth c H locs cells slots Q (F0 m pc ls (.int x :: rest)) := by
  subst h
  exact k
end GXR

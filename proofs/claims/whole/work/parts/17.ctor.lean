/-! THE CONSTRUCTORS: a world by addresses; what is made lies at the heap's end -/
def gz_st (S : Nat → Option va_E) (a : Nat) (e : va_E) : Nat → Option va_E := fun q => if q = a then some e else S q
def gz_P (D : va_G) (S : Nat → Option va_E) (H : Heap) : Prop := ∀ (q : Nat) (e : va_E), S q = some e → va_at D gx_cl (q, e) H
def gz_I (D : va_G) (A : Nat → Prop) (H0 : Heap) (S : Nat → Option va_E) (z : Nat) (H : Heap) (locs : List Loc) : Prop := gz_P D S H ∧ va_S A H0 H locs ∧ H.size = z
def gz_O (s : State) : Prop := va_AO R_Qu s ∧ va_AO R_Ro s ∧ va_AO R_Jb s
theorem gz_O.moved {u U : State} (hvm : u.vm.Alike U.vm) (h : gz_O u) : gz_O U := ⟨h.1.moved hvm, h.2.1.moved hvm, h.2.2.moved hvm⟩
theorem gz_st_s {S : Nat → Option va_E} {a : Nat} {e : va_E} : gz_st S a e a = some e := if_pos rfl
theorem gz_st_n {S : Nat → Option va_E} {a q : Nat} {e : va_E} (h : q ≠ a) : gz_st S a e q = S q := if_neg h
theorem gz_P.set {D : va_G} {S : Nat → Option va_E} {H H1 : Heap} {a : Nat} {e : va_E} (h : gz_P D S H) (he : va_at D gx_cl (a, e) H1) (oq : ∀ q : Nat, q ≠ a → H1[q]? = H[q]?) : gz_P D (gz_st S a e) H1 := by
  intro q x hx
  by_cases hq : q = a
  · subst hq
    rw [gz_st_s] at hx
    cases hx
    exact he
  · rw [gz_st_n hq] at hx
    exact (h q x hx).kept (oq q hq)
theorem gz_P.push {D : va_G} {S : Nat → Option va_E} {H H1 : Heap} {e : va_E} (h : gz_P D S H) (he : va_at D gx_cl (H.size, e) H1) (oq : ∀ q : Nat, q < H.size → H1[q]? = H[q]?) : gz_P D (gz_st S H.size e) H1 := by
  intro q x hx
  by_cases hq : q = H.size
  · subst hq
    rw [gz_st_s] at hx
    cases hx
    exact he
  · rw [gz_st_n hq] at hx
    exact (h q x hx).kept (oq q (h q x hx).lt)
section GZR
variable {p : Program} {l : Launch} {e : Env} {R : Room} {s : State} {m : MethodId} {args : Array Value} {below : List Frame} {meth : Method} {c : Code} {H : Heap} {locs : List Loc} {cells slots : Nat} {Q : State → Prop}
variable {cc : ByteArray} {pc nL : Nat} {ls : Array Slot} {rest : List Value} {D : va_G} {dA : Nat → ClassId} {A : Nat → Prop} {H0 : Heap} {Ts : List Cond} {own C : String} {T : u_T} {t : Nat → FieldType} {ci index a z : Nat} {S S' : Nat → Option va_E}
theorem gz_get (G : gx_G p m c cc nL s args Ts own D dA) (hI : gz_I D A H0 S z H locs) (X : gx_Cl Ts ci C T t) {fs : List Value} (ha : S a = some (.inr (ci, fs))) (k : Nat) (hk : k < gx_N ci) (hl : Cond.fieldLink own index C (T k).2.1 (T k).2.2.1 ∈ Ts) {v : Value} (hv : fs[k]? = some v) (hdg : decode cc pc = .ok (.getfield index, 3))
    (kk : W p l e R s m args below meth c H locs cells slots Q (F0 m (pc + 3) ls (v :: rest))) : W p l e R s m args below meth c H locs cells slots Q (F0 m pc ls (.ref a :: rest)) := by
  obtain ⟨⟨hx, hb, hml, hown, hts⟩, hK⟩ := G
  obtain ⟨h1, h2, h3, h4, h5⟩ := X
  have hP : va_P D gx_cl [(a, .inr (ci, fs))] H := by
    intro k q hk
    match k, hk with
    | 0, hk => cases hk; exact hI.1 a _ ha
    | k + 1, hk => simp at hk
  exact va_get (D := D) (ci := ci) (C := C) (T := T) (N := gx_N ci) hx hb hts h1 hown hK hP 0 rfl h2 k hk (hts _ hl) (fun x h => by rwa [h3 k hk] at h) hv hdg kk
theorem gz_put (G : gx_G p m c cc nL s args Ts own D dA) (hI : gz_I D A H0 S z H locs) (X : gx_Cl Ts ci C T t) {fs : List Value} (ha : S a = some (.inr (ci, fs))) (hA : A a) (k : Nat) (hk : k < gx_N ci) (hl : Cond.fieldLink own index C (T k).2.1 (T k).2.2.1 ∈ Ts) (hfin : (T k).2.2.2 = false) {v : Value} (hn : narrow (t k) v = v) (hfit : fits (t k) v = true) (hlen : k < fs.length) (hdg : decode cc pc = .ok (.putfield index, 3))
    (kk : ∀ (H1 : Heap) (locs1 : List Loc), gz_I D A H0 (gz_st S a (.inr (ci, fs.set k v))) z H1 locs1 → W p l e R s m args below meth c H1 locs1 cells slots Q (F0 m (pc + 3) ls rest)) : W p l e R s m args below meth c H locs cells slots Q (F0 m pc ls (v :: .ref a :: rest)) := by
  obtain ⟨⟨hx, hb, hml, hown, hts⟩, hK⟩ := G
  obtain ⟨h1, h2, h3, h4, h5⟩ := X
  have hap := va_apart (own := own) (args := args) hts h1 t h4 h5 hK h2
  obtain ⟨r, hr1, cell, q1, q2, q3, q4⟩ := hI.1 a _ ha
  have hr : r = (C, T, gx_N ci) := Option.some.inj (hr1.symm.trans h2)
  subst hr
  obtain ⟨hS, hfc, kC, hkC, hkind⟩ := hK.1 ci _ h2
  obtain ⟨cf, kf, fi, f, hi, hsl⟩ := hS k hk
  have hlay := hts _ (h1 _ (u_in_lay hk))
  unfold u_lay at hlay
  rw [if_neg (by rw [hfin]; decide)] at hlay
  have hst := (u_facts hfc hkC (u_lays hts h1 hk) hi).1
  have h6 := u_store hfc hkC hkind hlay hi (h4 k hk) hn hfit
  refine W.putK hx hb (f := f) ⟨hown, hts _ hl, ⟨_, _, _, by rw [h3 k hk] at hi; exact hi⟩, hst⟩ (by rw [q2]; exact h6) q1 q3 (by rw [hsl]; exact k2_hasslot (q4 k hk)) rfl rfl hdg fun H' e1 e2 e3 => ?_
  rw [hsl] at e1 ⊢
  exact kk H' _ ⟨hI.1.set ⟨_, h2, t_OB.to (V := updV (vp_V fs) k v) ⟨_, e1, q2, q3, t_set q4 hap hk v⟩ (fun j _ => vp_updV_set hlen v j)⟩ e3, hI.2.1.put e2 e3 hA, by rw [e2]; exact hI.2.2⟩
theorem gz_putF (G : gx_G p m c cc nL s args Ts own D dA) (hI : gz_I D A H0 S z H locs) (X : gx_Cl Ts ci C T t) {fs : List Value} (ha : S a = some (.inr (ci, fs))) (hA : A a) (k : Nat) (hk : k < gx_N ci) (hl : Cond.fieldLink own index C (T k).2.1 (T k).2.2.1 ∈ Ts) (hfin : (T k).2.2.2 = true) (hin : meth.name = "<init>") (hCo : C = own) {v : Value} (hn : narrow (t k) v = v) (hfit : fits (t k) v = true) (hlen : k < fs.length) (hdg : decode cc pc = .ok (.putfield index, 3))
    (kk : ∀ (H1 : Heap) (locs1 : List Loc), gz_I D A H0 (gz_st S a (.inr (ci, fs.set k v))) z H1 locs1 → W p l e R s m args below meth c H1 locs1 cells slots Q (F0 m (pc + 3) ls rest)) : W p l e R s m args below meth c H locs cells slots Q (F0 m pc ls (v :: .ref a :: rest)) := by
  obtain ⟨⟨hx, hb, hml, hown, hts⟩, hK⟩ := G
  obtain ⟨h1, h2, h3, h4, h5⟩ := X
  have hap := va_apart (own := own) (args := args) hts h1 t h4 h5 hK h2
  obtain ⟨r, hr1, cell, q1, q2, q3, q4⟩ := hI.1 a _ ha
  have hr : r = (C, T, gx_N ci) := Option.some.inj (hr1.symm.trans h2)
  subst hr
  obtain ⟨hS, hfc, kC, hkC, hkind⟩ := hK.1 ci _ h2
  obtain ⟨cf, kf, fi, f, hi, hsl⟩ := hS k hk
  have hlay := hts _ (h1 _ (u_in_lay hk))
  unfold u_lay at hlay
  rw [if_pos hfin] at hlay
  have hst := (u_facts hfc hkC (u_lays hts h1 hk) hi).1
  have hcf : m.cls = cf := by
    obtain ⟨_, _, c', _, _, _, -, -, hf', -, -, -, hown2, -⟩ := Cond.laysFinal_spec hlay
    have e1 : c' = cf := by have := hi.symm.trans hf'; simp at this; exact this.1.symm
    rw [h3 k hk, hCo] at hown2
    rw [← e1]; exact Option.some.inj (hown.symm.trans hown2)
  have h6 := u_fits hfc hkC hkind (Or.inr hlay) hi (h4 k hk) hn hfit
  refine W.putFinK hx hb hown (hts _ hl) (by rw [h3 k hk] at hi; exact hi) hst hcf hin (by rw [q2]; exact h6) q1 q3 (by rw [hsl]; exact k2_hasslot (q4 k hk)) rfl rfl hdg fun H' e1 e2 e3 => ?_
  rw [hsl] at e1 ⊢
  exact kk H' _ ⟨hI.1.set ⟨_, h2, t_OB.to (V := updV (vp_V fs) k v) ⟨_, e1, q2, q3, t_set q4 hap hk v⟩ (fun j _ => vp_updV_set hlen v j)⟩ e3, hI.2.1.put e2 e3 hA, by rw [e2]; exact hI.2.2⟩
theorem gz_new (G : gx_G p m c cc nL s args Ts own D dA) (hI : gz_I D A H0 S z H locs) (X : gx_Cl Ts ci C T t) (hcl : Cond.classLink own index C ∈ Ts) (hins : Cond.instantiable C (gx_N ci) ∈ Ts) (hini : Cond.initialized C ∈ Ts) {fs : List Value} (hfs : ∀ j, j < gx_N ci → defaultValue (t j) = vp_V fs j) (hcells : cells + 1 ≤ R.cells) (hslots : slots + gx_N ci ≤ R.slots) (hdg : decode cc pc = .ok (.new index, 3))
    (kk : ∀ H1 : Heap, gz_I D A H0 (gz_st S z (.inr (ci, fs))) (z + 1) H1 locs → W p l e R s m args below meth c H1 locs (cells + 1) (slots + gx_N ci) Q (F0 m (pc + 3) ls (.ref z :: rest))) : W p l e R s m args below meth c H locs cells slots Q (F0 m pc ls rest) := by
  obtain ⟨⟨hx, hb, hml, hown, hts⟩, hK⟩ := G
  obtain ⟨h1, h2, h3, h4, h5⟩ := X
  obtain ⟨hP, hS, hz⟩ := hI
  have hKn := hK.1 ci _ h2
  refine W.newcK hx hb hown (hts _ hcl) (hts _ hins) (hts _ hini) rfl hdg hcells hslots hKn.2.1 hz fun H1 kC hkC e1 z1 o1 => ?_
  subst hz
  exact kk H1 ⟨hP.push ⟨_, h2, (u_born t hts h1 hKn hkC e1 h4).to hfs⟩ o1, ⟨Nat.le_trans hS.1 (by omega), fun x g1 g2 => (o1 x (Nat.lt_of_lt_of_le g1 hS.1)).trans (hS.2.1 x g1 g2), hS.2.2⟩, z1⟩
theorem gz_anew (G : gx_G p m c cc nL s args Ts own D dA) (hI : gz_I D A H0 S z H locs) (hcl : Cond.classLink own index C ∈ Ts) (hov : va_AO C s) {k : Nat} (hk : (gx_tys dA)[k]? = some (dA k, .object C)) {n : Int32} {N : Nat} (hn : ¬ n < 0) (hN : n.toNatClampNeg = N) (hbytes : N * 4 ≤ 536870912) (hcells : cells + 1 ≤ R.cells) (hslots : slots + N ≤ R.slots) (hdg : decode cc pc = .ok (.anewarray index, 3))
    (kk : ∀ H1 : Heap, gz_I D A H0 (gz_st S z (.inl (dA k, N, .inr (.inr (.inr (.inr (fun _ => none))))))) (z + 1) H1 locs → W p l e R s m args below meth c H1 locs (cells + 1) (slots + N) Q (F0 m (pc + 3) ls (.ref z :: rest))) : W p l e R s m args below meth c H locs cells slots Q (F0 m pc ls (.int n :: rest)) := by
  obtain ⟨⟨hx, hb, hml, hown, hts⟩, hK⟩ := G
  obtain ⟨hP, hS, hz⟩ := hI
  subst hN
  subst hz
  refine W.anew hx hb hown (hts _ hcl) (va_AO.use hov) rfl hdg rfl hn hbytes hcells hslots fun cA kA comp f1 f2 f3 f4 => ?_
  obtain ⟨kA', comp', g1, g2, g3, g4⟩ := (hK.2 k _ hk).2
  have hcA : cA = dA k := Option.some.inj (f1.symm.trans g4)
  subst hcA
  generalize hH1 : H.push ({ cls := dA k, slots := Array.replicate n.toNatClampNeg .null, vm := .none } : Cell) = H1
  have z1 : H1.size = H.size + 1 := by rw [← hH1, Array.size_push]
  have e1 : H1[H.size]? = some (arrV (dA k) n.toNatClampNeg (fun _ => .null)) := by rw [← hH1, Array.getElem?_push_size, ← arrV_new]
  have o1 : ∀ q : Nat, q < H.size → H1[q]? = H[q]? := fun q hq => by rw [← hH1, Array.getElem?_push, if_neg (Nat.ne_of_lt hq)]
  exact kk H1 ⟨hP.push e1 o1, ⟨Nat.le_trans hS.1 (by omega), fun x g1 g2 => (o1 x (Nat.lt_of_lt_of_le g1 hS.1)).trans (hS.2.1 x g1 g2), hS.2.2⟩, z1⟩
theorem gz_newa (G : gx_G p m c cc nL s args Ts own D dA) (hI : gz_I D A H0 S z H locs) {atype : ArrayType} (harr : Cond.arrayClass (newarray.typeOf atype) ∈ Ts) {k : Nat} (hk : (gx_tys dA)[k]? = some (dA k, newarray.typeOf atype)) {a0 : Nat → Int32} {n : Int32} {N : Nat} (ha : (fun _ : Nat => defaultValue (newarray.typeOf atype)) = (fun j => .int (a0 j))) (hn : ¬ n < 0) (hN : n.toNatClampNeg = N) (hbytes : N * componentBytes (newarray.typeOf atype) ≤ 536870912) (hcells : cells + 1 ≤ R.cells) (hslots : slots + N ≤ R.slots) (hdg : decode cc pc = .ok (.newarray atype, 2))
    (kk : ∀ H1 : Heap, gz_I D A H0 (gz_st S z (.inl (dA k, N, .inl a0))) (z + 1) H1 locs → W p l e R s m args below meth c H1 locs (cells + 1) (slots + N) Q (F0 m (pc + 2) ls (.ref z :: rest))) : W p l e R s m args below meth c H locs cells slots Q (F0 m pc ls (.int n :: rest)) := by
  obtain ⟨⟨hx, hb, hml, hown, hts⟩, hK⟩ := G
  obtain ⟨hP, hS, hz⟩ := hI
  refine va_newaK hx hb (hts _ harr) rfl hdg rfl hn hN hbytes hcells hslots hz fun H1 cA e1 z1 o1 hAr hNm => ?_
  have g4 := (hK.2 k _ hk).2
  have hcA : cA = dA k := by
    cases atype <;> exact Option.some.inj (hNm.symm.trans g4)
  subst hcA
  subst hz
  refine kk H1 ⟨hP.push ?_ o1, ⟨Nat.le_trans hS.1 (by omega), fun x g1 g2 => (o1 x (Nat.lt_of_lt_of_le g1 hS.1)).trans (hS.2.1 x g1 g2), hS.2.2⟩, z1⟩
  show H1[H.size]? = some (vp_cell _ _)
  rw [vp_cell_i, ← ha]
  exact e1
theorem gz_ast (G : gx_G p m c cc nL s args Ts own D dA) (hI : gz_I D A H0 S z H locs) {k n v : Nat} {vs : List Value} {r : vw_C} {f : Nat → Option Nat} (ha : S a = some (.inl (dA k, n, .inr (.inr (.inr (.inr f)))))) (hA : A a) (hk : (gx_tys dA)[k]? = some (dA k, .object r.1)) (hv : S v = some (.inr (ci, vs))) (hc : gx_cl[ci]? = some r) {i : Int32} (hin : vp_in i n) (hdg : decode cc pc = .ok (.aastore, 1))
    (kk : ∀ (H1 : Heap) (locs1 : List Loc), gz_I D A H0 (gz_st S a (.inl (dA k, n, .inr (.inr (.inr (.inr (va_up f i.toNatClampNeg (some v)))))))) z H1 locs1 → W p l e R s m args below meth c H1 locs1 cells slots Q (F0 m (pc + 1) ls rest)) : W p l e R s m args below meth c H locs cells slots Q (F0 m pc ls (.ref v :: .int i :: .ref a :: rest)) := by
  obtain ⟨⟨hx, hb, hml, hown, hts⟩, hK⟩ := G
  obtain ⟨hP, hS, hz⟩ := hI
  have hlt : i.toNatClampNeg < n := Nat.not_le.mp fun q => hin (Or.inr q)
  have h0 : ¬ i < 0 := fun q => hin (Or.inl q)
  obtain ⟨r', hr', cellV, g1, g2, g3, -⟩ := hP v _ hv
  have hcls := (hK.1 ci r hc).2
  obtain ⟨kA, comp, k1, k2, k3, -⟩ := (hK.2 k _ hk).2
  have hcomp : comp = D.1 ci := Option.some.inj (k3.symm.trans hcls.1)
  subst hcomp
  obtain ⟨kC, hkC, -⟩ := hcls.2
  refine W.aast hx hb (hP a _ ha) (fun q h => by cases h) (fun h => by cases h) k1 k2 rfl hkC ⟨h0, by show _ < (arrV _ _ _).slots.size; rw [arrV_size]; exact hlt⟩ g1 (fun q h => by rw [g3] at h; cases h) (by rw [g2]; exact hkC) (by rw [g2]; exact va_assign hcls) rfl rfl hdg fun H1 e z1 oq => ?_
  refine kk H1 _ ⟨hP.set ?_ oq, hS.put z1 oq hA, by rw [z1]; exact hz⟩
  show H1[a]? = some (vp_cell _ _)
  rw [e]
  rw [vp_cell_q, vp_cell_q, arrV_store]
  congr 2
  funext q
  by_cases hq : q = i.toNatClampNeg
  · subst hq
    simp [updV, va_up, va_rf]
  · simp [updV, va_up, hq]
theorem gz_iast (G : gx_G p m c cc nL s args Ts own D dA) (hI : gz_I D A H0 S z H locs) {n : Nat} {f : Nat → Int32} (ha : S a = some (.inl (dA 0, n, .inl f))) (hA : A a) {i x : Int32} (hin : vp_in i n) (hdg : decode cc pc = .ok (.iastore, 1))
    (kk : ∀ (H1 : Heap) (locs1 : List Loc), gz_I D A H0 (gz_st S a (.inl (dA 0, n, .inl (upd f i.toNatClampNeg x)))) z H1 locs1 → W p l e R s m args below meth c H1 locs1 cells slots Q (F0 m (pc + 1) ls rest)) : W p l e R s m args below meth c H locs cells slots Q (F0 m pc ls (.int x :: .int i :: .ref a :: rest)) := by
  obtain ⟨⟨hx, hb, hml, hown, hts⟩, hK⟩ := G
  obtain ⟨hP, hS, hz⟩ := hI
  refine W.iast hx hb (hP a _ ha) ((hK.2 0 (dA 0, .int) rfl).1 n (fun j => .int (f j))) (fun q => by cases q) (by show ¬ (i < 0 ∨ (arrV _ _ _).slots.size ≤ _); rw [arrV_size]; exact hin) rfl rfl hdg fun H1 e z1 oq => ?_
  refine kk H1 _ ⟨hP.set ?_ oq, hS.put z1 oq hA, by rw [z1]; exact hz⟩
  show H1[a]? = some (vp_cell _ _)
  rw [e]
  rw [vp_cell_i, vp_cell_i, arrV_store]
  congr 2
  funext q
  by_cases hq : q = i.toNatClampNeg
  · subst hq
    simp [updV, upd]
  · simp [updV, upd, hq]
def gz_Pc (D : va_G) (dA : Nat → ClassId) (S : Nat → Option va_E) (z : Nat) (av : List Value) : Array Value → State → Prop := va_Pc av (fun U => gz_P D S U.heap ∧ U.heap.size = z ∧ va_K D gx_cl (gx_tys dA) U ∧ gz_O U)
def gz_Q (D : va_G) (A : Nat → Prop) (S : Nat → Option va_E) (z : Nat) : Array Value → State → Outcome → State → Prop := fun _ st oc t => oc = .returned none ∧ gz_P D S t.heap ∧ t.heap.size = z ∧ va_F A st t
theorem gz_pre {av : List Value} (G : gx_G p m c cc nL s args Ts own D dA) (hO : gz_O s) (hI : gz_I D A H0 S z H locs) : PreS s H (gz_Pc D dA S z av) av :=
  ⟨fun a U g mk q => by
    obtain ⟨q0, qP, qz, qK, qO⟩ := q
    exact ⟨q0, qP, qz, va_K.moved (u := U) (U := U.calling g mk a) (Vm.Alike.refl U.vm) qK, gz_O.moved (u := U) (U := U.calling g mk a) (Vm.Alike.refl U.vm) qO⟩, fun U hU hW => ⟨rfl, by rw [hU]; exact hI.1, by rw [hU]; exact hI.2.2, va_K.moved hW.alike G.2, hO.moved hW.alike⟩⟩
theorem gz_go {mc ms z' : Nat} {st0 : List Value} {a : Array Value} (hr : va_Run p l e R s m args below meth c H locs cells slots mc ms (F0 m pc ls st0) rest (gz_Q D A S' z' a) A) (hI : gz_I D A H0 S z H locs)
    (kk : ∀ (H1 : Heap) (locs1 : List Loc), gz_I D A H0 S' z' H1 locs1 → W p l e R s m args below meth c H1 locs1 (cells + mc) (slots + ms) Q (F0 m (pc + 3) ls rest)) : W p l e R s m args below meth c H locs cells slots Q (F0 m pc ls st0) := by
  intro T hT X
  obtain ⟨v', st₀, t, T', L, h0, X', hL, e1, e2, ⟨hv, hP, hz, hz2, hk⟩, st⟩ := hr T hT X
  cases hv
  rw [h0] at hz2 hk
  have hS := hI.2.1
  obtain ⟨t2, a1, b1⟩ := kk T'.heap (locs ++ L) ⟨by rw [e1]; exact hP, ⟨Nat.le_trans hS.1 (by rw [e1]; exact hz2), fun q h1 h2 => by rw [e1, hk q (Nat.lt_of_lt_of_le h1 hS.1) h2]; exact hS.2.1 q h1 h2, fun q hq => by
      rcases List.mem_append.mp hq with h | h
      · exact hS.2.2 q h
      · exact hL q h⟩, by rw [e1]; exact hz⟩ T' rfl X'
  exact ⟨t2, st t2 a1, b1⟩
theorem gz_F {a : Array Value} (hI : gz_I D A s.heap S z H locs) : ∀ t : State, t.heap = H → s.WarmedH t.vm → gz_Q D A S z a s (.returned none) t := fun t ht _ => ⟨rfl, by rw [ht]; exact hI.1, by rw [ht]; exact hI.2.2, hI.2.1.F ht⟩
end GZR

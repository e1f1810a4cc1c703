/-! THE WORLD: objects and arrays by numbers (0 .. 732), at addresses that never change; the ints in them are a memory -/
abbrev gx_M : Type := Nat → Nat → Int32
def gx_up (σ : gx_M) (o k : Nat) (v : Int32) : gx_M := fun a b => if a = o ∧ b = k then v else σ a b
/-- numbers: 0 board, 1 its queues' array, 2 .. 5 queues, 6 journal, 7 its pages' array, 8 .. 23 pages, 24 the roster, 25 .. 41 their jobs' arrays, 42 + 40 r + i the jobs, 722 the reference, 723 .. 732 its arrays -/
def gx_ci (o : Nat) : Option Nat := if o = 0 then some 0 else if o = 1 then none else if o < 6 then some 1 else if o = 6 then some 2 else if o = 7 then none else if o < 25 then some 3 else if o < 42 then none else if o < 722 then some 4 else if o = 722 then some 5 else none
def gx_N (ci : Nat) : Nat := match ci with
  | 0 => 6
  | 1 => 6
  | 2 => 2
  | 3 => 3
  | 4 => 14
  | _ => 16
/-- the fields that hold a reference, and to what -/
def gx_rf (o k : Nat) : Option Nat :=
  if o = 0 then (if k = 1 then some 1 else if k = 2 then some 24 else if k = 3 then some 6 else none)
  else if o = 6 then (if k = 0 then some 7 else none)
  else if o = 722 then (if 2 ≤ k ∧ k < 8 then some (721 + k) else if 12 ≤ k ∧ k < 16 then some (717 + k) else none)
  else if 8 ≤ o ∧ o < 25 then (if k = 0 then some (o + 17) else none)
  else none
def gx_fv (adr : Nat → Nat) (o k : Nat) (x : Int32) : Value := match gx_rf o k with
  | some q => .ref (adr q)
  | none => .int x
def gx_ta (o : Nat) : Nat := if o = 1 then 2 else if o = 7 then 3 else if o < 42 then 4 else if o = 732 then 1 else 0
def gx_len (o : Nat) : Nat := if o = 1 then 4 else if o = 7 then 16 else if o < 42 then 40 else if o < 729 then 4 else if o = 729 then 520 else if o = 730 then 8320 else if o = 731 then 16 else 40
def gx_el (o i : Nat) : Nat := if o = 1 then 2 + i else if o = 7 then 8 + i else 42 + 40 * (o - 25) + i
def gx_cell (dA : Nat → ClassId) (adr : Nat → Nat) (o : Nat) (r : Nat → Int32) : va_E := match gx_ci o with
  | some ci => .inr (ci, (List.range (gx_N ci)).map (fun k => gx_fv adr o k (r k)))
  | none => if o < 722 then .inl (dA (gx_ta o), gx_len o, .inr (.inr (.inr (.inr (fun i => some (adr (gx_el o i))))))) else .inl (dA (gx_ta o), gx_len o, .inl r)
def gx_ws (dA : Nat → ClassId) (adr : Nat → Nat) (σ : gx_M) : va_W := (List.range 733).map (fun o => (adr o, gx_cell dA adr o (σ o)))
def gx_A (A : Nat → Prop) (adr : Nat → Nat) : Prop := (∀ i j, i < 733 → j < 733 → adr i = adr j → i = j) ∧ ∀ o, o < 733 → A (adr o)
def gx_tys (dA : Nat → ClassId) : List (ClassId × FieldType) := [(dA 0, .int), (dA 1, .boolean), (dA 2, .object R_Qu), (dA 3, .object R_Ro), (dA 4, .object R_Jb)]
theorem gx_ws_at {dA : Nat → ClassId} {adr : Nat → Nat} {σ : gx_M} {o : Nat} (h : o < 733) : (gx_ws dA adr σ)[o]? = some (adr o, gx_cell dA adr o (σ o)) := by
  simp [gx_ws, h]
theorem gx_ws_in {dA : Nat → ClassId} {adr : Nat → Nat} {σ : gx_M} {o : Nat} {q : Nat × va_E} (h : (gx_ws dA adr σ)[o]? = some q) : o < 733 ∧ q = (adr o, gx_cell dA adr o (σ o)) := by
  have hl : o < 733 := by
    have := (List.getElem?_eq_some_iff.mp h).1
    simpa [gx_ws] using this
  rw [gx_ws_at hl] at h
  exact ⟨hl, (Option.some.inj h).symm⟩
theorem gx_ws_set {dA : Nat → ClassId} {adr : Nat → Nat} {σ σ' : gx_M} {o : Nat} {e : va_E} (h : o < 733) (he : e = gx_cell dA adr o (σ' o)) (hn : ∀ a, a ≠ o → σ' a = σ a) : (gx_ws dA adr σ).set o (adr o, e) = gx_ws dA adr σ' := by
  refine List.ext_getElem? fun i => ?_
  by_cases hi : i = o
  · subst hi
    rw [List.getElem?_set_self (by simpa [gx_ws] using h), gx_ws_at h, he]
  · rw [List.getElem?_set_ne (Ne.symm hi)]
    simp [gx_ws, List.getElem?_map]
    rcases hr : (List.range 733)[i]? with _ | j
    · rfl
    · have : j = i := by
        have := List.getElem?_eq_some_iff.mp hr
        obtain ⟨h1, h2⟩ := this
        simpa using h2.symm
      subst this
      simp [hn j hi]
theorem gx_D {dA : Nat → ClassId} {A : Nat → Prop} {adr : Nat → Nat} (h : gx_A A adr) (σ : gx_M) : va_D A (gx_ws dA adr σ) := by
  refine ⟨fun i j p q hi hj hpq => ?_, fun k q hk => ?_⟩
  · obtain ⟨h1, rfl⟩ := gx_ws_in hi
    obtain ⟨h2, rfl⟩ := gx_ws_in hj
    exact h.1 i j h1 h2 hpq
  · obtain ⟨h1, rfl⟩ := gx_ws_in hk
    exact h.2 k h1
theorem gx_ci_lt {o ci : Nat} (h : gx_ci o = some ci) : o < 733 := by
  unfold gx_ci at h
  by_cases h1 : o < 733
  · exact h1
  · rw [if_neg (by omega), if_neg (by omega), if_neg (by omega), if_neg (by omega), if_neg (by omega), if_neg (by omega), if_neg (by omega), if_neg (by omega), if_neg (by omega)] at h
    cases h
theorem gx_ci_q {o : Nat} (h : 2 ≤ o ∧ o < 6) : gx_ci o = some 1 := by
  unfold gx_ci
  rw [if_neg (by omega), if_neg (by omega), if_pos (by omega)]
theorem gx_ci_r {o : Nat} (h : 8 ≤ o ∧ o < 25) : gx_ci o = some 3 := by
  unfold gx_ci
  rw [if_neg (by omega), if_neg (by omega), if_neg (by omega), if_neg (by omega), if_neg (by omega), if_pos (by omega)]
theorem gx_ci_j {o : Nat} (h : 42 ≤ o ∧ o < 722) : gx_ci o = some 4 := by
  unfold gx_ci
  rw [if_neg (by omega), if_neg (by omega), if_neg (by omega), if_neg (by omega), if_neg (by omega), if_neg (by omega), if_neg (by omega), if_pos (by omega)]
theorem gx_ci_a {o : Nat} (h : 25 ≤ o ∧ o < 42) : gx_ci o = none := by
  unfold gx_ci
  rw [if_neg (by omega), if_neg (by omega), if_neg (by omega), if_neg (by omega), if_neg (by omega), if_neg (by omega), if_pos (by omega)]
theorem gx_rf_q {o : Nat} (h : 2 ≤ o ∧ o < 6) (k : Nat) : gx_rf o k = none := by
  unfold gx_rf
  rw [if_neg (by omega), if_neg (by omega), if_neg (by omega), if_neg (by omega)]
theorem gx_rf_j {o : Nat} (h : 42 ≤ o ∧ o < 722) (k : Nat) : gx_rf o k = none := by
  unfold gx_rf
  rw [if_neg (by omega), if_neg (by omega), if_neg (by omega), if_neg (by omega)]
theorem gx_rf_r0 {o : Nat} (h : 8 ≤ o ∧ o < 25) : gx_rf o 0 = some (o + 17) := by
  unfold gx_rf
  rw [if_neg (by omega), if_neg (by omega), if_neg (by omega), if_pos (by omega), if_pos rfl]
theorem gx_rf_r {o : Nat} (h : 8 ≤ o ∧ o < 25) {k : Nat} (hk : k ≠ 0) : gx_rf o k = none := by
  unfold gx_rf
  rw [if_neg (by omega), if_neg (by omega), if_neg (by omega), if_pos (by omega), if_neg hk]
theorem gx_cell_o {dA : Nat → ClassId} {adr : Nat → Nat} {o ci : Nat} {r : Nat → Int32} (h : gx_ci o = some ci) : gx_cell dA adr o r = .inr (ci, (List.range (gx_N ci)).map (fun k => gx_fv adr o k (r k))) := by
  unfold gx_cell
  rw [h]
theorem gx_cell_r {dA : Nat → ClassId} {adr : Nat → Nat} {o : Nat} {r : Nat → Int32} (h : gx_ci o = none) (ho : o < 722) : gx_cell dA adr o r = .inl (dA (gx_ta o), gx_len o, .inr (.inr (.inr (.inr (fun i => some (adr (gx_el o i))))))) := by
  unfold gx_cell
  rw [h]
  exact if_pos ho
theorem gx_cell_i {dA : Nat → ClassId} {adr : Nat → Nat} {o : Nat} {r : Nat → Int32} (h : gx_ci o = none) (ho : ¬ o < 722) : gx_cell dA adr o r = .inl (dA (gx_ta o), gx_len o, .inl r) := by
  unfold gx_cell
  rw [h]
  exact if_neg ho
theorem gx_fs_at {adr : Nat → Nat} {o n k : Nat} {r : Nat → Int32} (h : k < n) : ((List.range n).map (fun k => gx_fv adr o k (r k)))[k]? = some (gx_fv adr o k (r k)) := by
  simp [h]
theorem gx_fs_set {adr : Nat → Nat} {o n k : Nat} {r : Nat → Int32} {v : Int32} (hrf : gx_rf o k = none) : ((List.range n).map (fun k => gx_fv adr o k (r k))).set k (.int v) = (List.range n).map (fun j => gx_fv adr o j (upd r k v j)) := by
  refine List.ext_getElem? fun i => ?_
  by_cases hi : i = k
  · subst hi
    by_cases hn : i < n
    · rw [List.getElem?_set_self (by simpa using hn)]
      simp [hn, gx_fv, hrf, upd]
    · simp [hn]
  · rw [List.getElem?_set_ne (Ne.symm hi)]
    by_cases hn : i < n
    · simp [hn, upd, hi]
    · simp [hn]
theorem gx_up_row {σ : gx_M} {o k : Nat} {v : Int32} : gx_up σ o k v o = upd (σ o) k v := by
  funext j
  simp [gx_up, upd]
theorem gx_up_ne {σ : gx_M} {o k : Nat} {v : Int32} (a : Nat) (h : a ≠ o) : gx_up σ o k v a = σ a := by
  funext j
  simp [gx_up, h]
/-- how the pure functions are opened: a test, a name, a call -/
theorem gx_gd {α : Type} {c : Prop} [Decidable c] {x : Option α} {y : α} (h : (if c then x else none) = some y) : c ∧ x = some y := by
  by_cases hc : c
  · exact ⟨hc, by rwa [if_pos hc] at h⟩
  · rw [if_neg hc] at h; cases h
def gx_lt {α β : Type} (x : α) (k : α → β) : β := k x
theorem gx_lte {α β : Type} {x : α} {k : α → β} {y : β} (h : gx_lt x k = y) : ∃ z, z = x ∧ k z = y := ⟨x, rfl, h⟩
def gx_bd {α β γ : Type} (x : Option (α × β)) (k : α → β → Option γ) : Option γ := match x with
  | some q => k q.1 q.2
  | none => none
theorem gx_bde {α β γ : Type} {x : Option (α × β)} {k : α → β → Option γ} {y : γ} (h : gx_bd x k = some y) : ∃ a b, x = some (a, b) ∧ k a b = some y := by
  cases x with
  | none => cases h
  | some q => exact ⟨q.1, q.2, rfl, h⟩
def gx_bv {β γ : Type} (x : Option β) (k : β → Option γ) : Option γ := match x with
  | some q => k q
  | none => none
theorem gx_bve {β γ : Type} {x : Option β} {k : β → Option γ} {y : γ} (h : gx_bv x k = some y) : ∃ b, x = some b ∧ k b = some y := by
  cases x with
  | none => cases h
  | some q => exact ⟨q, rfl, h⟩
theorem gx_in {i M : Int32} {n : Nat} (h : 0 ≤ i ∧ i < M) (hM : M.toInt = n) : vp_in i n := by
  have h1 := Int32.le_iff_toInt_le.mp h.1
  have h2 := Int32.lt_iff_toInt_lt.mp h.2
  rw [hM] at h2
  exact vp_in_iff.mpr ⟨by simpa using h1, h2⟩
theorem gx_cl_lt {i M : Int32} {n : Nat} (h : 0 ≤ i ∧ i < M) (hM : M.toInt = n) : i.toNatClampNeg < n := Nat.not_le.mp fun q => gx_in h hM (Or.inr q)
def gx_mt {β : Type} (x : Option Nat) (a : β) (f : Nat → β) : β := match x with
  | none => a
  | some o => f o
theorem gx_mtn {β : Type} {a y : β} {f : Nat → β} (h : gx_mt none a f = y) : a = y := h
theorem gx_mts {β : Type} {a y : β} {f : Nat → β} {o : Nat} (h : gx_mt (some o) a f = y) : f o = y := h
theorem gx_el_q {i : Int32} (h : 0 ≤ i ∧ i < 4) : 2 ≤ gx_el 1 i.toNatClampNeg ∧ gx_el 1 i.toNatClampNeg < 6 := by
  have := gx_cl_lt (n := 4) h (by decide)
  unfold gx_el
  rw [if_pos rfl]
  omega
theorem gx_el_p {i : Int32} (h : 0 ≤ i ∧ i < 16) : 8 ≤ gx_el 7 i.toNatClampNeg ∧ gx_el 7 i.toNatClampNeg < 25 := by
  have := gx_cl_lt (n := 16) h (by decide)
  unfold gx_el
  rw [if_neg (by decide), if_pos rfl]
  omega
theorem gx_el_j {o : Nat} (ho : 8 ≤ o ∧ o < 25) {i : Int32} (h : 0 ≤ i ∧ i < 40) : 42 ≤ gx_el (o + 17) i.toNatClampNeg ∧ gx_el (o + 17) i.toNatClampNeg < 722 := by
  have := gx_cl_lt (n := 40) h (by decide)
  unfold gx_el
  rw [if_neg (by omega), if_neg (by omega)]
  omega
theorem gx_nb {v : Int32} (h : v = 0 ∨ v = 1) : narrow .boolean (.int v) = .int v := by
  rcases h with rfl | rfl <;> decide
theorem gx_fb {v : Int32} (h : v = 0 ∨ v = 1) : fits .boolean (.int v) = true := by
  rcases h with rfl | rfl <;> decide
theorem gx_sw8 {x : Int32} (a : ¬ x = 8) (b : ¬ x = 9) (c : ¬ x = 10) : x.toInt < 8 ∨ 10 < x.toInt := by
  have ha : ¬ x.toInt = 8 := fun h => a (Int32.toInt_inj.mp h)
  have hb : ¬ x.toInt = 9 := fun h => b (Int32.toInt_inj.mp h)
  have hc : ¬ x.toInt = 10 := fun h => c (Int32.toInt_inj.mp h)
  omega
theorem gx_cat (x : Option Nat) : (va_rf x).category = 1 := by
  cases x <;> rfl
theorem gx_rfs (a : Nat) : va_rf (some a) = .ref a := rfl
theorem gx_rfn : va_rf none = .null := rfl

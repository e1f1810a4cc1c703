theorem gk_nat {x : Int32} (h : 0 ≤ x.toInt) : x = nI x.toInt.toNat := by
  have hb : x.toInt < 2147483648 := Int32.toInt_lt x
  rw [gp_eq, gp_nI (by omega)]
  omega
theorem gk_succ {a D : Nat} (h : 0 < D) : (a + 1) / D = a / D + (if (a + 1) % D = 0 then 1 else 0) := by
  have h1 : D * (a / D) + a % D = a := Nat.div_add_mod a D
  have h2 : a % D < D := Nat.mod_lt a h
  generalize a / D = q at h1 ⊢
  generalize a % D = r at h1 h2
  by_cases hr : r + 1 < D
  · have e : a + 1 = D * q + (r + 1) := by omega
    rw [e, Nat.mul_add_div h, Nat.div_eq_of_lt hr, Nat.mul_add_mod, Nat.mod_eq_of_lt hr, if_neg (by omega)]
  · have e : a + 1 = D * (q + 1) := by rw [Nat.mul_add]; omega
    rw [e, Nat.mul_div_cancel_left _ h, Nat.mul_mod_right, if_pos rfl]
def gk_tok (c t D A m : Nat) : Nat := min c (t + ((A + m) / D - A / D))
theorem gk_tok_0 {c t D A : Nat} (h : t ≤ c) : gk_tok c t D A 0 = t := by
  unfold gk_tok
  rw [Nat.add_zero, Nat.sub_self]
  omega
theorem gk_tok_s {c t D A m : Nat} (hD : 0 < D) : gk_tok c t D A (m + 1) = if (A + m + 1) % D = 0 ∧ gk_tok c t D A m < c then gk_tok c t D A m + 1 else gk_tok c t D A m := by
  unfold gk_tok
  have h1 := gk_succ (a := A + m) hD
  have h2 : A / D ≤ (A + m) / D := Nat.div_le_div_right (by omega)
  rw [show A + (m + 1) = A + m + 1 by omega]
  generalize (A + m + 1) / D = X at h1
  generalize (A + m) / D = Y at h1 h2
  generalize A / D = Z at h2
  by_cases hm : (A + m + 1) % D = 0
  · rw [if_pos hm] at h1
    by_cases hc : min c (t + (Y - Z)) < c
    · rw [if_pos ⟨hm, hc⟩]
      omega
    · rw [if_neg (fun h => hc h.2)]
      omega
  · rw [if_neg hm] at h1
    rw [if_neg (fun h => hm h.1), show X = Y by omega]
theorem gk_tok_c {c t D A m : Nat} : gk_tok c t D A m ≤ c := by
  unfold gk_tok
  omega
/-! the reference: one step of time -/
def gk_z (τ : gx_M) (g : Nat → Nat) (v : Nat) : gx_M := fun o k => if o = 726 ∧ v ≤ k ∧ k < 4 then nI (g k) else τ o k
theorem gk_z4 {τ : gx_M} {g : Nat → Nat} : gk_z τ g 4 = τ := by
  funext o k
  exact if_neg (by omega)
theorem gk_zs {τ : gx_M} {g : Nat → Nat} {v : Nat} (hv : v < 4) : gk_z (gx_up τ 726 v (nI (g v))) g (v + 1) = gk_z τ g v := by
  funext o k
  unfold gk_z
  by_cases h : o = 726 ∧ v ≤ k ∧ k < 4
  · rw [if_pos h]
    by_cases hk : k = v
    · obtain ⟨rfl, -⟩ := h
      subst hk
      rw [if_neg (by omega), gp_us]
    · rw [if_pos (by omega)]
  · rw [if_neg h, if_neg (by omega), gp_un (by omega)]
theorem gk_zt {τ : gx_M} {g : Nat → Nat} {v : Nat} (hv : v < 4) (h : τ 726 v = nI (g v)) : gk_z τ g (v + 1) = gk_z τ g v := by
  rw [← gk_zs hv, ← h]
  congr 1
  funext o k
  by_cases ho : o = 726 ∧ k = v
  · obtain ⟨rfl, rfl⟩ := ho
    rw [gp_us]
  · rw [gp_un ho]
theorem gk_inner {N : Nat} {u2 u1 : Int32} {k16 : Int32 → gx_M → Option (Int32 × gx_M)} {c s D t : Nat → Nat} {a : Nat} (ha : a ≤ 1000000) (hb : ∀ q, q < 4 → s q ≤ a ∧ 1 ≤ D q ∧ D q ≤ 50 ∧ c q ≤ 20 ∧ t q ≤ c q) : ∀ (k v f : Nat) (τ : gx_M), v + k = 4 → k < f → τ 722 1 = nI a → (∀ q, q < 4 → τ 725 q = nI (c q) ∧ τ 727 q = nI (D q) ∧ τ 728 q = nI (s q) ∧ (v ≤ q → τ 726 q = nI (t q))) → fn_Mo_tick_L33 N u2 u1 k16 f (nI v) τ = k16 (u2 + 1) (gk_z τ (fun q => if (a - s q) % D q = 0 ∧ t q < c q then t q + 1 else t q) v) := by
  intro k
  induction k with
  | zero =>
    intro v f τ hv hf h1 h2
    obtain ⟨f, rfl⟩ : ∃ z, f = z + 1 := ⟨f - 1, by omega⟩
    obtain rfl : v = 4 := by omega
    rw [fn_Mo_tick_L33, if_pos (show (4 : Int32) ≤ nI 4 by decide), gk_z4]
  | succ k ih =>
    intro v f τ hv hf h1 h2
    obtain ⟨f, rfl⟩ : ∃ z, f = z + 1 := ⟨f - 1, by omega⟩
    have hv4 : v < 4 := by omega
    have hin := gp_in (i := v) (n := 4) (M := 4) hv4 (by decide) (by decide)
    have h4 : ¬ (4 : Int32) ≤ nI v := by rw [gp_le, gp_t4, gp_nI (by omega)]; omega
    obtain ⟨e1, e2, e3, e4⟩ := h2 v hv4
    obtain ⟨b1, b2, b3, b4, b5⟩ := hb v hv4
    have e4 := e4 (Nat.le_refl _)
    have hD0 : ¬ nI (D v) = 0 := by rw [gp_eq, gp_nI (by omega), gp_t0]; omega
    have same := ih (v + 1) f τ (by omega) (by omega) h1 (fun q hq => ⟨(h2 q hq).1, (h2 q hq).2.1, (h2 q hq).2.2.1, fun hvq => (h2 q hq).2.2.2 (by omega)⟩)
    rw [fn_Mo_tick_L33, if_neg h4]
    simp only [if_pos hin, gp_cl (show v < 2147483648 by omega), h1, e1, e2, e3, e4]
    have hr : nI a - nI (s v) - (nI a - nI (s v)) / nI (D v) * nI (D v) = nI ((a - s v) % D v) := by
      rw [pk_sub b1]
      exact pk_rem (by omega) (by omega) (by omega)
    have hml : (a - s v) % D v < D v := Nat.mod_lt _ (by omega)
    rw [if_pos hD0, hr]
    by_cases m0 : (a - s v) % D v = 0
    · rw [if_pos (show nI ((a - s v) % D v) = 0 by rw [m0]; rfl)]
      by_cases ct : c v ≤ t v
      · rw [if_pos (show nI (c v) ≤ nI (t v) by rw [gp_ge (by omega) (by omega)]; exact ct), gp_s, same, gk_zt hv4]
        show τ 726 v = nI (if (a - s v) % D v = 0 ∧ t v < c v then t v + 1 else t v)
        rw [if_neg (by omega)]
        exact e4
      · have hz := gk_zs (τ := τ) (g := fun q => if (a - s q) % D q = 0 ∧ t q < c q then t q + 1 else t q) hv4
        have hg : (if (a - s v) % D v = 0 ∧ t v < c v then t v + 1 else t v) = t v + 1 := if_pos ⟨m0, by omega⟩
        simp only [hg] at hz
        rw [if_neg (show ¬ nI (c v) ≤ nI (t v) by rw [gp_ge (by omega) (by omega)]; exact ct), gp_lt', gp_s, gp_s, ← hz]
        refine ih (v + 1) f _ (by omega) (by omega) ((gp_un (by omega)).trans h1) (fun q hq => ⟨(gp_un (by omega)).trans (h2 q hq).1, (gp_un (by omega)).trans (h2 q hq).2.1, (gp_un (by omega)).trans (h2 q hq).2.2.1, fun hvq => (gp_un (by omega)).trans ((h2 q hq).2.2.2 (by omega))⟩)
    · rw [if_neg (show ¬ nI ((a - s v) % D v) = 0 by rw [gp_eq, gp_nI (by omega), gp_t0]; omega), gp_s, same, gk_zt hv4]
      show τ 726 v = nI (if (a - s v) % D v = 0 ∧ t v < c v then t v + 1 else t v)
      rw [if_neg (fun h => m0 h.1)]
      exact e4
def gk_y (τ : gx_M) (A : Int32) (G : Nat → Nat) : gx_M := fun o k => if o = 722 ∧ k = 1 then A else if o = 726 ∧ k < 4 then nI (G k) else τ o k
theorem gk_y_n {τ : gx_M} {A : Int32} {G : Nat → Nat} {o k : Nat} (h1 : ¬ (o = 722 ∧ k = 1)) (h2 : ¬ (o = 726 ∧ k < 4)) : gk_y τ A G o k = τ o k := by
  unfold gk_y
  rw [if_neg h1, if_neg h2]
theorem gk_y_1 {τ : gx_M} {A : Int32} {G : Nat → Nat} : gk_y τ A G 722 1 = A := if_pos ⟨rfl, rfl⟩
theorem gk_y_6 {τ : gx_M} {A : Int32} {G : Nat → Nat} {q : Nat} (hq : q < 4) : gk_y τ A G 726 q = nI (G q) := by
  unfold gk_y
  rw [if_neg (by omega), if_pos ⟨rfl, hq⟩]
theorem gk_outer {N p a : Nat} {τ : gx_M} {c s D t : Nat → Nat} (hN : 10 < N) (ha : a + p ≤ 1000000) (H : ∀ q, q < 4 → (τ 725 q = nI (c q) ∧ τ 727 q = nI (D q) ∧ τ 728 q = nI (s q)) ∧ s q ≤ a ∧ 1 ≤ D q ∧ D q ≤ 50 ∧ c q ≤ 20 ∧ t q ≤ c q) : ∀ (k v f : Nat), v + k = p → k < f → fn_Mo_tick_L16 N (nI p) f (nI v) (gk_y τ (nI (a + v)) (fun q => gk_tok (c q) (t q) (D q) (a - s q) v)) = gx_bd (fn_Mo_wake N ((0 : Int32)) (gk_y τ (nI (a + p)) (fun q => gk_tok (c q) (t q) (D q) (a - s q) p))) (fun r_8 σ_6 => if r_8 ≤ 0 then (some (r_8, σ_6)) else (gx_bv (fn_Mo_note N σ_6) (fun σ_10 => some (r_8, σ_10)))) := by
  intro k
  induction k with
  | zero =>
    intro v f hv hf
    obtain ⟨f, rfl⟩ : ∃ z, f = z + 1 := ⟨f - 1, by omega⟩
    obtain rfl : v = p := by omega
    rw [fn_Mo_tick_L16, if_pos (gp_le.mpr (Int.le_refl _))]
  | succ k ih =>
    intro v f hv hf
    obtain ⟨f, rfl⟩ : ∃ z, f = z + 1 := ⟨f - 1, by omega⟩
    rw [fn_Mo_tick_L16, if_neg (by rw [gp_ge (by omega) (by omega)]; omega), gp_lt', gk_y_1, gp_s, show fn_Mo_tick_L33 N (nI v) (nI p) (fn_Mo_tick_L16 N (nI p) f) N 0 _ = _ from gk_inner (c := c) (s := s) (D := D) (t := fun q => gk_tok (c q) (t q) (D q) (a - s q) v) (a := a + v + 1) (by omega) (fun q hq => ⟨by have := (H q hq).2; omega, (H q hq).2.2.1, (H q hq).2.2.2.1, (H q hq).2.2.2.2.1, gk_tok_c⟩) 4 0 N _ (by omega) (by omega) gp_us (fun q hq => ⟨((gp_un (by omega)).trans (gk_y_n (by omega) (by omega))).trans (H q hq).1.1, ((gp_un (by omega)).trans (gk_y_n (by omega) (by omega))).trans (H q hq).1.2.1, ((gp_un (by omega)).trans (gk_y_n (by omega) (by omega))).trans (H q hq).1.2.2, fun _ => (gp_un (by omega)).trans (gk_y_6 hq)⟩), gp_s]
    rw [← ih (v + 1) f (by omega) (by omega)]
    congr 1
    funext o k
    by_cases h1 : o = 722 ∧ k = 1
    · obtain ⟨rfl, rfl⟩ := h1
      unfold gk_z
      rw [if_neg (by omega), gp_us, gk_y_1]
      rfl
    · by_cases h2 : o = 726 ∧ k < 4
      · obtain ⟨rfl, h2⟩ := h2
        have hH := H k h2
        unfold gk_z
        rw [if_pos ⟨rfl, by omega, h2⟩, gk_y_6 h2, gk_tok_s (by omega)]
        dsimp only
        rw [show a + v + 1 - s k = a - s k + v + 1 by omega]
      · unfold gk_z
        rw [if_neg (by omega), gp_un h1, gk_y_n h1 h2, gk_y_n h1 h2]

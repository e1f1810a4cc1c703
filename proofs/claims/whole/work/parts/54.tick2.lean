/-! the class: all steps at once -/
def gk_x (σ : gx_M) (g : Nat → Nat) (v : Nat) : gx_M := fun o k => if (2 + v ≤ o ∧ o < 6) ∧ k = 3 then nI (g (o - 2)) else σ o k
theorem gk_x_n {σ : gx_M} {g : Nat → Nat} {v o k : Nat} (h : ¬ ((2 + v ≤ o ∧ o < 6) ∧ k = 3)) : gk_x σ g v o k = σ o k := if_neg h
theorem gk_x_3 {σ : gx_M} {g : Nat → Nat} {q : Nat} (hq : q < 4) : gk_x σ g 0 (2 + q) 3 = nI (g q) := by
  unfold gk_x
  rw [if_pos (by omega), show 2 + q - 2 = q by omega]
theorem gk_x4 {σ : gx_M} {g : Nat → Nat} : gk_x σ g 4 = σ := by
  funext o k
  exact if_neg (by omega)
theorem gk_xs {σ : gx_M} {g : Nat → Nat} {v : Nat} (hv : v < 4) : gk_x (gx_up σ (2 + v) 3 (nI (g v))) g (v + 1) = gk_x σ g v := by
  funext o k
  unfold gk_x
  by_cases h : (2 + v ≤ o ∧ o < 6) ∧ k = 3
  · rw [if_pos h]
    by_cases ho : o = 2 + v
    · obtain ⟨-, rfl⟩ := h
      subst ho
      rw [if_neg (by omega), gp_us, show 2 + v - 2 = v by omega]
    · rw [if_pos (by omega)]
  · rw [if_neg h, if_neg (by omega), gp_un (by omega)]
theorem gk_class {N p a : Nat} {c s D t : Nat → Nat} (ha : a + p ≤ 1000000) (hb : ∀ q, q < 4 → s q ≤ a ∧ 1 ≤ D q ∧ D q ≤ 50 ∧ c q ≤ 20 ∧ t q ≤ c q) : ∀ (k v f : Nat) (σ : gx_M), v + k = 4 → k < f → σ 0 4 = nI a → (∀ q, q < 4 → σ (2 + q) 2 = nI (c q) ∧ σ (2 + q) 4 = nI (D q) ∧ σ (2 + q) 5 = nI (s q) ∧ (v ≤ q → σ (2 + q) 3 = nI (t q))) → fn_Bo_tick_L15 N (nI p) f (nI v) σ = gx_bd (fn_Ro_settleDue N 24 (nI (a + p)) (gx_up (gk_x σ (fun q => gk_tok (c q) (t q) (D q) (a - s q) p) v) 0 4 (nI (a + p)))) (fun r_9 σ_7 => if r_9 ≤ 0 then (some (r_9, σ_7)) else (gx_bv (fn_Jn_write N 24 σ_7) (fun σ_11 => some (r_9, σ_11)))) := by
  intro k
  induction k with
  | zero =>
    intro v f σ hv hf h1 h2
    obtain ⟨f, rfl⟩ : ∃ z, f = z + 1 := ⟨f - 1, by omega⟩
    obtain rfl : v = 4 := by omega
    rw [fn_Bo_tick_L15, if_pos (show (4 : Int32) ≤ nI 4 by decide), gp_lt', gp_us, gk_x4, h1, nI_add]
  | succ k ih =>
    intro v f σ hv hf h1 h2
    obtain ⟨f, rfl⟩ : ∃ z, f = z + 1 := ⟨f - 1, by omega⟩
    have hv4 : v < 4 := by omega
    have hin := gp_in (i := v) (n := 4) (M := 4) hv4 (by decide) (by decide)
    have h4 : ¬ (4 : Int32) ≤ nI v := by rw [gp_le, gp_t4, gp_nI (by omega)]; omega
    obtain ⟨e1, e2, e3, e4⟩ := h2 v hv4
    obtain ⟨b1, b2, b3, b4, b5⟩ := hb v hv4
    have e4 := e4 (Nat.le_refl _)
    have hD0 : ¬ nI (D v) = 0 := by rw [gp_eq, gp_nI (by omega), gp_t0]; omega
    have hdl : (a - s v) / D v ≤ (a - s v + p) / D v := Nat.div_le_div_right (by omega)
    have hdm : (a - s v + p) / D v ≤ a - s v + p := Nat.div_le_self _ _
    have hval : nI (t v) + ((nI a + nI p - nI (s v)) / nI (D v) - (nI a - nI (s v)) / nI (D v)) = nI (t v + ((a - s v + p) / D v - (a - s v) / D v)) := by
      rw [nI_add, pk_sub (show s v ≤ a + p by omega), pk_sub b1, pk_div (by omega) (by omega) (by omega), pk_div (by omega) (by omega) (by omega), show a + p - s v = a - s v + p by omega, pk_sub hdl, nI_add]
    have hmin : (if nI (t v + ((a - s v + p) / D v - (a - s v) / D v)) < nI (c v) then nI (t v + ((a - s v + p) / D v - (a - s v) / D v)) else nI (c v)) = nI (gk_tok (c v) (t v) (D v) (a - s v) p) := by
      unfold gk_tok
      generalize (a - s v + p) / D v = Y at hdl hdm
      generalize (a - s v) / D v = Z at hdl
      by_cases h : t v + (Y - Z) < c v
      · rw [if_pos (by rw [gp_lt, gp_nI (by omega), gp_nI (by omega)]; omega), Nat.min_eq_right (by omega)]
      · rw [if_neg (by rw [gp_lt, gp_nI (by omega), gp_nI (by omega)]; omega), Nat.min_eq_left (by omega)]
    rw [fn_Bo_tick_L15, if_neg h4, if_pos hin, gp_elq hv4]
    unfold fn_Qu_refillBetween
    rw [if_pos (show 2 ≤ 2 + v ∧ 2 + v < 6 by omega), e2, if_pos hD0, if_pos hD0, gp_lt', gp_bv, e1, e3, e4, h1, hval, hmin, gp_s]
    have hx := gk_xs (σ := σ) (g := fun q => gk_tok (c q) (t q) (D q) (a - s q) p) hv4
    rw [← hx]
    refine ih (v + 1) f _ (by omega) (by omega) ((gp_un (by omega)).trans h1) (fun q hq => ⟨(gp_un (by omega)).trans (h2 q hq).1, (gp_un (by omega)).trans (h2 q hq).2.1, (gp_un (by omega)).trans (h2 q hq).2.2.1, fun hvq => (gp_un (by omega)).trans ((h2 q hq).2.2.2 (by omega))⟩)
/-! nothing seen -/
def gk_r (τ : gx_M) (v : Nat) : gx_M := fun o k => if o = 732 ∧ v ≤ k ∧ k < 40 then 0 else τ o k
theorem gk_r_n {τ : gx_M} {v o k : Nat} (h : ¬ (o = 732 ∧ v ≤ k ∧ k < 40)) : gk_r τ v o k = τ o k := if_neg h
theorem gk_wake {N : Nat} {u2 u1 : Int32} : ∀ (k v f : Nat) (τ : gx_M), v + k = 40 → k < f → fn_Mo_wake_L4 N u2 u1 f (nI v) τ = fn_Mo_wake_L25 N u1 N 0 u2 (gk_r τ v) := by
  intro k
  induction k with
  | zero =>
    intro v f τ hv hf
    obtain ⟨f, rfl⟩ : ∃ z, f = z + 1 := ⟨f - 1, by omega⟩
    obtain rfl : v = 40 := by omega
    rw [fn_Mo_wake_L4, if_pos (show (40 : Int32) ≤ nI 40 by decide)]
    congr 1
    funext o k
    exact (gk_r_n (by omega)).symm
  | succ k ih =>
    intro v f τ hv hf
    obtain ⟨f, rfl⟩ : ∃ z, f = z + 1 := ⟨f - 1, by omega⟩
    have hin := gp_in (i := v) (n := 40) (M := 40) (by omega) (by decide) (by decide)
    rw [fn_Mo_wake_L4, if_neg (by rw [show (40 : Int32) = nI 40 from rfl, gp_ge (by omega) (by omega)]; omega), if_pos hin, gp_lt', gp_s, gp_cl (by omega), ih (v + 1) f _ (by omega) (by omega)]
    congr 1
    funext o k
    unfold gk_r
    by_cases h : o = 732 ∧ v ≤ k ∧ k < 40
    · rw [if_pos h]
      by_cases hk : k = v
      · obtain ⟨rfl, -⟩ := h
        subst hk
        rw [if_neg (by omega), gp_us]
      · rw [if_pos (by omega)]
    · rw [if_neg h, if_neg (by omega), gp_un (by omega)]
theorem gk_rH {K T : Int} {σ0 τ0 σ τ : gx_M} {n u : Nat} (hH : gr_H K T σ0 τ0 n u σ τ) : gr_H K T σ0 τ0 n u σ (gk_r τ 0) := by
  obtain ⟨hW, hV, hT, hst, hod, hK⟩ := id hH.2.1
  have e : gk_r τ 0 722 10 = τ 722 10 := gk_r_n (by omega)
  refine hH.step ⟨hW, ⟨(gk_r_n (by omega)).trans hV.1, hV.2⟩, ?_, hst, by rw [e]; exact hod, hK⟩ (Int.le_refl _) gr_Ac.rf ⟨fun o k h1 h2 h3 => gk_r_n (by omega), by rw [e]; exact Int.le_refl _⟩
  rw [e]
  exact hT.congr (fun i hi k hk => rfl) (fun i hi f hf => gk_r_n (by omega))
/-- what is due, in both -/
theorem gk_settle {N : Nat} {K T : Int} {σ0 τ0 σ τ : gx_M} {n u : Nat} {w : Int32} (hH : gr_H K T σ0 τ0 n u σ τ) (hN : 50 < N) (hK : K ≤ 300000) (hT : T ≤ 1000000) (hw : w = 0 ∨ ∀ i, i < n → ¬ σ (682 + i) 10 = 2) : ∃ (d : Nat) (σ' τ' : gx_M), d ≤ 40 ∧ fn_Ro_settleDue N 24 (σ 0 4) σ = some (nI d, σ') ∧ fn_Mo_wake N w τ = some (nI d, τ') ∧ gr_H (K + 80) T σ0 τ0 n u σ' τ' ∧ (d = 0 → σ' = σ) := by
  have h40 := hH.2.1.1.2
  have hH2 := gk_rH hH
  obtain ⟨s1, s2, s3, s4⟩ := id hH.2.2.2.2.2.2
  have hd : gp_cn (gp_tP σ (σ 0 4)) n 0 0 ≤ 0 + n := gp_cn_le.2
  obtain ⟨σ', τ', e1, e2, hM, hc, hm, h0⟩ := gr_settle (N := N) (n := n) (t := σ 0 4) (u := w) (by omega) (by omega) (gp_cn (gp_tP σ (σ 0 4)) n 0 0) K σ (gk_r τ 0) 0 N N hH2.2.1 ((gk_r_n (by omega)).trans s2.symm) (by omega) rfl (by omega) (by omega) (by omega) (fun i hi => Or.inl (if_pos ⟨rfl, by omega, by omega⟩)) hw
  refine ⟨gp_cn (gp_tP σ (σ 0 4)) n 0 0, σ', τ', by omega, ?_, ?_, (hH2.step hM (by omega) hc hm).mono (by omega) (by omega) (Int.le_refl _), fun h => (h0 h).1⟩
  · unfold fn_Ro_settleDue
    rw [if_pos (by decide)]
    rw [Nat.zero_add] at e1
    exact e1
  · unfold fn_Mo_wake
    rw [Nat.zero_add] at e2
    rw [show fn_Mo_wake_L4 N 0 w N 0 τ = _ from gk_wake 40 0 N τ (by omega) (by omega)]
    exact e2

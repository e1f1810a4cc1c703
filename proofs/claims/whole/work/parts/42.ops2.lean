theorem gp_i01 {A : Prop} [Decidable A] {α : Type} {X Y : α} : (if (if A then (0 : Int32) else 1) = 0 then X else Y) = if A then X else Y := by
  by_cases h : A
  · simp [h]
  · simp [h]
theorem gp_i10 {A : Prop} [Decidable A] {α : Type} {X Y : α} : (if (if A then (1 : Int32) else 0) = 0 then X else Y) = if A then Y else X := by
  by_cases h : A
  · simp [h]
  · simp [h]
theorem gp_t0 : (0 : Int32).toInt = 0 := rfl
theorem gp_t1 : (1 : Int32).toInt = 1 := rfl
theorem gp_t3 : (3 : Int32).toInt = 3 := rfl
theorem gp_t4 : (4 : Int32).toInt = 4 := rfl
theorem gp_t5 : (5 : Int32).toInt = 5 := rfl
theorem gp_t6 : (6 : Int32).toInt = 6 := rfl
theorem gp_t7 : (7 : Int32).toInt = 7 := rfl
theorem gp_t8 : (8 : Int32).toInt = 8 := rfl
theorem gp_t9 : (9 : Int32).toInt = 9 := rfl
theorem gp_t10 : (10 : Int32).toInt = 10 := rfl
theorem gp_t11 : (11 : Int32).toInt = 11 := rfl
theorem gp_t14 : (14 : Int32).toInt = 14 := rfl
theorem gp_t15 : (15 : Int32).toInt = 15 := rfl
theorem gp_t20 : (20 : Int32).toInt = 20 := rfl
theorem gp_t31 : (31 : Int32).toInt = 31 := rfl
theorem gp_t50 : (50 : Int32).toInt = 50 := rfl
theorem gp_t100 : (100 : Int32).toInt = 100 := rfl
theorem gp_t1000 : (1000 : Int32).toInt = 1000 := rfl
theorem gp_tm1 : (-1 : Int32).toInt = -1 := rfl
theorem gp_tm4 : (-4 : Int32).toInt = -4 := rfl
theorem gr_H.side {K T T' : Int} {σ0 τ0 σ τ σ' τ' : gx_M} {n u : Nat} (h : gr_H K T σ0 τ0 n u σ τ) (hc : ∀ o k, 6 ≤ o → σ' o k = σ o k) (hm : ∀ o k, 729 ≤ o ∨ o < 722 ∨ (o = 722 ∧ (k = 9 ∨ k = 10 ∨ k = 11)) → τ' o k = τ o k) (hQ : gr_Q σ' τ') (hS : gr_S T' σ' τ') : gr_H K T' σ0 τ0 n u σ' τ' := by
  obtain ⟨hB, hM, ⟨hu, hu1, hu2⟩, hP, hN, -, -⟩ := h
  have h40 := hM.1.2
  have eod : τ' 722 10 = τ 722 10 := hm _ _ (by omega)
  have est : σ' 24 2 = σ 24 2 := hc _ _ (by omega)
  refine ⟨⟨fun o k ho => (hc o k (by omega)).trans (hB.1 o k ho), fun o k ho => (hm o k (by omega)).trans (hB.2 o k ho)⟩, ⟨⟨(hc _ _ (by omega)).trans hM.1.1, h40⟩, ⟨(hm _ _ (by omega)).trans hM.2.1.1, h40⟩, ?_, by rw [est]; exact hM.2.2.2.1, by rw [eod]; exact hM.2.2.2.2.1, hM.2.2.2.2.2⟩, ⟨hu, (hc _ _ (by omega)).trans hu1, (hm _ _ (by omega)).trans hu2⟩, fun p hp => ?_, fun o h1 h2 => (hc _ _ (by omega)).trans (hN o h1 h2), hQ, hS⟩
  · rw [est, eod]
    exact hM.2.2.1.congr (fun i hi k hk => hc _ _ (by omega)) (fun i hi f hf => hm _ _ (by omega))
  · exact (hP p hp).keep (by omega) (Int.le_refl _) (hc _ _ (by omega)) (hc _ _ (by omega)) (fun i hi k hk => hc _ _ (by omega)) (hm _ _ (by omega)) (fun b hb => hm _ _ (by omega)) (by rw [eod]; exact Int.le_refl _)
theorem gr_E.side {σ σ' : gx_M} {u n : Nat} (h : gr_E σ u n) (hc : ∀ o k, 6 ≤ o → σ' o k = σ o k) : gr_E σ' u n := by
  obtain ⟨h1, h2, h3⟩ := h
  refine ⟨by rw [hc _ _ (by omega), hc _ _ (by omega)]; exact h1, by rw [hc _ _ (by omega), hc _ _ (by omega)]; exact h2, fun i hi k g1 g2 => ?_⟩
  rw [hc _ _ (by omega), hc _ _ (by omega)]
  exact h3 i hi k g1 g2
theorem gr_key (N : Nat) (p : Int32) : gr_op (fn_Bo_key N p) (fn_Mo_key N p) := by
  intro K T σ0 τ0 σ τ h hK hT
  obtain ⟨n, u, hH, hE⟩ := id h
  have hR := h.mono (K' := K + 200) (T' := T + 1000) (by omega) (by omega) (by omega)
  have go : -1 ≤ p.toInt → ∃ (r : Int32) (σ' τ' : gx_M), some ((0 : Int32), gx_up σ 0 5 p) = some (r, σ') ∧ some ((0 : Int32), gx_up τ 722 8 p) = some (r, τ') ∧ gr_R (K + 200) (T + 1000) σ0 τ0 σ' τ' := by
    intro hp
    refine ⟨_, _, _, rfl, rfl, gr_R.mono ⟨n, u, hH.side (T' := T) (fun o k ho => gp_un (by omega)) (fun o k ho => gp_un (by omega)) (fun q hq => ?_) ?_, hE.side (fun o k ho => gp_un (by omega))⟩ (by omega) (by omega) (by omega)⟩
    · have := hH.2.2.2.2.2.1 q hq
      have e : ∀ k, gx_up σ 0 5 p (2 + q) k = σ (2 + q) k := fun k => gp_un (by omega)
      have f : ∀ o, 723 ≤ o → gx_up τ 722 8 p o q = τ o q := fun o ho => gp_un (by omega)
      rw [e, e, e, e, e, e, f 723 (by decide), f 724 (by decide), f 725 (by decide), f 726 (by decide), f 727 (by decide), f 728 (by decide), gp_un (show ¬ (0 = 0 ∧ 4 = 5) by omega)]
      exact this
    · obtain ⟨s1, s2, s3, s4, s5⟩ := hH.2.2.2.2.2.2
      refine ⟨?_, ?_, ?_, ?_, ?_⟩
      · rw [gp_un (by omega), gp_un (by omega)]; exact s1
      · rw [gp_un (by omega), gp_un (by omega)]; exact s2
      · rw [gp_un (by omega)]; exact s3
      · rw [gp_us, gp_us]
      · rw [gp_us]; exact hp
  unfold fn_Bo_key fn_Mo_key
  rw [gp_mout, gp_bd, gp_within, gp_bd, gp_lt', gp_lt', gp_i01, gp_i10]
  by_cases h1 : p = -1
  · rw [if_pos h1, if_pos (show -1 ≤ p ∧ p ≤ 31 by rw [h1]; decide)]
    exact go (by rw [h1]; decide)
  · rw [if_neg h1]
    have h1' : ¬ p.toInt = -1 := fun q => h1 (gp_eq.mpr (by rw [q]; rfl))
    by_cases h2 : 0 ≤ p ∧ p ≤ 31
    · rw [if_pos h2, if_pos (show -1 ≤ p ∧ p ≤ 31 by simp only [gp_le, gp_t0, gp_t31, gp_tm1] at h2 ⊢; omega)]
      exact go (by simp only [gp_le, gp_t0, gp_t31] at h2; omega)
    · rw [if_neg h2, if_neg (show ¬ (-1 ≤ p ∧ p ≤ 31) by simp only [gp_le, gp_t0, gp_t31, gp_tm1] at h2 ⊢; omega)]
      exact ⟨_, _, _, rfl, rfl, hR⟩
theorem gr_count (N : Nat) (p : Int32) (hN : 520 < N) : gr_op (fn_Bo_count N p) (fn_Mo_count N p) := by
  intro K T σ0 τ0 σ τ h hK hT
  obtain ⟨n, u, hH, hE⟩ := id h
  have hM := hH.2.1
  have h40 := hM.1.2
  have hR := h.mono (K' := K + 200) (T' := T + 1000) (by omega) (by omega) (by omega)
  unfold fn_Bo_count fn_Mo_count
  rw [gp_within, gp_bd, gp_within, gp_bd, gp_mout, gp_bd, gp_i01, gp_i10, gp_i10]
  have n8 : ¬ p.toInt = 8 → ¬ p = 8 := fun q e => q (by rw [e]; rfl)
  have n9 : ¬ p.toInt = 9 → ¬ p = 9 := fun q e => q (by rw [e]; rfl)
  have n10 : ¬ p.toInt = 10 → ¬ p = 10 := fun q e => q (by rw [e]; rfl)
  by_cases c1 : 0 ≤ p.toInt ∧ p.toInt ≤ 7
  · have d1 : 0 ≤ p ∧ p ≤ 7 := by simp only [gp_le, gp_t0, gp_t7]; omega
    rw [if_pos d1, if_pos d1, if_neg (n8 (by omega)), if_neg (n9 (by omega)), if_neg (n10 (by omega)), if_pos (show p ≤ 10 by simp only [gp_le, gp_t10]; omega), gp_countIn hM.1 (by omega), gp_bd, show fn_Mo_count_L72 N p N 0 0 τ = _ from gp_mcount_L hM.2.1 n 0 N 0 (by omega) (by omega)]
    have e : gp_cn (fun j => decide (σ (682 + j) 10 = p)) n 0 0 = gp_cn (fun j => decide (τ 729 (13 * j + 9) = p)) n 0 0 := gp_cn_c (fun j _ hj => by rw [gr_10 hM (by omega)])
    rw [e]
    exact ⟨_, _, _, rfl, rfl, hR⟩
  · have d1 : ¬ (0 ≤ p ∧ p ≤ 7) := by simp only [gp_le, gp_t0, gp_t7]; omega
    rw [if_neg d1, if_neg d1]
    by_cases c2 : 11 ≤ p.toInt ∧ p.toInt ≤ 14
    · have t : (p - 11).toInt = p.toInt - 11 := gp_sub (b := 11) (by rw [gp_t11]; omega) (by rw [gp_t11]; omega)
      obtain ⟨q, hq, eq⟩ := gp_of (x := p - 11) (n := 4) (by omega) (by omega)
      rw [if_pos (show 11 ≤ p ∧ p ≤ 14 by simp only [gp_le, gp_t11, gp_t14]; omega), if_neg (n8 (by omega)), if_neg (n9 (by omega)), if_neg (n10 (by omega)), if_neg (show ¬ p ≤ 10 by simp only [gp_le, gp_t10]; omega), if_neg (show ¬ 15 ≤ p by simp only [gp_le, gp_t15]; omega), eq, if_pos (gp_in (n := 4) hq (by decide) (by decide)), if_pos (gp_in (n := 4) hq (by decide) (by decide)), gp_elq hq, gp_cl (by omega), (hH.2.2.2.2.2.1 q hq).1.2.2.2.1]
      exact ⟨_, _, _, rfl, rfl, hR⟩
    · rw [if_neg (show ¬ (11 ≤ p ∧ p ≤ 14) by simp only [gp_le, gp_t11, gp_t14]; omega)]
      by_cases c8 : p = 8
      · rw [if_pos c8, if_pos c8, hM.1.1, hM.2.1.1]
        exact ⟨_, _, _, rfl, rfl, hR⟩
      · by_cases c9 : p = 9
        · rw [if_neg c8, if_pos c9, if_neg c8, if_pos c9, hH.2.2.1.2.1, hH.2.2.1.2.2]
          exact ⟨_, _, _, rfl, rfl, hR⟩
        · by_cases c10 : p = 10
          · rw [if_neg c8, if_neg c9, if_pos c10, if_neg c8, if_neg c9, if_pos c10, hH.2.2.2.2.2.2.2.1]
            exact ⟨_, _, _, rfl, rfl, hR⟩
          · rw [if_neg c8, if_neg c9, if_neg c10, if_neg c8, if_neg c9, if_neg c10]
            by_cases c11 : p ≤ 10
            · rw [if_pos c11]
              exact ⟨_, _, _, rfl, rfl, hR⟩
            · rw [if_neg c11, if_pos (show 15 ≤ p by simp only [gp_le, gp_t10, gp_t15] at c11 ⊢; omega)]
              exact ⟨_, _, _, rfl, rfl, hR⟩

theorem gc_rest {N : Nat} {K T : Int} {σ0 τ0 σ τ : gx_M} {n u : Nat} {w : Int32} (hN : 520 < N) (hK : K ≤ 200000) (hT : T ≤ 900000) (hH : gr_H K T σ0 τ0 n u σ τ) : ∃ (σ' τ' : gx_M), gx_bv (fn_Ro_releaseReserved N 24 σ) (fun σ_4 => gx_bd (fn_Ro_settleDue N 24 (σ_4 0 4) σ_4) (fun r_8 σ_6 => fn_Bo_crash_L34 N w N ((0 : Int32)) σ_6)) = some (w, σ') ∧ fn_Mo_crash_L86 N w N ((0 : Int32)) τ = some (w, τ') ∧ gr_R (K + 200) (T + 1000) σ0 τ0 σ' τ' := by
  have h40 := hH.2.1.1.2
  obtain ⟨σ1, τ1, e1, e2, hH1, hnr⟩ := gc_free (N := N) (u3 := w) n 0 N N K σ τ (by omega) (by omega) (by omega) (by omega) hH (fun j hj => by omega)
  obtain ⟨d, σ2, τ2, hd, g1, g2, hH2, -⟩ := gk_settle (N := N) (w := 1) hH1 (by omega) (by omega) (by omega) (Or.inr hnr)
  obtain ⟨σ3, τ3, i1, i2, hR⟩ := gc_again (N := N) (u3 := w) hN 4 0 N N σ2 τ2 (by omega) (by omega) (by omega) hH2
  refine ⟨σ3, τ3, ?_, ?_, hR.mono (by omega) (by omega) (by omega)⟩
  · unfold fn_Ro_releaseReserved
    rw [if_pos (by decide), show fn_Ro_releaseReserved_L2 N 24 N 0 σ = _ from e1, gp_bv, g1, gp_bd]
    exact i1
  · rw [show fn_Mo_crash_L86 N w N 0 τ = _ from e2, g2, gp_bd]
    exact i2
theorem gr_crash (N : Nat) (p0 : Int32) (hN : 520 < N) : gr_op (fn_Bo_crash N p0) (fn_Mo_crash N p0) := by
  intro K T σ0 τ0 σ τ h hK hT
  obtain ⟨n, u, hH, hE⟩ := id h
  have hM := hH.2.1
  have h40 := hM.1.2
  obtain ⟨hu, hu1, hu2⟩ := id hH.2.2.1
  /- back to page k -/
  have cls : ∀ k, k ≤ u → (if (σ 6 1) < (if p0 < ((0 : Int32)) then ((0 : Int32)) else p0) then (σ 6 1) else (if p0 < ((0 : Int32)) then ((0 : Int32)) else p0)) = nI k → ∃ m, m ≤ 40 ∧ σ (8 + k) 1 = nI m ∧ fn_Bo_crash N p0 σ = gx_bv (fn_Ro_releaseReserved N 24 (gj_R σ 24 (8 + k) m)) (fun σ_4 => gx_bd (fn_Ro_settleDue N 24 (σ_4 0 4) σ_4) (fun r_8 σ_6 => fn_Bo_crash_L34 N (nI u - nI k) N ((0 : Int32)) σ_6)) := by
    intro k hk hx
    obtain ⟨m, hm, q1, q2, q3, q4⟩ := hH.2.2.2.1 k hk
    refine ⟨m, hm, q1, ?_⟩
    unfold fn_Bo_crash fn_Jn_restore
    rw [if_pos (by decide), hx, gp_lt', if_pos (gp_in (n := 16) (by omega) (by decide) (by decide)), gp_elp (by omega), gj_copy (r := 24) (s := 8 + k) (n := m) (by omega) (by omega) (by omega) hm (by omega) q1 (fun i hi => by
      rw [show 42 + 40 * (8 + k - 8) + i = 42 + 40 * k + i by omega]
      exact (q3.1 i hi).2.2.2.2.2.2.2.1), gp_bv, gp_bd, gj_R_n (by omega) (by omega), hu1]
  /- the newest -/
  have stay : (if (σ 6 1) < (if p0 < ((0 : Int32)) then ((0 : Int32)) else p0) then (σ 6 1) else (if p0 < ((0 : Int32)) then ((0 : Int32)) else p0)) = nI u → fn_Mo_crash N p0 τ = fn_Mo_crash_L86 N (nI u - nI u) N 0 τ → ∃ (r : Int32) (σ' τ' : gx_M), fn_Bo_crash N p0 σ = some (r, σ') ∧ fn_Mo_crash N p0 τ = some (r, τ') ∧ gr_R (K + 200) (T + 1000) σ0 τ0 σ' τ' := by
    intro hx hm
    obtain ⟨m, hm40, q1, eC⟩ := cls u (Nat.le_refl _) hx
    have hmn : m = n := by
      have h1 : nI m = nI n := (q1.symm.trans hE.1).trans hM.1.1
      rw [gp_eq, gp_nI (by omega), gp_nI (by omega)] at h1
      omega
    subst hmn
    rw [gc_stay hE hu h40] at eC
    obtain ⟨σ', τ', e1, e2, e3⟩ := gc_rest (w := nI u - nI u) hN hK hT hH
    exact ⟨_, σ', τ', eC.trans e1, hm.trans e2, e3⟩
  /- an older one -/
  have back : ∀ k, k ≤ u → (if (σ 6 1) < (if p0 < ((0 : Int32)) then ((0 : Int32)) else p0) then (σ 6 1) else (if p0 < ((0 : Int32)) then ((0 : Int32)) else p0)) = nI k → fn_Mo_crash N p0 τ = fn_Mo_crash_L39 N (nI u - nI k) (nI k) N 0 τ → ∃ (r : Int32) (σ' τ' : gx_M), fn_Bo_crash N p0 σ = some (r, σ') ∧ fn_Mo_crash N p0 τ = some (r, τ') ∧ gr_R (K + 200) (T + 1000) σ0 τ0 σ' τ' := by
    intro k hk hx hm
    obtain ⟨m, hm40, q1, eC⟩ := cls k hk hx
    obtain ⟨m', hm40', q1', q2', q3', q4'⟩ := hH.2.2.2.1 k hk
    have hmn : m' = m := by
      have h1 : nI m' = nI m := q1'.symm.trans q1
      rw [gp_eq, gp_nI (by omega), gp_nI (by omega)] at h1
      omega
    subst hmn
    have hH1 := gc_back hH hk hm40 q1 q2' q3' q4'
    have e0 : gc_S τ k 0 = τ := by
      funext a b
      exact gc_S_n (by omega)
    have eM := gc_load (N := N) (p := k) (τ := τ) (u3 := nI u - nI k) (by omega) 520 0 N (by omega) (by omega)
    rw [e0] at eM
    obtain ⟨σ', τ', e1, e2, e3⟩ := gc_rest (w := nI u - nI k) hN hK hT hH1
    exact ⟨_, σ', τ', eC.trans e1, (hm.trans eM).trans e2, e3⟩
  have hd : ∀ k, k ≤ u → (nI u - nI k).toInt = (u : Int) - k := fun k hk => by
    rw [pk_sub hk, gp_nI (by omega)]
    omega
  by_cases c0 : 0 ≤ p0
  · have c1 : ¬ p0 < 0 := gp_nlt.mpr c0
    by_cases c2 : nI u ≤ p0
    · refine stay ?_ ?_
      · rw [if_neg c1, hu1]
        by_cases c3 : nI u < p0
        · rw [if_pos c3]
        · rw [if_neg c3]
          rw [gp_lt] at c3
          rw [gp_le] at c2
          rw [gp_eq]
          omega
      · unfold fn_Mo_crash
        rw [if_pos c0, hu2, if_pos c2, if_pos (by rw [gp_le, hd u (Nat.le_refl _), gp_t0]; omega)]
    · have c3 := c2
      have c4 := c0
      rw [gp_le, gp_nI (by omega)] at c3
      rw [gp_le, gp_t0] at c4
      obtain ⟨k, hk, rfl⟩ := gp_of (x := p0) (n := u) c4 (by omega)
      refine back k (by omega) ?_ ?_
      · rw [if_neg c1, hu1, if_neg (by rw [gp_lt, gp_nI (by omega), gp_nI (by omega)]; omega)]
      · unfold fn_Mo_crash
        rw [if_pos c0, hu2, if_neg c2, if_neg (by rw [gp_le, hd k (by omega), gp_t0]; omega)]
  · have c1 : p0 < 0 := gp_nle.mp c0
    by_cases c2 : u = 0
    · subst c2
      refine stay ?_ ?_
      · rw [if_pos c1, hu1]
        rfl
      · unfold fn_Mo_crash
        rw [if_neg c0, hu2]
        rfl
    · refine back 0 (by omega) ?_ ?_
      · rw [if_pos c1, hu1, if_neg (by rw [gp_lt, gp_nI (by omega), gp_t0]; omega)]
        rfl
      · unfold fn_Mo_crash
        rw [if_neg c0, hu2, if_neg (show ¬ nI u - 0 ≤ 0 by rw [gp_le, show nI u - 0 = nI u - nI 0 from rfl, hd 0 (by omega), gp_t0]; omega)]
        rfl

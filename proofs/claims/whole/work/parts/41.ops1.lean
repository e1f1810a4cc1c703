/-- a call of both, in step -/
def gr_op (f g : gx_M → Option (Int32 × gx_M)) : Prop := ∀ (K T : Int) (σ0 τ0 σ τ : gx_M), gr_R K T σ0 τ0 σ τ → K ≤ 200000 → T ≤ 900000 → ∃ (r : Int32) (σ' τ' : gx_M), f σ = some (r, σ') ∧ g τ = some (r, τ') ∧ gr_R (K + 200) (T + 1000) σ0 τ0 σ' τ'
theorem gr_H.mono {K K' T T' : Int} {σ0 τ0 σ τ : gx_M} {n u : Nat} (h : gr_H K T σ0 τ0 n u σ τ) (hK : K ≤ K') (hK2 : K' < 1000000000) (hT : T ≤ T') : gr_H K' T' σ0 τ0 n u σ τ := by
  obtain ⟨hB, hM, hu, hP, hN, hQ, hS⟩ := h
  refine ⟨hB, hM.up hK hK2, hu, fun p hp => (hP p hp).keep (by omega) hK rfl rfl (fun _ _ _ _ => rfl) rfl (fun _ _ => rfl) (Int.le_refl _), hN, hQ, ?_⟩
  obtain ⟨s1, s2, s3, s4⟩ := hS
  exact ⟨s1, s2, ⟨s3.1, by omega⟩, s4⟩
theorem gr_R.mono {K K' T T' : Int} {σ0 τ0 σ τ : gx_M} (h : gr_R K T σ0 τ0 σ τ) (hK : K ≤ K') (hK2 : K' < 1000000000) (hT : T ≤ T') : gr_R K' T' σ0 τ0 σ τ := by
  obtain ⟨n, u, h1, h2⟩ := h
  exact ⟨n, u, h1.mono hK hK2 hT, h2⟩
theorem gp_findY {N n j : Nat} {σ : gx_M} (hW : gp_W σ n) (hj : j < n) : fn_Ro_find N 24 (nI j) σ = some (gp_id (some j), σ) := by
  have h40 := hW.2
  have e : (nI j).toInt = (j : Int) := gp_nI (by omega)
  rw [gp_find hW, if_pos (by omega), e]
  rfl
theorem gp_findN {N n : Nat} {σ : gx_M} {p : Int32} (hW : gp_W σ n) (hp : ¬ (0 ≤ p.toInt ∧ p.toInt < n)) : fn_Ro_find N 24 p σ = some (gp_id none, σ) := by
  rw [gp_find hW, if_neg hp]
  rfl
theorem gp_mnoY {N n j : Nat} {τ : gx_M} (hV : gp_V τ n) (hj : j < n) : fn_Mo_no N (nI j) τ = some (0, τ) := by
  have h40 := hV.2
  have e : (nI j).toInt = (j : Int) := gp_nI (by omega)
  rw [gp_mno hV, if_pos (by omega)]
theorem gp_mnoN {N n : Nat} {τ : gx_M} {p : Int32} (hV : gp_V τ n) (hp : ¬ (0 ≤ p.toInt ∧ p.toInt < n)) : fn_Mo_no N p τ = some (1, τ) := by
  rw [gp_mno hV, if_neg hp]
theorem gr_10 {K : Int} {n j : Nat} {σ τ : gx_M} (h : gr_M K n σ τ) (hj : j < n) : σ (682 + j) 10 = τ 729 (13 * j + 9) := (h.2.2.1.1 j hj).1.2.2.2.2.2.2.2.2.2.2
theorem gr_state (N : Nat) (p : Int32) : gr_op (fn_Bo_state N p) (fn_Mo_state N p) := by
  intro K T σ0 τ0 σ τ h hK hT
  obtain ⟨n, u, hH, hE⟩ := id h
  have hM := hH.2.1
  have h40 := hM.1.2
  have hR := h.mono (K' := K + 200) (T' := T + 1000) (by omega) (by omega) (by omega)
  unfold fn_Bo_state fn_Mo_state
  by_cases hp : 0 ≤ p.toInt ∧ p.toInt < n
  · obtain ⟨j, hj, rfl⟩ := gp_of hp.1 hp.2
    rw [gp_findY hM.1 hj, gp_bd, gp_ms', if_pos (by omega), gp_mnoY hM.2.1 hj, gp_bd, if_pos rfl, gp_of9 (by omega), gp_bd, ← gr_10 hM hj]
    exact ⟨_, _, _, rfl, rfl, hR⟩
  · rw [gp_findN hM.1 hp, gp_bd, gp_mn', gp_mnoN hM.2.1 hp, gp_bd, if_neg (by decide)]
    exact ⟨_, _, _, rfl, rfl, hR⟩
theorem gr_failures (N : Nat) (p : Int32) : gr_op (fn_Bo_failures N p) (fn_Mo_failures N p) := by
  intro K T σ0 τ0 σ τ h hK hT
  obtain ⟨n, u, hH, hE⟩ := id h
  have hM := hH.2.1
  have h40 := hM.1.2
  have hR := h.mono (K' := K + 200) (T' := T + 1000) (by omega) (by omega) (by omega)
  unfold fn_Bo_failures fn_Mo_failures
  by_cases hp : 0 ≤ p.toInt ∧ p.toInt < n
  · obtain ⟨j, hj, rfl⟩ := gp_of hp.1 hp.2
    have e6 : σ (682 + j) 6 = τ 729 (13 * j + 4) := (hM.2.2.1.1 j hj).1.2.2.2.2.2.2.1
    rw [gp_findY hM.1 hj, gp_bd, gp_ms', if_pos (by omega), gp_mnoY hM.2.1 hj, gp_bd, if_pos rfl, gp_of4 (by omega), gp_bd, ← e6]
    exact ⟨_, _, _, rfl, rfl, hR⟩
  · rw [gp_findN hM.1 hp, gp_bd, gp_mn', gp_mnoN hM.2.1 hp, gp_bd, if_neg (by decide)]
    exact ⟨_, _, _, rfl, rfl, hR⟩
theorem gr_due (N : Nat) (p : Int32) : gr_op (fn_Bo_due N p) (fn_Mo_due N p) := by
  intro K T σ0 τ0 σ τ h hK hT
  obtain ⟨n, u, hH, hE⟩ := id h
  have hM := hH.2.1
  have h40 := hM.1.2
  have hR := h.mono (K' := K + 200) (T' := T + 1000) (by omega) (by omega) (by omega)
  unfold fn_Bo_due fn_Mo_due
  by_cases hp : 0 ≤ p.toInt ∧ p.toInt < n
  · obtain ⟨j, hj, rfl⟩ := gp_of hp.1 hp.2
    have hJ := hM.2.2.1.1 j hj
    have e8 : σ (682 + j) 8 = τ 729 (13 * j + 7) := hJ.1.2.2.2.2.2.2.2.2.1
    rw [gp_findY hM.1 hj, gp_bd, gp_ms', if_pos (by omega), gp_mnoY hM.2.1 hj, gp_bd, if_pos rfl, gp_of9 (by omega), gp_bd, gp_of10 (by omega), gp_bd, gp_of7 (by omega), gp_bd, ← gr_10 hM hj, ← e8, gp_isTimed (by omega), gp_bd]
    by_cases c6 : σ (682 + j) 10 = 6
    · rw [if_pos c6, c6, if_neg (by decide), if_neg (by decide), if_neg (by decide), if_pos rfl]
      exact ⟨_, _, _, rfl, rfl, hR⟩
    · rw [if_neg c6]
      by_cases ct : σ (682 + j) 10 = 0 ∨ σ (682 + j) 10 = 3 ∨ σ (682 + j) 10 = 2
      · have e11 : σ (682 + j) 11 = τ 729 (13 * j + 10) := hJ.2.1 (by unfold gr_tm; rcases ct with q | q | q; exact Or.inl q; exact Or.inr (Or.inr q); exact Or.inr (Or.inl q))
        rw [if_pos ct, if_neg (by decide), ← e11]
        rcases ct with q | q | q
        · rw [if_pos q]
          exact ⟨_, _, _, rfl, rfl, hR⟩
        · rw [q, if_neg (by decide), if_neg (by decide), if_pos rfl]
          exact ⟨_, _, _, rfl, rfl, hR⟩
        · rw [q, if_neg (by decide), if_pos rfl]
          exact ⟨_, _, _, rfl, rfl, hR⟩
      · rw [if_neg ct, if_pos rfl, if_neg (fun q => ct (Or.inl q)), if_neg (fun q => ct (Or.inr (Or.inr q))), if_neg (fun q => ct (Or.inr (Or.inl q))), if_neg c6]
        exact ⟨_, _, _, rfl, rfl, hR⟩
  · rw [gp_findN hM.1 hp, gp_bd, gp_mn', gp_mnoN hM.2.1 hp, gp_bd, if_neg (by decide)]
    exact ⟨_, _, _, rfl, rfl, hR⟩
/-- the job of a worker, in both -/
theorem gr_ff {K : Int} {n : Nat} {σ τ : gx_M} (h : gr_M K n σ τ) (w : Int32) : gp_ff (fun j => decide (σ (682 + j) 10 = 2 ∧ σ (682 + j) 12 = w)) n 0 = gp_ff (fun j => decide (τ 729 (13 * j + 9) = 2 ∧ τ 729 (13 * j + 11) = w)) n 0 := by
  refine gp_ff_c (fun j _ hj => ?_)
  have hJ := h.2.2.1.1 j (by omega)
  have e10 : σ (682 + j) 10 = τ 729 (13 * j + 9) := gr_10 h (by omega)
  rw [decide_eq_decide, ← e10]
  constructor
  · rintro ⟨q1, q2⟩
    exact ⟨q1, by rw [← q2]; exact (hJ.2.2.1 q1).1.symm⟩
  · rintro ⟨q1, q2⟩
    exact ⟨q1, by rw [← q2]; exact (hJ.2.2.1 q1).1⟩
theorem gr_ffw {K : Int} {n j : Nat} {σ τ : gx_M} (h : gr_M K n σ τ) {w : Int32} (hf : gp_ff (fun j => decide (σ (682 + j) 10 = 2 ∧ σ (682 + j) 12 = w)) n 0 = some j) : j < n ∧ σ (682 + j) 10 = 2 ∧ 0 ≤ w ∧ w ≤ 5 := by
  obtain ⟨-, h1, h2⟩ := gp_ff_s hf
  have h2 : σ (682 + j) 10 = 2 ∧ σ (682 + j) 12 = w := by simpa using h2
  have := (h.2.2.1.1 j (by omega)).2.2.1 h2.1
  have e : gr_c σ j 12 = w := h2.2
  rw [e] at this
  exact ⟨by omega, h2.1, this.2⟩
theorem gp_rby {N n : Nat} {σ : gx_M} {w : Int32} (hW : gp_W σ n) (hN : 40 < N) : fn_Ro_reservedBy N 24 w σ = some (gp_id (gp_ff (fun j => decide (σ (682 + j) 10 = 2 ∧ σ (682 + j) 12 = w)) n 0), σ) := gp_reservedBy hW hN
theorem gr_holding (N : Nat) (p : Int32) (hN : 520 < N) : gr_op (fn_Bo_holding N p) (fn_Mo_holding N p) := by
  intro K T σ0 τ0 σ τ h hK hT
  obtain ⟨n, u, hH, hE⟩ := id h
  have hM := hH.2.1
  have h40 := hM.1.2
  have hR := h.mono (K' := K + 200) (T' := T + 1000) (by omega) (by omega) (by omega)
  unfold fn_Bo_holding
  rw [gp_isWorker, gp_bd, gp_mhold hM.2.1 (by omega)]
  by_cases hp : 0 ≤ p ∧ p ≤ 5
  · rw [if_pos hp, if_pos hp, if_neg (by decide), gp_rby hM.1 (by omega), gp_bd, ← gr_ff hM p]
    cases hf : gp_ff (fun j => decide (σ (682 + j) 10 = 2 ∧ σ (682 + j) 12 = p)) n 0 with
    | none => exact ⟨_, _, _, rfl, rfl, hR⟩
    | some j =>
      have hj := (gr_ffw hM hf).1
      have e0 : σ (682 + j) 0 = nI j := (hM.2.2.1.1 j hj).1.1
      rw [gp_ms', if_pos (by omega)]
      unfold fn_Bo_numberOrNone
      rw [gp_ms, if_pos (by omega), gp_bd, e0]
      exact ⟨_, _, _, rfl, rfl, hR⟩
  · rw [if_neg hp, if_neg hp, if_pos rfl]
    exact ⟨_, _, _, rfl, rfl, hR⟩
theorem gr_flush (N : Nat) (hN : 520 < N) : gr_op (fn_Bo_flush N) (fn_Mo_flush N) := by
  intro K T σ0 τ0 σ τ h hK hT
  obtain ⟨n, u, hH, hE⟩ := id h
  have e1 := (gr_snap hH (v := 0) (by omega) (by omega))
  unfold fn_Bo_flush fn_Mo_flush
  rw [gr_flush_c hH hN, gp_bd, gp_lt', show fn_Mo_store N 0 (gx_up τ 722 11 0) = _ from gj_store (p := 0) (by omega) hN, gp_bv, hH.2.2.1.2.1, hH.2.2.1.2.2]
  exact ⟨_, _, _, rfl, rfl, gr_R.mono ⟨n, 0, e1.1, e1.2⟩ (by omega) (by omega) (by omega)⟩

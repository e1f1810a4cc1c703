/-- one field of a job changes alike -/
theorem gr_M.row {K : Int} {n j k f : Nat} {σ τ : gx_M} {v : Int32} (h : gr_M K n σ τ) (hj : j < n) (hk : k ≠ 10 ∧ k ≠ 13) (hf : f < 13 ∧ f ≠ 9 ∧ f ≠ 12) (hJ : gr_J K n j (gr_c (gx_up σ (682 + j) k v) j) (gr_m (gx_up τ 729 (13 * j + f) v) j)) : gr_M K n (gx_up σ (682 + j) k v) (gx_up τ 729 (13 * j + f) v) := by
  obtain ⟨hW, hV, hT, hst, hod, hK⟩ := h
  have h40 := hW.2
  refine ⟨⟨by rw [gp_un (by omega)]; exact hW.1, hW.2⟩, ⟨by rw [gp_un (by omega)]; exact hV.1, hV.2⟩, ?_, by rw [gp_un (by omega)]; exact hst, by rw [gp_un (by omega)]; exact hod, hK⟩
  rw [gp_un (show ¬ (24 = 682 + j ∧ 2 = k) by omega), gp_un (show ¬ (722 = 729 ∧ 10 = 13 * j + f) by omega)]
  refine hT.set j (fun i hi hij k' hk' => ?_) (fun i hi hij f' hf' => ?_) (fun _ => hJ) (fun _ hl => ⟨?_, ?_, ?_⟩)
  · show gx_up _ _ _ _ (682 + i) k' = σ (682 + i) k'
    rw [gp_un (by omega)]
  · show gx_up _ _ _ _ 729 (13 * i + f') = τ 729 (13 * i + f')
    rw [gp_un (by omega)]
  · have e : gr_c (gx_up σ (682 + j) k v) j 10 = gr_c σ j 10 := gp_un (by omega)
    rw [e] at hl
    exact hl
  · exact gp_un (by omega)
  · exact gp_un (by omega)
theorem gr_M.fl {K : Int} {n j : Nat} {σ τ : gx_M} {v : Int32} (h : gr_M K n σ τ) (hj : j < n) (hv : 0 ≤ v.toInt ∧ v.toInt ≤ K) : gr_M K n (gx_up σ (682 + j) 6 v) (gx_up τ 729 (13 * j + 4) v) := by
  refine h.row hj (by decide) (by decide) ?_
  obtain ⟨⟨a0, a1, a2, a3, a4, a5, a6, a7, a8, a9, a10⟩, b1, b2, b3, b4, b5, b6, b7, b8, b9⟩ := h.2.2.1.1 j hj
  have hx : ∀ k, k ≠ 6 → gr_c (gx_up σ (682 + j) 6 v) j k = gr_c σ j k := fun k hk => gp_un (by omega)
  have hy : ∀ f, f ≠ 4 → gr_m (gx_up τ 729 (13 * j + 4) v) j f = gr_m τ j f := fun f hf => gp_un (by omega)
  have hx6 : gr_c (gx_up σ (682 + j) 6 v) j 6 = v := gp_us
  have hy4 : gr_m (gx_up τ 729 (13 * j + 4) v) j 4 = v := gp_us
  unfold gr_J
  rw [hx 0 (by decide), hx 1 (by decide), hx 2 (by decide), hx 3 (by decide), hx 4 (by decide), hx 5 (by decide), hx6, hx 7 (by decide), hx 8 (by decide), hx 9 (by decide), hx 10 (by decide), hx 11 (by decide), hx 12 (by decide), hy 0 (by decide), hy 1 (by decide), hy 2 (by decide), hy 3 (by decide), hy4, hy 5 (by decide), hy 6 (by decide), hy 7 (by decide), hy 8 (by decide), hy 9 (by decide), hy 10 (by decide), hy 11 (by decide)]
  exact ⟨⟨a0, a1, a2, a3, a4, a5, rfl, a7, a8, a9, a10⟩, b1, b2, b3, b4, hv, b6, b7, b8, b9⟩
theorem gr_M.cb {K : Int} {n j : Nat} {σ τ : gx_M} {v : Int32} (h : gr_M K n σ τ) (hj : j < n) (hv : v = -1 ∨ ∃ x, x < n ∧ v = nI x) : gr_M K n (gx_up σ (682 + j) 7 v) (gx_up τ 729 (13 * j + 6) v) := by
  refine h.row hj (by decide) (by decide) ?_
  obtain ⟨⟨a0, a1, a2, a3, a4, a5, a6, a7, a8, a9, a10⟩, b1, b2, b3, b4, b5, b6, b7, b8, b9⟩ := h.2.2.1.1 j hj
  have hx : ∀ k, k ≠ 7 → gr_c (gx_up σ (682 + j) 7 v) j k = gr_c σ j k := fun k hk => gp_un (by omega)
  have hy : ∀ f, f ≠ 6 → gr_m (gx_up τ 729 (13 * j + 6) v) j f = gr_m τ j f := fun f hf => gp_un (by omega)
  have hx7 : gr_c (gx_up σ (682 + j) 7 v) j 7 = v := gp_us
  have hy6 : gr_m (gx_up τ 729 (13 * j + 6) v) j 6 = v := gp_us
  unfold gr_J
  rw [hx 0 (by decide), hx 1 (by decide), hx 2 (by decide), hx 3 (by decide), hx 4 (by decide), hx 5 (by decide), hx 6 (by decide), hx7, hx 8 (by decide), hx 9 (by decide), hx 10 (by decide), hx 11 (by decide), hx 12 (by decide), hy 0 (by decide), hy 1 (by decide), hy 2 (by decide), hy 3 (by decide), hy 4 (by decide), hy 5 (by decide), hy6, hy 7 (by decide), hy 8 (by decide), hy 9 (by decide), hy 10 (by decide), hy 11 (by decide)]
  exact ⟨⟨a0, a1, a2, a3, a4, a5, a6, rfl, a8, a9, a10⟩, b1, b2, b3, b4, b5, hv, b7, b8, b9⟩
theorem gr_M.mb {K : Int} {n j : Nat} {σ τ : gx_M} {v : Int32} (h : gr_M K n σ τ) (hj : j < n) (hv : True) : gr_M K n (gx_up σ (682 + j) 8 v) (gx_up τ 729 (13 * j + 7) v) := by
  refine h.row hj (by decide) (by decide) ?_
  obtain ⟨⟨a0, a1, a2, a3, a4, a5, a6, a7, a8, a9, a10⟩, b1, b2, b3, b4, b5, b6, b7, b8, b9⟩ := h.2.2.1.1 j hj
  have hx : ∀ k, k ≠ 8 → gr_c (gx_up σ (682 + j) 8 v) j k = gr_c σ j k := fun k hk => gp_un (by omega)
  have hy : ∀ f, f ≠ 7 → gr_m (gx_up τ 729 (13 * j + 7) v) j f = gr_m τ j f := fun f hf => gp_un (by omega)
  have hx8 : gr_c (gx_up σ (682 + j) 8 v) j 8 = v := gp_us
  have hy7 : gr_m (gx_up τ 729 (13 * j + 7) v) j 7 = v := gp_us
  unfold gr_J
  rw [hx 0 (by decide), hx 1 (by decide), hx 2 (by decide), hx 3 (by decide), hx 4 (by decide), hx 5 (by decide), hx 6 (by decide), hx 7 (by decide), hx8, hx 9 (by decide), hx 10 (by decide), hx 11 (by decide), hx 12 (by decide), hy 0 (by decide), hy 1 (by decide), hy 2 (by decide), hy 3 (by decide), hy 4 (by decide), hy 5 (by decide), hy 6 (by decide), hy7, hy 8 (by decide), hy 9 (by decide), hy 10 (by decide), hy 11 (by decide)]
  exact ⟨⟨a0, a1, a2, a3, a4, a5, a6, a7, rfl, a9, a10⟩, b1, b2, b3, b4, b5, b6, b7, b8, b9⟩
theorem gr_M.sl {K : Int} {n j : Nat} {σ τ : gx_M} {v : Int32} (h : gr_M K n σ τ) (hj : j < n) (hv : v = 0 ∨ v = 1) : gr_M K n (gx_up σ (682 + j) 9 v) (gx_up τ 729 (13 * j + 8) v) := by
  refine h.row hj (by decide) (by decide) ?_
  obtain ⟨⟨a0, a1, a2, a3, a4, a5, a6, a7, a8, a9, a10⟩, b1, b2, b3, b4, b5, b6, b7, b8, b9⟩ := h.2.2.1.1 j hj
  have hx : ∀ k, k ≠ 9 → gr_c (gx_up σ (682 + j) 9 v) j k = gr_c σ j k := fun k hk => gp_un (by omega)
  have hy : ∀ f, f ≠ 8 → gr_m (gx_up τ 729 (13 * j + 8) v) j f = gr_m τ j f := fun f hf => gp_un (by omega)
  have hx9 : gr_c (gx_up σ (682 + j) 9 v) j 9 = v := gp_us
  have hy8 : gr_m (gx_up τ 729 (13 * j + 8) v) j 8 = v := gp_us
  unfold gr_J
  rw [hx 0 (by decide), hx 1 (by decide), hx 2 (by decide), hx 3 (by decide), hx 4 (by decide), hx 5 (by decide), hx 6 (by decide), hx 7 (by decide), hx 8 (by decide), hx9, hx 10 (by decide), hx 11 (by decide), hx 12 (by decide), hy 0 (by decide), hy 1 (by decide), hy 2 (by decide), hy 3 (by decide), hy 4 (by decide), hy 5 (by decide), hy 6 (by decide), hy 7 (by decide), hy8, hy 9 (by decide), hy 10 (by decide), hy 11 (by decide)]
  exact ⟨⟨a0, a1, a2, a3, a4, a5, a6, a7, a8, rfl, a10⟩, b1, b2, b3, b4, b5, b6, hv, b8, b9⟩
theorem gr_still {K : Int} {n x : Nat} {σ τ : gx_M} {s : Int32} (h : gr_M K n σ τ) (hx : x < n) (hs : s = 4 ∨ s = 6 ∨ s = 7) : gr_M K n (gx_up σ (682 + x) 10 s) (gx_up τ 729 (13 * x + 9) s) := by
  obtain ⟨hW, hV, hT, hst, hod, hK⟩ := h
  have h40 := hW.2
  refine ⟨⟨by rw [gp_un (by omega)]; exact hW.1, hW.2⟩, ⟨by rw [gp_un (by omega)]; exact hV.1, hV.2⟩, ?_, by rw [gp_un (by omega)]; exact hst, by rw [gp_un (by omega)]; exact hod, hK⟩
  rw [gp_un (show ¬ (24 = 682 + x ∧ 2 = 10) by omega), gp_un (show ¬ (722 = 729 ∧ 10 = 13 * x + 9) by omega)]
  refine hT.set x (fun i hi hij k hk => ?_) (fun i hi hij f hf => ?_) (fun _ => ?_) (fun _ hl => ?_)
  · show gx_up _ _ _ _ (682 + i) k = σ (682 + i) k
    rw [gp_un (by omega)]
  · show gx_up _ _ _ _ 729 (13 * i + f) = τ 729 (13 * i + f)
    rw [gp_un (by omega)]
  · refine (hT.1 x hx).st (s := s) (fun k hk => ?_) (fun f hf => ?_) gp_us gp_us (by rcases hs with rfl | rfl | rfl <;> decide) (fun h => ?_) (fun h => ?_)
    · show gx_up _ _ _ _ (682 + x) k = σ (682 + x) k
      rw [gp_un (by omega)]
    · show gx_up _ _ _ _ 729 (13 * x + f) = τ 729 (13 * x + f)
      rw [gp_un (by omega)]
    · rcases hs with rfl | rfl | rfl <;> exact absurd h (by unfold gr_tm; decide)
    · rcases hs with rfl | rfl | rfl <;> exact absurd h (by decide)
  · have e : gr_c (gx_up σ (682 + x) 10 s) x 10 = s := gp_us
    rw [e] at hl
    rcases hs with rfl | rfl | rfl <;> exact absurd hl (by unfold gr_ln; decide)
theorem gp_mholdY {N n j : Nat} {τ : gx_M} {w : Int32} (hV : gp_V τ n) (hN : 40 < N) (hp : 0 ≤ w ∧ w ≤ 5) (hf : gp_ff (fun j => decide (τ 729 (13 * j + 9) = 2 ∧ τ 729 (13 * j + 11) = w)) n 0 = some j) : fn_Mo_holding N w τ = some (nI j, τ) := by
  rw [gp_mhold hV hN, if_pos hp, hf]
theorem gp_mholdN {N n : Nat} {τ : gx_M} {w : Int32} (hV : gp_V τ n) (hN : 40 < N) (hp : 0 ≤ w ∧ w ≤ 5) (hf : gp_ff (fun j => decide (τ 729 (13 * j + 9) = 2 ∧ τ 729 (13 * j + 11) = w)) n 0 = none) : fn_Mo_holding N w τ = some (-4, τ) := by
  rw [gp_mhold hV hN, if_pos hp, hf]
theorem gr_failop (N : Nat) (p : Int32) (hN : 520 < N) : gr_op (fn_Bo_fail N p) (fn_Mo_fail N p) := by
  intro K T σ0 τ0 σ τ h hK hT
  obtain ⟨n, u, hH, hE⟩ := id h
  have hM := hH.2.1
  have h40 := hM.1.2
  have hR := h.mono (K' := K + 200) (T' := T + 1000) (by omega) (by omega) (by omega)
  unfold fn_Bo_fail fn_Mo_fail
  rw [gp_rby hM.1 (by omega), gp_bd, gp_mout, gp_bd, gp_i01]
  cases hf : gp_ff (fun j => decide (σ (682 + j) 10 = 2 ∧ σ (682 + j) 12 = p)) n 0 with
  | none =>
    rw [gp_mn']
    have hf2 := (gr_ff hM p).symm.trans hf
    by_cases hp : 0 ≤ p ∧ p ≤ 5
    · rw [if_pos hp, gp_mholdN hM.2.1 (by omega) hp hf2, gp_bd, if_neg (by decide)]
      exact ⟨_, _, _, rfl, rfl, hR⟩
    · rw [if_neg hp]
      exact ⟨_, _, _, rfl, rfl, hR⟩
  | some j =>
    obtain ⟨hj, hs, hp⟩ := gr_ffw hM hf
    have hf2 := (gr_ff hM p).symm.trans hf
    have hin := gp_in (i := j) (n := 40) (M := 40) (by omega) (by decide) (by decide)
    obtain ⟨σ1, τ1, q1, q2, q3, q4, q5, -⟩ := gr_fail (t := σ 0 4) hM (show 40 < N by omega) hj hs hH.2.2.2.2.2.2.2.1.symm (by omega)
    have hH1 := hH.step q3 (by omega) q4 q5
    obtain ⟨σ2, τ2, w1, w2, w3, w4⟩ := gr_write hH1 hN
    have e0 : σ2 (682 + j) 0 = nI j := by rw [w4 j (by omega)]; exact (q3.2.2.1.1 j hj).1.1
    rw [gp_ms', if_pos (by omega), q1, gp_bv, w1, gp_bv, e0, if_pos hp, gp_mholdY hM.2.1 (by omega) hp hf2, gp_bd, if_pos hin.1, gp_mholdY hM.2.1 (by omega) hp hf2, gp_bd, q2, gp_bv, w2, gp_bv]
    exact ⟨_, _, _, rfl, rfl, w3.mono (by omega) (by omega) (by omega)⟩
theorem gr_s7 {K : Int} {n j : Nat} {σ τ : gx_M} (h : gr_M K n σ τ) (hj : j < n) : σ (682 + j) 10 = 0 ∨ σ (682 + j) 10 = 1 ∨ σ (682 + j) 10 = 2 ∨ σ (682 + j) 10 = 3 ∨ σ (682 + j) 10 = 4 ∨ σ (682 + j) 10 = 5 ∨ σ (682 + j) 10 = 6 ∨ σ (682 + j) 10 = 7 := by
  have hr : 0 ≤ (σ (682 + j) 10).toInt ∧ (σ (682 + j) 10).toInt ≤ 7 := (h.2.2.1.1 j hj).2.2.2.2.2.2.2.2.1
  obtain ⟨s, hs, e⟩ := gp_of (x := σ (682 + j) 10) (n := 8) hr.1 (by omega)
  rw [e]
  rcases (show s = 0 ∨ s = 1 ∨ s = 2 ∨ s = 3 ∨ s = 4 ∨ s = 5 ∨ s = 6 ∨ s = 7 by omega) with rfl | rfl | rfl | rfl | rfl | rfl | rfl | rfl <;> decide
theorem gr_kill (N : Nat) (p : Int32) (hN : 520 < N) : gr_op (fn_Bo_kill N p) (fn_Mo_kill N p) := by
  intro K T σ0 τ0 σ τ h hK hT
  obtain ⟨n, u, hH, hE⟩ := id h
  have hM := hH.2.1
  have h40 := hM.1.2
  have hR := h.mono (K' := K + 200) (T' := T + 1000) (by omega) (by omega) (by omega)
  unfold fn_Bo_kill fn_Mo_kill
  by_cases hp : 0 ≤ p.toInt ∧ p.toInt < n
  · obtain ⟨j, hj, rfl⟩ := gp_of hp.1 hp.2
    rw [gp_findY hM.1 hj, gp_bd, gp_ms', if_pos (by omega), gp_isLive (by omega), gp_bd, gp_mnoY hM.2.1 hj, gp_bd, if_pos rfl, gp_of9 (by omega), gp_bd, ← gr_10 hM hj]
    have go : (σ (682 + j) 10 = 0 ∨ σ (682 + j) 10 = 1 ∨ σ (682 + j) 10 = 3 ∨ σ (682 + j) 10 = 6) → ∃ (r : Int32) (σ' τ' : gx_M), gx_bv (fn_Ro_bury N 24 (682 + j) σ) (fun σ_11 => gx_bv (fn_Jn_write N 24 σ_11) (fun σ_13 => some ((0 : Int32), σ_13))) = some (r, σ') ∧ gx_bv (fn_Mo_die N (nI j) τ) (fun σ_9 => gx_bv (fn_Mo_note N σ_9) (fun σ_11 => some ((0 : Int32), σ_11))) = some (r, τ') ∧ gr_R (K + 200) (T + 1000) σ0 τ0 σ' τ' := by
      intro hs
      obtain ⟨σ1, τ1, q1, q2, q3, q4, q5, -⟩ := gr_bury hM (show 40 < N by omega) hj (by rcases hs with q | q | q | q <;> rw [q] <;> decide) (by omega)
      obtain ⟨σ2, τ2, w1, w2, w3, w4⟩ := gr_write (hH.step q3 (by omega) q4 q5) hN
      rw [q1, gp_bv, w1, gp_bv, q2, gp_bv, w2, gp_bv]
      exact ⟨_, _, _, rfl, rfl, w3.mono (by omega) (by omega) (by omega)⟩
    rcases gr_s7 hM hj with q | q | q | q | q | q | q | q
    · have := go (by simp [q])
      rw [q]
      exact this
    · have := go (by simp [q])
      rw [q]
      exact this
    · rw [q]
      exact ⟨_, _, _, rfl, rfl, hR⟩
    · have := go (by simp [q])
      rw [q]
      exact this
    · rw [q]
      exact ⟨_, _, _, rfl, rfl, hR⟩
    · rw [q]
      exact ⟨_, _, _, rfl, rfl, hR⟩
    · have := go (by simp [q])
      rw [q]
      exact this
    · rw [q]
      exact ⟨_, _, _, rfl, rfl, hR⟩
  · rw [gp_findN hM.1 hp, gp_bd, gp_mn', gp_mnoN hM.2.1 hp, gp_bd, if_neg (by decide)]
    exact ⟨_, _, _, rfl, rfl, hR⟩

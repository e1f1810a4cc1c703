theorem gr_keyeq {K : Int} {n : Nat} {σ τ : gx_M} (h : gr_M K n σ τ) {w : Int32} (hw : -1 ≤ w.toInt) : (if w ≠ -1 ∧ (gp_ff (fun j => decide (σ (682 + j) 5 = w ∧ ¬ (σ (682 + j) 10 = 4 ∨ σ (682 + j) 10 = 5 ∨ σ (682 + j) 10 = 7))) n 0).isSome = true then (1 : Int32) else 0) = (if ¬ w < 0 ∧ (gp_ff (fun j => decide ((τ 729 (13 * j + 9) < 4 ∨ τ 729 (13 * j + 9) = 6) ∧ τ 729 (13 * j + 5) = w)) n 0).isSome = true then (1 : Int32) else 0) := by
  have e : gp_ff (fun j => decide (σ (682 + j) 5 = w ∧ ¬ (σ (682 + j) 10 = 4 ∨ σ (682 + j) 10 = 5 ∨ σ (682 + j) 10 = 7))) n 0 = gp_ff (fun j => decide ((τ 729 (13 * j + 9) < 4 ∨ τ 729 (13 * j + 9) = 6) ∧ τ 729 (13 * j + 5) = w)) n 0 := by
    refine gp_ff_c (fun j _ hj => ?_)
    have e5 : σ (682 + j) 5 = τ 729 (13 * j + 5) := (h.2.2.1.1 j (by omega)).1.2.2.2.2.2.1
    rw [decide_eq_decide, ← gr_10 h (by omega), ← e5]
    rcases gr_s7 h (show j < n by omega) with q | q | q | q | q | q | q | q <;> rw [q] <;> simp <;> decide
  have hw' : (w ≠ -1) ↔ ¬ w < 0 := by
    rw [gp_lt, ne_eq, gp_eq, gp_t0, gp_tm1]
    omega
  rw [e]
  simp only [hw']
theorem gr_revive (N : Nat) (p : Int32) (hN : 520 < N) : gr_op (fn_Bo_revive N p) (fn_Mo_revive N p) := by
  intro K T σ0 τ0 σ τ h hK hT
  obtain ⟨n, u, hH, hE⟩ := id h
  have hM := hH.2.1
  have h40 := hM.1.2
  have hR := h.mono (K' := K + 200) (T' := T + 1000) (by omega) (by omega) (by omega)
  unfold fn_Bo_revive fn_Mo_revive
  by_cases hp : 0 ≤ p.toInt ∧ p.toInt < n
  · obtain ⟨j, hj, rfl⟩ := gp_of hp.1 hp.2
    have hJ := hM.2.2.1.1 j hj
    have e5 : σ (682 + j) 5 = τ 729 (13 * j + 5) := hJ.1.2.2.2.2.2.1
    have k5 : -1 ≤ (σ (682 + j) 5).toInt := hJ.2.2.2.2.2.2.2.2.2
    rw [gp_findY hM.1 hj, gp_bd, gp_ms', if_pos (by omega), gp_hasLiveKey hM.1 (by omega), gp_bd, gp_mnoY hM.2.1 hj, gp_bd, if_pos rfl, gp_of9 (by omega), gp_bd, gp_of5 (by omega), gp_bd, gp_mkey hM.2.1 (by omega), gp_bd, ← gr_10 hM hj, ← e5, gr_keyeq hM k5]
    by_cases c5 : σ (682 + j) 10 = 5
    · rw [if_pos c5, if_pos c5]
      by_cases ck : (if ¬ σ (682 + j) 5 < 0 ∧ (gp_ff (fun j_1 => decide ((τ 729 (13 * j_1 + 9) < 4 ∨ τ 729 (13 * j_1 + 9) = 6) ∧ τ 729 (13 * j_1 + 5) = σ (682 + j) 5)) n 0).isSome = true then (1 : Int32) else 0) = 0
      · rw [if_pos ck, if_pos ck, gp_lt', gr_enter_c (by omega), gp_bv, gp_se4 (by omega), gp_bv, gr_enter_m (by omega), gp_bv]
        have hK0 := hM.2.2.2.2.2.1
        have hM1 := hM.fl (v := 0) hj (by rw [gp_t0]; omega)
        obtain ⟨q1, q2, q3⟩ := gr_enter (s := 1) hM1 hj (Or.inl rfl) (by omega)
        obtain ⟨σ2, τ2, w1, w2, w3, w4⟩ := gr_write (hH.step q1 (by omega) ((gr_Ac.up (by omega) (by decide)).tr q2) (gr_Am.up.tr q3)) hN
        rw [w1, gp_bv, w2, gp_bv]
        exact ⟨_, _, _, rfl, rfl, w3.mono (by omega) (by omega) (by omega)⟩
      · rw [if_neg ck, if_neg ck]
        exact ⟨_, _, _, rfl, rfl, hR⟩
    · rw [if_neg c5, if_neg c5]
      exact ⟨_, _, _, rfl, rfl, hR⟩
  · rw [gp_findN hM.1 hp, gp_bd, gp_mn', gp_mnoN hM.2.1 hp, gp_bd, if_neg (by decide)]
    exact ⟨_, _, _, rfl, rfl, hR⟩
theorem gr_seal (N : Nat) (p : Int32) (hN : 520 < N) : gr_op (fn_Bo_seal N p) (fn_Mo_seal N p) := by
  intro K T σ0 τ0 σ τ h hK hT
  obtain ⟨n, u, hH, hE⟩ := id h
  have hM := hH.2.1
  have h40 := hM.1.2
  have hR := h.mono (K' := K + 200) (T' := T + 1000) (by omega) (by omega) (by omega)
  unfold fn_Bo_seal fn_Mo_seal
  by_cases hp : 0 ≤ p.toInt ∧ p.toInt < n
  · obtain ⟨j, hj, rfl⟩ := gp_of hp.1 hp.2
    have hJ := hM.2.2.1.1 j hj
    have e9 : σ (682 + j) 9 = τ 729 (13 * j + 8) := hJ.1.2.2.2.2.2.2.2.2.2.1
    have e8 : σ (682 + j) 8 = τ 729 (13 * j + 7) := hJ.1.2.2.2.2.2.2.2.2.1
    have s9 : σ (682 + j) 9 = 0 ∨ σ (682 + j) 9 = 1 := hJ.2.2.2.2.2.2.2.1
    rw [gp_findY hM.1 hj, gp_bd, gp_ms', if_pos (by omega), gp_mnoY hM.2.1 hj, gp_bd, if_pos rfl, gp_of9 (by omega), gp_bd, gp_of8 (by omega), gp_bd, gp_se8 (by omega), gp_bv, gp_of7 (by omega), gp_bd, gp_un (show ¬ (729 = 729 ∧ 13 * j + 7 = 13 * j + 8) by omega), ← gr_10 hM hj, ← e9, ← e8]
    by_cases c6 : σ (682 + j) 10 = 6
    · rw [if_pos c6, if_pos c6]
      rcases s9 with q | q
      · rw [q, if_pos rfl, if_neg (by decide), gp_lt']
        have hM1 := hM.sl (v := 1) hj (Or.inr rfl)
        unfold fn_Ro_releaseIfComplete
        rw [if_pos (by decide), if_pos (by omega), gp_un (show ¬ (682 + j = 682 + j ∧ 10 = 9) by omega), if_pos c6, gp_us, if_neg (by decide), gp_un (show ¬ (682 + j = 682 + j ∧ 8 = 9) by omega)]
        by_cases c8 : σ (682 + j) 8 = 0
        · rw [if_pos c8, if_pos c8, gr_enter_c (by omega), gp_bv, gp_bv, gr_enter_m (by omega), gp_bv]
          obtain ⟨q1, q2, q3⟩ := gr_enter (s := 1) hM1 hj (Or.inl rfl) (by omega)
          obtain ⟨σ2, τ2, w1, w2, w3, w4⟩ := gr_write (hH.step q1 (by omega) ((gr_Ac.up (by omega) (by decide)).tr q2) (gr_Am.up.tr q3)) hN
          rw [w1, gp_bv, w2, gp_bv]
          exact ⟨_, _, _, rfl, rfl, w3.mono (by omega) (by omega) (by omega)⟩
        · rw [if_neg c8, if_neg c8, gp_bv]
          obtain ⟨σ2, τ2, w1, w2, w3, w4⟩ := gr_write (hH.step hM1 (Int.le_refl _) (gr_Ac.up (by omega) (by decide)) gr_Am.up) hN
          rw [w1, gp_bv, w2, gp_bv]
          exact ⟨_, _, _, rfl, rfl, w3.mono (by omega) (by omega) (by omega)⟩
      · rw [q, if_neg (by decide), if_pos rfl]
        exact ⟨_, _, _, rfl, rfl, hR⟩
    · rw [if_neg c6, if_neg c6]
      exact ⟨_, _, _, rfl, rfl, hR⟩
  · rw [gp_findN hM.1 hp, gp_bd, gp_mn', gp_mnoN hM.2.1 hp, gp_bd, if_neg (by decide)]
    exact ⟨_, _, _, rfl, rfl, hR⟩
theorem gr_join (N : Nat) (p c : Int32) (hN : 520 < N) : gr_op (fn_Bo_join N p c) (fn_Mo_join N p c) := by
  intro K T σ0 τ0 σ τ h hK hT
  obtain ⟨n, u, hH, hE⟩ := id h
  have hM := hH.2.1
  have h40 := hM.1.2
  have hR := h.mono (K' := K + 200) (T' := T + 1000) (by omega) (by omega) (by omega)
  unfold fn_Bo_join fn_Mo_join
  by_cases hp : 0 ≤ p.toInt ∧ p.toInt < n
  · obtain ⟨j, hj, rfl⟩ := gp_of hp.1 hp.2
    rw [gp_findY hM.1 hj, gp_bd, gp_ms', if_pos (by omega), gp_mnoY hM.2.1 hj, gp_bd, if_pos rfl]
    by_cases hc : 0 ≤ c.toInt ∧ c.toInt < n
    · obtain ⟨x, hx, rfl⟩ := gp_of hc.1 hc.2
      have hJ := hM.2.2.1.1 j hj
      have e7 : σ (682 + j) 7 = τ 729 (13 * j + 6) := hJ.1.2.2.2.2.2.2.2.1
      have c7 : σ (682 + j) 7 = -1 ∨ ∃ y, y < n ∧ σ (682 + j) 7 = nI y := hJ.2.2.2.2.2.2.1
      rw [gp_findY hM.1 hx, gp_bd, gp_ms', if_pos (by omega), gp_isLive (by omega), gp_bd, gp_mnoY hM.2.1 hx, gp_bd, if_pos rfl, gp_misLive (by omega), gp_bd, gp_of6 (by omega), gp_bd, gp_of9 (by omega), gp_bd, ← gr_10 hM hj, ← gr_10 hM hx, ← e7]
      by_cases hjx : nI j = nI x
      · rw [if_pos hjx, if_pos hjx]
        have fin : ∀ (A B C : Prop) [Decidable A] [Decidable B] [Decidable C], ∃ r σ' τ', some ((-1 : Int32), σ) = some (r, σ') ∧ (if A then some ((-1 : Int32), τ) else if B then some ((-1 : Int32), τ) else if C then some ((-1 : Int32), τ) else some ((-1 : Int32), τ)) = some (r, τ') ∧ gr_R (K + 200) (T + 1000) σ0 τ0 σ' τ' := by
          intro A B C _ _ _
          refine ⟨_, _, τ, rfl, ?_, hR⟩
          simp
        exact fin _ _ _
      · rw [if_neg hjx, if_neg hjx]
        have hxj : x ≠ j := fun e => hjx (by rw [e])
        by_cases cl : σ (682 + j) 10 = 4 ∨ σ (682 + j) 10 = 5 ∨ σ (682 + j) 10 = 7
        · have cm : ¬ (σ (682 + j) 10 < 4 ∨ σ (682 + j) 10 = 6) := by rcases cl with q | q | q <;> rw [q] <;> decide
          rw [if_pos cl, if_pos rfl, if_neg cm, if_pos rfl]
          exact ⟨_, _, _, rfl, rfl, hR⟩
        · have cm : σ (682 + j) 10 < 4 ∨ σ (682 + j) 10 = 6 := by
            rcases gr_s7 hM hj with q | q | q | q | q | q | q | q <;> rw [q] at cl ⊢ <;> revert cl <;> decide
          rw [if_neg cl, if_neg (show ¬ (1 : Int32) = 0 by decide), if_pos cm, if_neg (show ¬ (1 : Int32) = 0 by decide)]
          by_cases c1 : σ (682 + j) 7 = -1
          · rw [if_pos c1, if_neg (show ¬ 0 ≤ σ (682 + j) 7 by rw [c1]; decide)]
            by_cases c6 : σ (682 + x) 10 = 6
            · have e8 : σ (682 + x) 8 = τ 729 (13 * x + 7) := (hM.2.2.1.1 x hx).1.2.2.2.2.2.2.2.2.1
              rw [if_pos c6, if_pos c6, gp_lt', gp_lt', gp_se6 (by omega), gp_bv, gp_of7 (by omega), gp_bd, gp_se7 (by omega), gp_bv, gp_un (show ¬ (682 + x = 682 + j ∧ 8 = 7) by omega), gp_un (show ¬ (729 = 729 ∧ 13 * x + 7 = 13 * j + 6) by omega), ← e8]
              have hM1 := hM.cb (v := nI x) hj (Or.inr ⟨x, hx, rfl⟩)
              have hM2 := hM1.mb (v := σ (682 + x) 8 + 1) hx trivial
              obtain ⟨σ2, τ2, w1, w2, w3, w4⟩ := gr_write (hH.step hM2 (Int.le_refl _) ((gr_Ac.up (by omega) (by decide)).tr (gr_Ac.up (by omega) (by decide))) (gr_Am.up.tr gr_Am.up)) hN
              rw [w1, gp_bv, w2, gp_bv]
              exact ⟨_, _, _, rfl, rfl, w3.mono (by omega) (by omega) (by omega)⟩
            · rw [if_neg c6, if_neg c6]
              exact ⟨_, _, _, rfl, rfl, hR⟩
          · rcases c7 with q | ⟨y, hy, q⟩
            · exact absurd q c1
            · rw [if_neg c1, if_pos (show 0 ≤ σ (682 + j) 7 by rw [q]; exact (gp_in (i := y) (n := 40) (M := 40) (by omega) (by decide) (by decide)).1)]
              exact ⟨_, _, _, rfl, rfl, hR⟩
    · rw [gp_findN hM.1 hc, gp_bd, gp_mn', gp_mnoN hM.2.1 hc, gp_bd, if_neg (by decide)]
      exact ⟨_, _, _, rfl, rfl, hR⟩
  · rw [gp_findN hM.1 hp, gp_bd, gp_mn', gp_mnoN hM.2.1 hp, gp_bd, if_neg (by decide)]
    by_cases hc : 0 ≤ c.toInt ∧ c.toInt < n
    · obtain ⟨x, hx, rfl⟩ := gp_of hc.1 hc.2
      rw [gp_findY hM.1 hx, gp_bd, gp_ms', if_pos (by omega)]
      exact ⟨_, _, _, rfl, rfl, hR⟩
    · rw [gp_findN hM.1 hc, gp_bd, gp_mn']
      exact ⟨_, _, _, rfl, rfl, hR⟩

theorem gr_submit (N : Nat) (p r d l b : Int32) (hN : 520 < N) : gr_op (fn_Bo_submit N p r d l b) (fn_Mo_submit N p r d l b) := by
  intro K T σ0 τ0 σ τ h hK hT
  obtain ⟨n, u, hH, hE⟩ := id h
  have hM := hH.2.1
  have h40 := hM.1.2
  have hR := h.mono (K' := K + 200) (T' := T + 1000) (by omega) (by omega) (by omega)
  obtain ⟨sS0, sS4, sSt, sS5, sSk⟩ := hH.2.2.2.2.2.2
  unfold fn_Bo_submit fn_Mo_submit
  rw [gp_isQueue, gp_bd, gp_within, gp_bd, gp_within, gp_bd, gp_within, gp_bd, gp_within, gp_bd, gp_mout, gp_bd, gp_mout, gp_bd, gp_mout, gp_bd, gp_mout, gp_bd, gp_mout, gp_bd, gp_i10, gp_i10, gp_i10, gp_i10, gp_i10, gp_i01, gp_i01, gp_i01, gp_i01, gp_i01]
  by_cases c1 : ¬ (0 ≤ p ∧ p ≤ 3)
  · rw [if_neg c1, if_neg c1]
    exact ⟨_, _, _, rfl, rfl, hR⟩
  replace c1 := Decidable.not_not.mp c1
  rw [if_pos c1, if_pos c1]
  by_cases c2 : ¬ (0 ≤ r ∧ r ≤ 9)
  · rw [if_neg c2, if_neg c2]
    exact ⟨_, _, _, rfl, rfl, hR⟩
  replace c2 := Decidable.not_not.mp c2
  rw [if_pos c2, if_pos c2]
  by_cases c3 : ¬ (0 ≤ d ∧ d ≤ 1000)
  · rw [if_neg c3, if_neg c3]
    exact ⟨_, _, _, rfl, rfl, hR⟩
  replace c3 := Decidable.not_not.mp c3
  rw [if_pos c3, if_pos c3]
  by_cases c4 : ¬ (0 ≤ l ∧ l ≤ 5)
  · rw [if_neg c4, if_neg c4]
    exact ⟨_, _, _, rfl, rfl, hR⟩
  replace c4 := Decidable.not_not.mp c4
  rw [if_pos c4, if_pos c4]
  by_cases c5 : ¬ (1 ≤ b ∧ b ≤ 50)
  · rw [if_neg c5, if_neg c5]
    exact ⟨_, _, _, rfl, rfl, hR⟩
  replace c5 := Decidable.not_not.mp c5
  rw [if_pos c5, if_pos c5, gp_hasLiveKey hM.1 (by omega), gp_bd, gp_mkey hM.2.1 (by omega), gp_bd, ← sS5, gr_keyeq hM sSk]
  by_cases ck : ¬ ((if ¬ σ 0 5 < 0 ∧ (gp_ff (fun j_1 => decide ((τ 729 (13 * j_1 + 9) < 4 ∨ τ 729 (13 * j_1 + 9) = 6) ∧ τ 729 (13 * j_1 + 5) = σ 0 5)) n 0).isSome = true then (1 : Int32) else 0) = 0)
  · rw [if_neg ck, if_neg ck]
    exact ⟨_, _, _, rfl, rfl, hR⟩
  replace ck := Decidable.not_not.mp ck
  rw [if_pos ck, if_pos ck, hM.2.1.1]
  by_cases hn : ¬ (n < 40)
  · obtain rfl : n = 40 := by omega
    rw [gb_full hM.1.1, gp_bd, gp_mn', if_pos (by decide)]
    exact ⟨_, _, _, rfl, rfl, hR⟩
  replace hn := Decidable.not_not.mp hn
  rw [gb_make hM.1.1 hn, gp_bd, gp_ms', if_pos (by omega), if_neg (by rw [gp_eq, gp_nI (by omega)]; show ¬ (n : Int) = 40; omega), gm_make hM.2.1.1 hn (by omega), gp_bd]
  simp only [gp_lt']
  have hK0 := hM.2.2.2.2.2.1
  have v4 : 0 ≤ l.toInt ∧ l.toInt ≤ 5 := by simp only [gp_le, gp_t0, gp_t5] at c4; exact c4
  have v5 : 1 ≤ b.toInt ∧ b.toInt ≤ 50 := by simp only [gp_le, gp_t1, gp_t50] at c5; exact c5
  -- the class's row so far
  obtain ⟨σ1, e1⟩ : ∃ z, z = gx_up (gx_up (gx_up (gx_up (gb_c (gx_up σ 24 1 (nI (n + 1))) (682 + n) p r) (682 + n) 3 l) (682 + n) 4 b) (682 + n) 5 (σ 0 5)) 0 5 (-1) := ⟨_, rfl⟩
  have r05 : gx_up (gx_up (gb_c (gx_up σ 24 1 (nI (n + 1))) (682 + n) p r) (682 + n) 3 l) (682 + n) 4 b 0 5 = σ 0 5 := by
    rw [gp_un (by omega), gp_un (by omega)]
    unfold gb_c
    rw [if_neg (by omega), gp_un (by omega)]
  rw [r05, ← e1]
  have xo : ∀ a c, ¬ (a = 682 + n ∧ 1 ≤ c ∧ c ≤ 13) → ¬ (a = 24 ∧ c = 1) → ¬ (a = 0 ∧ c = 5) → σ1 a c = σ a c := fun a c g1 g2 g3 => by
    rw [e1, gp_un g3, gp_un (by omega), gp_un (by omega), gp_un (by omega)]
    unfold gb_c
    rw [if_neg g1, gp_un g2]
  have xr : ∀ k, 1 ≤ k → k ≤ 13 → k ≠ 3 → k ≠ 4 → k ≠ 5 → σ1 (682 + n) k = gb_row p r k := fun k g1 g2 g3 g4 g5 => by
    rw [e1, gp_un (by omega), gp_un (by omega), gp_un (by omega), gp_un (by omega)]
    exact if_pos ⟨rfl, g1, g2⟩
  have x3 : σ1 (682 + n) 3 = l := by rw [e1, gp_un (by omega), gp_un (by omega), gp_un (by omega), gp_us]
  have x4 : σ1 (682 + n) 4 = b := by rw [e1, gp_un (by omega), gp_un (by omega), gp_us]
  have x5 : σ1 (682 + n) 5 = σ 0 5 := by rw [e1, gp_un (by omega), gp_us]
  have x05 : σ1 0 5 = -1 := by rw [e1, gp_us]
  have x241 : σ1 24 1 = nI (n + 1) := by
    rw [e1, gp_un (by omega), gp_un (by omega), gp_un (by omega), gp_un (by omega)]
    unfold gb_c
    rw [if_neg (by omega), gp_us]
  have x0 : σ1 (682 + n) 0 = nI n := by
    rw [xo _ _ (by omega) (by omega) (by omega), hH.2.2.2.2.1 _ (by omega) (by omega)]
    congr 1
    omega
  -- the reference's
  obtain ⟨τ1, f1⟩ : ∃ z, z = gx_up (gm_r (gx_up τ 722 9 (nI (n + 1))) n p r l b (σ 0 5)) 722 8 (-1) := ⟨_, rfl⟩
  rw [← f1]
  have yo : ∀ a c, ¬ (a = 729 ∧ 13 * n ≤ c ∧ c < 13 * n + 13) → ¬ (a = 722 ∧ (c = 8 ∨ c = 9)) → τ1 a c = τ a c := fun a c g1 g2 => by
    rw [f1, gp_un (by omega)]
    unfold gm_r
    rw [if_neg g1, gp_un (by omega)]
  have yr : ∀ f, f < 13 → τ1 729 (13 * n + f) = gm_row p r l b (σ 0 5) f := fun f g1 => by
    rw [f1, gp_un (by omega)]
    unfold gm_r
    rw [if_pos (by omega), show 13 * n + f - 13 * n = f by omega]
  have y8 : τ1 722 8 = -1 := by rw [f1, gp_us]
  have y9 : τ1 722 9 = nI (n + 1) := by
    rw [f1, gp_un (by omega)]
    unfold gm_r
    rw [if_neg (by omega), gp_us]
  have now1 : τ1 722 1 = σ 0 4 := (yo _ _ (by omega) (by omega)).trans sS4.symm
  have t1 : σ1 0 4 = σ 0 4 := xo _ _ (by omega) (by omega) (by omega)
  have fin : ∀ σ2 τ2 : gx_M, gr_H (K + 1) T σ0 τ0 (n + 1) u σ2 τ2 → σ2 (682 + n) 0 = nI n → ∃ (q : Int32) (σ' τ' : gx_M), gx_bv (fn_Jn_write N 24 σ2) (fun σ_37 => some (σ_37 (682 + n) 0, σ_37)) = some (q, σ') ∧ gx_bv (fn_Mo_note N τ2) (fun σ_33 => some (nI n, σ_33)) = some (q, τ') ∧ gr_R (K + 200) (T + 1000) σ0 τ0 σ' τ' := by
    intro σ2 τ2 hh h0
    obtain ⟨σ3, τ3, w1, w2, w3, w4⟩ := gr_write hh hN
    have e0 : σ3 (682 + n) 0 = nI n := by rw [w4 n hn]; exact h0
    rw [w1, gp_bv, e0, w2, gp_bv]
    exact ⟨_, _, _, rfl, rfl, w3.mono (by omega) (by omega) (by omega)⟩
  by_cases hd : d = 0
  · rw [if_pos hd, if_pos hd, gr_enter_c hn, gp_bv, gr_enter_m hn, gp_bv, gp_se10 hn, gp_bv, gr_em_n (show ¬ (722 = 729 ∧ (1 = 13 * n + 9 ∨ 1 = 13 * n + 12)) ∧ ¬ (722 = 722 ∧ 1 = 10) by omega), now1]
    have st1 : σ1 24 2 = σ 24 2 := xo _ _ (by omega) (by omega) (by omega)
    have od1 : τ1 722 10 = τ 722 10 := yo _ _ (by omega) (by omega)
    have X : ∀ a c, ¬ (a = 682 + n ∧ 1 ≤ c ∧ c ≤ 13) → ¬ (a = 24 ∧ (c = 1 ∨ c = 2)) → ¬ (a = 0 ∧ c = 5) → gr_ec σ1 n 1 a c = σ a c := fun a c g1 g2 g3 => by
      rw [gr_ec_n (by omega)]
      exact xo _ _ g1 (by omega) g3
    have Y : ∀ a c, ¬ (a = 729 ∧ 13 * n ≤ c ∧ c < 13 * n + 13) → ¬ (a = 722 ∧ (c = 8 ∨ c = 9 ∨ c = 10)) → gx_up (gr_em τ1 n 1) 729 (13 * n + 10) (σ 0 4 + d) a c = τ a c := fun a c g1 g2 => by
      rw [gp_un (by omega), gr_em_n (by omega)]
      exact yo _ _ g1 (by omega)
    have xk : ∀ k, k ≠ 10 → k ≠ 13 → gr_c (gr_ec σ1 n 1) n k = σ1 (682 + n) k := fun k g1 g2 => gr_ec_n (by omega)
    have yk : ∀ f, f < 13 → f ≠ 9 → f ≠ 10 → f ≠ 12 → gr_m (gx_up (gr_em τ1 n 1) 729 (13 * n + 10) (σ 0 4 + d)) n f = gm_row p r l b (σ 0 5) f := fun f g0 g1 g2 g3 => by
      show gx_up _ _ _ _ 729 (13 * n + f) = _
      rw [gp_un (by omega), gr_em_n (by omega)]
      exact yr f g0
    have x10 : gr_c (gr_ec σ1 n 1) n 10 = 1 := gr_ec_10
    have yn9 : gr_m (gx_up (gr_em τ1 n 1) 729 (13 * n + 10) (σ 0 4 + d)) n 9 = 1 := by
      show gx_up _ _ _ _ 729 (13 * n + 9) = _
      rw [gp_un (by omega)]
      exact gr_em_9
    have hJ : gr_J K (n + 1) n (gr_c (gr_ec σ1 n 1) n) (gr_m (gx_up (gr_em τ1 n 1) 729 (13 * n + 10) (σ 0 4 + d)) n) := by
      unfold gr_J
      rw [x10, yn9, xk 0 (by decide) (by decide), xk 1 (by decide) (by decide), xk 2 (by decide) (by decide), xk 3 (by decide) (by decide), xk 4 (by decide) (by decide), xk 5 (by decide) (by decide), xk 6 (by decide) (by decide), xk 7 (by decide) (by decide), xk 8 (by decide) (by decide), xk 9 (by decide) (by decide), yk 0 (by decide) (by decide) (by decide) (by decide), yk 1 (by decide) (by decide) (by decide) (by decide), yk 2 (by decide) (by decide) (by decide) (by decide), yk 3 (by decide) (by decide) (by decide) (by decide), yk 4 (by decide) (by decide) (by decide) (by decide), yk 5 (by decide) (by decide) (by decide) (by decide), yk 6 (by decide) (by decide) (by decide) (by decide), yk 7 (by decide) (by decide) (by decide) (by decide), yk 8 (by decide) (by decide) (by decide) (by decide), x0, x3, x4, x5, xr 1 (by decide) (by decide) (by decide) (by decide) (by decide), xr 2 (by decide) (by decide) (by decide) (by decide) (by decide), xr 6 (by decide) (by decide) (by decide) (by decide) (by decide), xr 7 (by decide) (by decide) (by decide) (by decide) (by decide), xr 8 (by decide) (by decide) (by decide) (by decide) (by decide), xr 9 (by decide) (by decide) (by decide) (by decide) (by decide)]
      exact ⟨⟨rfl, rfl, rfl, rfl, rfl, rfl, rfl, rfl, rfl, rfl, rfl⟩, fun hh => absurd hh (show ¬ gr_tm 1 by unfold gr_tm; decide), fun hh => absurd hh (show ¬ (1 : Int32) = 2 by decide), v4, v5, ⟨show (0 : Int) ≤ 0 by decide, show (0 : Int) ≤ K by omega⟩, Or.inl rfl, Or.inl rfl, (show (0 : Int) ≤ (1 : Int32).toInt ∧ (1 : Int32).toInt ≤ 7 by decide), sSk⟩
    obtain ⟨q1, q2⟩ := gr_grow (σ' := gr_ec σ1 n 1) (τ' := gx_up (gr_em τ1 n 1) 729 (13 * n + 10) (σ 0 4 + d)) hM hn (by rw [gr_ec_n (by omega)]; exact x241) (by rw [gp_un (by omega), gr_em_n (by omega)]; exact y9) (fun i hi k hk => X _ _ (by omega) (by omega) (by omega)) (fun i hi f hf => Y _ _ (by omega) (by omega)) hJ (Or.inr ⟨by rw [gr_ec_13]; exact st1, by rw [gp_un (by omega), gr_em_12]; exact od1, by rw [gr_ec_s, st1], by rw [gp_un (by omega), gr_em_s, od1]⟩) (by omega)
    refine fin _ _ (hH.gen (T' := T) q1 (by omega) (fun o k g1 g2 g3 => X _ _ (by omega) (by omega) (by omega)) (fun o g1 g2 => X _ _ (by omega) (by omega) (by omega)) (fun o k ho => Y _ _ (by omega) (by omega)) (Y _ _ (by omega) (by omega)) q2 (hH.2.2.2.2.2.1.keep (fun q hq k => X _ _ (by omega) (by omega) (by omega)) (X _ _ (by omega) (by omega) (by omega)) (fun o k g1 g2 => Y _ _ (by omega) (by omega))) ?_) ?_
    · refine ⟨?_, ?_, ?_, ?_, ?_⟩
      · rw [X _ _ (by omega) (by omega) (by omega), Y _ _ (by omega) (by omega)]; exact sS0
      · rw [X _ _ (by omega) (by omega) (by omega), Y _ _ (by omega) (by omega)]; exact sS4
      · rw [X _ _ (by omega) (by omega) (by omega)]; exact sSt
      · rw [gr_ec_n (by omega), x05, gp_un (by omega), gr_em_n (by omega), y8]
      · rw [gr_ec_n (by omega), x05]; decide
    · rw [gr_ec_n (by omega)]; exact x0
  · rw [if_neg hd, if_neg hd, gp_se10 hn, gp_bv, now1, t1]
    unfold fn_Jb_waitUntil
    rw [if_pos (by omega), gp_lt', gp_lt', gp_bv]
    have X : ∀ a c, ¬ (a = 682 + n ∧ 1 ≤ c ∧ c ≤ 13) → ¬ (a = 24 ∧ c = 1) → ¬ (a = 0 ∧ c = 5) → gx_up (gx_up σ1 (682 + n) 10 0) (682 + n) 11 (σ 0 4 + d) a c = σ a c := fun a c g1 g2 g3 => by
      rw [gp_un (by omega), gp_un (by omega)]
      exact xo _ _ g1 g2 g3
    have Y : ∀ a c, ¬ (a = 729 ∧ 13 * n ≤ c ∧ c < 13 * n + 13) → ¬ (a = 722 ∧ (c = 8 ∨ c = 9)) → gx_up τ1 729 (13 * n + 10) (σ 0 4 + d) a c = τ a c := fun a c g1 g2 => by
      rw [gp_un (by omega)]
      exact yo _ _ g1 g2
    have xk : ∀ k, k ≠ 10 → k ≠ 11 → gr_c (gx_up (gx_up σ1 (682 + n) 10 0) (682 + n) 11 (σ 0 4 + d)) n k = σ1 (682 + n) k := fun k g1 g2 => by
      show gx_up _ _ _ _ (682 + n) k = _
      rw [gp_un (by omega), gp_un (by omega)]
    have yk : ∀ f, f < 13 → f ≠ 10 → gr_m (gx_up τ1 729 (13 * n + 10) (σ 0 4 + d)) n f = gm_row p r l b (σ 0 5) f := fun f g0 g1 => by
      show gx_up _ _ _ _ 729 (13 * n + f) = _
      rw [gp_un (by omega)]
      exact yr f g0
    have x10 : gr_c (gx_up (gx_up σ1 (682 + n) 10 0) (682 + n) 11 (σ 0 4 + d)) n 10 = 0 := by
      show gx_up _ _ _ _ (682 + n) 10 = _
      rw [gp_un (by omega), gp_us]
    have x11 : gr_c (gx_up (gx_up σ1 (682 + n) 10 0) (682 + n) 11 (σ 0 4 + d)) n 11 = σ 0 4 + d := gp_us
    have yn10 : gr_m (gx_up τ1 729 (13 * n + 10) (σ 0 4 + d)) n 10 = σ 0 4 + d := gp_us
    have hJ : gr_J K (n + 1) n (gr_c (gx_up (gx_up σ1 (682 + n) 10 0) (682 + n) 11 (σ 0 4 + d)) n) (gr_m (gx_up τ1 729 (13 * n + 10) (σ 0 4 + d)) n) := by
      unfold gr_J
      rw [x10, x11, yn10, xk 0 (by decide) (by decide), xk 1 (by decide) (by decide), xk 2 (by decide) (by decide), xk 3 (by decide) (by decide), xk 4 (by decide) (by decide), xk 5 (by decide) (by decide), xk 6 (by decide) (by decide), xk 7 (by decide) (by decide), xk 8 (by decide) (by decide), xk 9 (by decide) (by decide), yk 0 (by decide) (by decide), yk 1 (by decide) (by decide), yk 2 (by decide) (by decide), yk 3 (by decide) (by decide), yk 4 (by decide) (by decide), yk 5 (by decide) (by decide), yk 6 (by decide) (by decide), yk 7 (by decide) (by decide), yk 8 (by decide) (by decide), yk 9 (by decide) (by decide), x0, x3, x4, x5, xr 1 (by decide) (by decide) (by decide) (by decide) (by decide), xr 2 (by decide) (by decide) (by decide) (by decide) (by decide), xr 6 (by decide) (by decide) (by decide) (by decide) (by decide), xr 7 (by decide) (by decide) (by decide) (by decide) (by decide), xr 8 (by decide) (by decide) (by decide) (by decide) (by decide), xr 9 (by decide) (by decide) (by decide) (by decide) (by decide)]
      exact ⟨⟨rfl, rfl, rfl, rfl, rfl, rfl, rfl, rfl, rfl, rfl, rfl⟩, fun _ => rfl, fun hh => absurd hh (show ¬ (0 : Int32) = 2 by decide), v4, v5, ⟨show (0 : Int) ≤ 0 by decide, show (0 : Int) ≤ K by omega⟩, Or.inl rfl, Or.inl rfl, (show (0 : Int) ≤ (0 : Int32).toInt ∧ (0 : Int32).toInt ≤ 7 by decide), sSk⟩
    obtain ⟨q1, q2⟩ := gr_grow (σ' := gx_up (gx_up σ1 (682 + n) 10 0) (682 + n) 11 (σ 0 4 + d)) (τ' := gx_up τ1 729 (13 * n + 10) (σ 0 4 + d)) hM hn (by rw [gp_un (by omega), gp_un (by omega)]; exact x241) (by rw [gp_un (by omega)]; exact y9) (fun i hi k hk => X _ _ (by omega) (by omega) (by omega)) (fun i hi f hf => Y _ _ (by omega) (by omega)) hJ (Or.inl ⟨by rw [show gx_up (gx_up σ1 (682 + n) 10 0) (682 + n) 11 (σ 0 4 + d) (682 + n) 10 = 0 from x10]; exact (show ¬ gr_ln 0 by unfold gr_ln; decide), X _ _ (by omega) (by omega) (by omega), Y _ _ (by omega) (by omega)⟩) (by omega)
    refine fin _ _ (hH.gen (T' := T) q1 (by omega) (fun o k g1 g2 g3 => X _ _ (by omega) (by omega) (by omega)) (fun o g1 g2 => X _ _ (by omega) (by omega) (by omega)) (fun o k ho => Y _ _ (by omega) (by omega)) (Y _ _ (by omega) (by omega)) q2 (hH.2.2.2.2.2.1.keep (fun q hq k => X _ _ (by omega) (by omega) (by omega)) (X _ _ (by omega) (by omega) (by omega)) (fun o k g1 g2 => Y _ _ (by omega) (by omega))) ?_) ?_
    · refine ⟨?_, ?_, ?_, ?_, ?_⟩
      · rw [X _ _ (by omega) (by omega) (by omega), Y _ _ (by omega) (by omega)]; exact sS0
      · rw [X _ _ (by omega) (by omega) (by omega), Y _ _ (by omega) (by omega)]; exact sS4
      · rw [X _ _ (by omega) (by omega) (by omega)]; exact sSt
      · rw [gp_un (by omega), gp_un (by omega), x05, gp_un (by omega), y8]
      · rw [gp_un (by omega), gp_un (by omega), x05]; decide
    · rw [gp_un (by omega), gp_un (by omega)]; exact x0

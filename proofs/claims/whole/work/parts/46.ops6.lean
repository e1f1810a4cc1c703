theorem gr_T.pushc {K : Int} {n : Nat} {c m c' m' : Nat → Nat → Int32} {st od st' od' : Int32} (h : gr_T K n c m st od) (hc : ∀ i, i < n → ∀ k, k < 14 → c' i k = c i k) (hm : ∀ i, i < n → ∀ f, f < 13 → m' i f = m i f) (hj : gr_J K (n + 1) n (c' n) (m' n)) (hcj : c' n 13 = st) (hmj : m' n 12 = od) (h0 : 0 ≤ st.toInt) (h1 : 0 ≤ od.toInt) (hs : st'.toInt = st.toInt + 1) (ho : od'.toInt = od.toInt + 1) : gr_T K (n + 1) c' m' st' od' := by
  have h2 := h.congr hc hm
  refine ⟨fun i hi => ?_, fun i hi g1 => ?_, fun i k hi hk g1 g2 => ?_⟩
  · by_cases hin : i = n
    · subst hin
      exact hj
    · exact (h2.1 i (by omega)).mono (Int.le_refl _) (by omega)
  · by_cases hin : i = n
    · subst hin
      rw [hcj, hmj]
      omega
    · have := h2.2.1 i (by omega) g1
      omega
  · by_cases hin : i = n
    · subst hin
      by_cases hkn : k = i
      · subst hkn
        exact ⟨by omega, fun _ => rfl⟩
      · have := h2.2.1 k (by omega) g2
        rw [hcj, hmj]
        exact ⟨by omega, fun _ => by omega⟩
    · by_cases hkn : k = n
      · subst hkn
        have := h2.2.1 i (by omega) g1
        rw [hcj, hmj]
        exact ⟨by omega, fun _ => by omega⟩
      · exact h2.2.2 i k (by omega) (by omega) g1 g2
theorem gr_grow {K : Int} {n : Nat} {σ τ σ' τ' : gx_M} (h : gr_M K n σ τ) (hn : n < 40) (h1 : σ' 24 1 = nI (n + 1)) (h2 : τ' 722 9 = nI (n + 1)) (hc : ∀ i, i < n → ∀ k, k < 14 → σ' (682 + i) k = σ (682 + i) k) (hm : ∀ i, i < n → ∀ f, f < 13 → τ' 729 (13 * i + f) = τ 729 (13 * i + f)) (hJ : gr_J K (n + 1) n (gr_c σ' n) (gr_m τ' n)) (hs : (¬ gr_ln (σ' (682 + n) 10) ∧ σ' 24 2 = σ 24 2 ∧ τ' 722 10 = τ 722 10) ∨ (σ' (682 + n) 13 = σ 24 2 ∧ τ' 729 (13 * n + 12) = τ 722 10 ∧ σ' 24 2 = σ 24 2 + 1 ∧ τ' 722 10 = τ 722 10 + 1)) (hK : K < 999999990) : gr_M (K + 1) (n + 1) σ' τ' ∧ (τ 722 10).toInt ≤ (τ' 722 10).toInt := by
  obtain ⟨hW, hV, hT, hst, hod, hK0, hK1⟩ := h
  rcases hs with ⟨g1, g2, g3⟩ | ⟨g1, g2, g3, g4⟩
  · refine ⟨⟨⟨h1, by omega⟩, ⟨h2, by omega⟩, ?_, by rw [g2]; omega, by rw [g3]; omega, by omega, by omega⟩, by rw [g3]; exact Int.le_refl _⟩
    rw [g2, g3]
    exact (hT.push (c' := gr_c σ') (m' := gr_m τ') hc hm hJ g1).mono (by omega) (Int.le_refl _) (Int.le_refl _)
  · have t1 : (σ 24 2 + 1).toInt = (σ 24 2).toInt + 1 := gp_add (b := 1) (by show -2147483648 ≤ (σ 24 2).toInt + 1; omega) (by show (σ 24 2).toInt + 1 < 2147483648; omega)
    have t2 : (τ 722 10 + 1).toInt = (τ 722 10).toInt + 1 := gp_add (b := 1) (by show -2147483648 ≤ (τ 722 10).toInt + 1; omega) (by show (τ 722 10).toInt + 1 < 2147483648; omega)
    refine ⟨⟨⟨h1, by omega⟩, ⟨h2, by omega⟩, ?_, by rw [g3, t1]; omega, by rw [g4, t2]; omega, by omega, by omega⟩, by rw [g4, t2]; omega⟩
    rw [g3, g4]
    exact (hT.pushc (c' := gr_c σ') (m' := gr_m τ') hc hm hJ g1 g2 hst.1 hod.1 t1 t2).mono (by omega) (Int.le_refl _) (Int.le_refl _)
theorem gr_H.gen {K K' T T' : Int} {σ0 τ0 σ τ σ' τ' : gx_M} {n n' u : Nat} (h : gr_H K T σ0 τ0 n u σ τ) (hM : gr_M K' n' σ' τ') (hK : K ≤ K') (hc : ∀ o k, 6 ≤ o → ¬ (682 ≤ o ∧ o < 722) → o ≠ 24 → σ' o k = σ o k) (h0 : ∀ o, 682 ≤ o → o < 722 → σ' o 0 = σ o 0) (hm : ∀ o k, 730 ≤ o ∧ o < 732 ∨ o < 722 → τ' o k = τ o k) (h11 : τ' 722 11 = τ 722 11) (hod : (τ 722 10).toInt ≤ (τ' 722 10).toInt) (hQ : gr_Q σ' τ') (hS : gr_S T' σ' τ') : gr_H K' T' σ0 τ0 n' u σ' τ' := by
  obtain ⟨hB, -, ⟨hu, hu1, hu2⟩, hP, hN, -, -⟩ := h
  refine ⟨⟨fun o k ho => (hc o k (by omega) (by omega) (by omega)).trans (hB.1 o k ho), fun o k ho => (hm o k (by omega)).trans (hB.2 o k ho)⟩, hM, ⟨hu, (hc _ _ (by omega) (by omega) (by omega)).trans hu1, h11.trans hu2⟩, fun p hp => ?_, fun o g1 g2 => ?_, hQ, hS⟩
  · exact (hP p hp).keep (by omega) hK (hc _ _ (by omega) (by omega) (by omega)) (hc _ _ (by omega) (by omega) (by omega)) (fun i hi k hk => hc _ _ (by omega) (by omega) (by omega)) (hm _ _ (by omega)) (fun b hb => hm _ _ (by omega)) hod
  · by_cases h3 : 682 ≤ o
    · exact (h0 o h3 g2).trans (hN o g1 g2)
    · exact (hc o 0 (by omega) (by omega) (by omega)).trans (hN o g1 g2)
theorem gr_Q.keep {σ τ σ' τ' : gx_M} (h : gr_Q σ τ) (hc : ∀ q, q < 4 → ∀ k, σ' (2 + q) k = σ (2 + q) k) (h4 : σ' 0 4 = σ 0 4) (hm : ∀ o k, 723 ≤ o → o < 729 → τ' o k = τ o k) : gr_Q σ' τ' := by
  intro q hq
  have e := hc q hq
  rw [e, e, e, e, e, e, hm 723 _ (by decide) (by decide), hm 724 _ (by decide) (by decide), hm 725 _ (by decide) (by decide), hm 726 _ (by decide) (by decide), hm 727 _ (by decide) (by decide), hm 728 _ (by decide) (by decide), h4]
  exact h q hq
theorem gr_hold (N : Nat) (p r : Int32) (hN : 520 < N) : gr_op (fn_Bo_hold N p r) (fn_Mo_hold N p r) := by
  intro K T σ0 τ0 σ τ h hK hT
  obtain ⟨n, u, hH, hE⟩ := id h
  have hM := hH.2.1
  have h40 := hM.1.2
  have hR := h.mono (K' := K + 200) (T' := T + 1000) (by omega) (by omega) (by omega)
  unfold fn_Bo_hold fn_Mo_hold
  rw [gp_isQueue, gp_bd, gp_within, gp_bd, gp_mout, gp_bd, gp_mout, gp_bd, gp_i10, gp_i10, gp_i01, gp_i01]
  by_cases c1 : 0 ≤ p ∧ p ≤ 3
  · rw [if_pos c1, if_pos c1]
    by_cases c2 : 0 ≤ r ∧ r ≤ 9
    · rw [if_pos c2, if_pos c2, hM.2.1.1]
      by_cases hn : n < 40
      · rw [gb_make hM.1.1 hn, gp_bd, gp_ms', if_pos (by omega), if_neg (by rw [gp_eq, gp_nI (by omega)]; show ¬ (n : Int) = 40; omega), gm_make hM.2.1.1 hn (by omega), gp_bd, gp_se9 hn, gp_bv]
        have hx : ∀ k, 1 ≤ k → k ≤ 13 → gb_c (gx_up σ 24 1 (nI (n + 1))) (682 + n) p r (682 + n) k = gb_row p r k := fun k g1 g2 => if_pos ⟨rfl, g1, g2⟩
        have hxo : ∀ a b, ¬ (a = 682 + n ∧ 1 ≤ b ∧ b ≤ 13) → ¬ (a = 24 ∧ b = 1) → gb_c (gx_up σ 24 1 (nI (n + 1))) (682 + n) p r a b = σ a b := fun a b g1 g2 => by
          unfold gb_c
          rw [if_neg g1, gp_un g2]
        have hy : ∀ f, f < 13 → f ≠ 9 → gx_up (gm_r (gx_up τ 722 9 (nI (n + 1))) n p r 0 1 (-1)) 729 (13 * n + 9) 6 729 (13 * n + f) = gm_row p r 0 1 (-1) f := fun f g1 g2 => by
          rw [gp_un (by omega)]
          unfold gm_r
          rw [if_pos (by omega), show 13 * n + f - 13 * n = f by omega]
        have hyo : ∀ a b, ¬ (a = 729 ∧ 13 * n ≤ b ∧ b < 13 * n + 13) → ¬ (a = 722 ∧ b = 9) → gx_up (gm_r (gx_up τ 722 9 (nI (n + 1))) n p r 0 1 (-1)) 729 (13 * n + 9) 6 a b = τ a b := fun a b g1 g2 => by
          rw [gp_un (by omega)]
          unfold gm_r
          rw [if_neg g1, gp_un g2]
        have hy9 : gx_up (gm_r (gx_up τ 722 9 (nI (n + 1))) n p r 0 1 (-1)) 729 (13 * n + 9) 6 729 (13 * n + 9) = 6 := gp_us
        have h241 : gb_c (gx_up σ 24 1 (nI (n + 1))) (682 + n) p r 24 1 = nI (n + 1) := by
          unfold gb_c
          rw [if_neg (by omega), gp_us]
        have h7229 : gx_up (gm_r (gx_up τ 722 9 (nI (n + 1))) n p r 0 1 (-1)) 729 (13 * n + 9) 6 722 9 = nI (n + 1) := by
          rw [gp_un (by omega)]
          unfold gm_r
          rw [if_neg (by omega), gp_us]
        have hK0 := hM.2.2.2.2.2.1
        have hn0 : gb_c (gx_up σ 24 1 (nI (n + 1))) (682 + n) p r (682 + n) 0 = nI n := by
          rw [hxo _ _ (by omega) (by omega), hH.2.2.2.2.1 _ (by omega) (by omega)]
          congr 1
          omega
        generalize gb_c (gx_up σ 24 1 (nI (n + 1))) (682 + n) p r = σ1 at hx hxo h241 hn0 ⊢
        generalize gx_up (gm_r (gx_up τ 722 9 (nI (n + 1))) n p r 0 1 (-1)) 729 (13 * n + 9) 6 = τ1 at hy hyo hy9 h7229 ⊢
        have hJ : gr_J K (n + 1) n (gr_c σ1 n) (gr_m τ1 n) := by
          have X : ∀ k, 1 ≤ k → k ≤ 13 → gr_c σ1 n k = gb_row p r k := hx
          have Y : ∀ f, f < 13 → f ≠ 9 → gr_m τ1 n f = gm_row p r 0 1 (-1) f := hy
          have X0 : gr_c σ1 n 0 = nI n := hn0
          have Y9 : gr_m τ1 n 9 = 6 := hy9
          unfold gr_J
          rw [X0, Y9, X 1 (by decide) (by decide), X 2 (by decide) (by decide), X 3 (by decide) (by decide), X 4 (by decide) (by decide), X 5 (by decide) (by decide), X 6 (by decide) (by decide), X 7 (by decide) (by decide), X 8 (by decide) (by decide), X 9 (by decide) (by decide), X 10 (by decide) (by decide), Y 0 (by decide) (by decide), Y 1 (by decide) (by decide), Y 2 (by decide) (by decide), Y 3 (by decide) (by decide), Y 4 (by decide) (by decide), Y 5 (by decide) (by decide), Y 6 (by decide) (by decide), Y 7 (by decide) (by decide), Y 8 (by decide) (by decide)]
          refine ⟨⟨rfl, rfl, rfl, rfl, rfl, rfl, rfl, rfl, rfl, rfl, rfl⟩, fun hh => absurd hh (show ¬ gr_tm 6 by unfold gr_tm; decide), fun hh => absurd hh (show ¬ (6 : Int32) = 2 by decide), (show (0 : Int) ≤ (0 : Int32).toInt ∧ (0 : Int32).toInt ≤ 5 by decide), (show (1 : Int) ≤ (1 : Int32).toInt ∧ (1 : Int32).toInt ≤ 50 by decide), ⟨show (0 : Int) ≤ 0 by decide, show (0 : Int) ≤ K by omega⟩, Or.inl rfl, Or.inl rfl, (show (0 : Int) ≤ (6 : Int32).toInt ∧ (6 : Int32).toInt ≤ 7 by decide), (show (-1 : Int) ≤ (-1 : Int32).toInt by decide)⟩
        obtain ⟨q1, q2⟩ := gr_grow (σ' := σ1) (τ' := τ1) hM hn h241 h7229 (fun i hi k hk => hxo _ _ (by omega) (by omega)) (fun i hi f hf => hyo _ _ (by omega) (by omega)) hJ (Or.inl ⟨by rw [hx 10 (by decide) (by decide)]; exact (show ¬ gr_ln 6 by unfold gr_ln; decide), hxo _ _ (by omega) (by omega), hyo _ _ (by omega) (by omega)⟩) (by omega)
        have hH1 : gr_H (K + 1) T σ0 τ0 (n + 1) u σ1 τ1 := hH.gen (T' := T) q1 (by omega) (fun o k g1 g2 g3 => hxo _ _ (by omega) (by omega)) (fun o g1 g2 => hxo _ _ (by omega) (by omega)) (fun o k ho => hyo _ _ (by omega) (by omega)) (hyo _ _ (by omega) (by omega)) q2 (hH.2.2.2.2.2.1.keep (fun q hq k => hxo _ _ (by omega) (by omega)) (hxo _ _ (by omega) (by omega)) (fun o k g1 g2 => hyo _ _ (by omega) (by omega))) (by
          unfold gr_S
          rw [hxo 0 0 (by omega) (by omega), hxo 0 4 (by omega) (by omega), hxo 0 5 (by omega) (by omega), hyo 722 0 (by omega) (by omega), hyo 722 1 (by omega) (by omega), hyo 722 8 (by omega) (by omega)]
          exact hH.2.2.2.2.2.2)
        obtain ⟨σ2, τ2, w1, w2, w3, w4⟩ := gr_write hH1 hN
        have e0 : σ2 (682 + n) 0 = nI n := by rw [w4 n hn]; exact hn0
        rw [w1, gp_bv, e0, w2, gp_bv]
        exact ⟨_, _, _, rfl, rfl, w3.mono (by omega) (by omega) (by omega)⟩
      · obtain rfl : n = 40 := by omega
        rw [gb_full hM.1.1, gp_bd, gp_mn', if_pos (by decide)]
        exact ⟨_, _, _, rfl, rfl, hR⟩
    · rw [if_neg c2, if_neg c2]
      exact ⟨_, _, _, rfl, rfl, hR⟩
  · rw [if_neg c1, if_neg c1]
    exact ⟨_, _, _, rfl, rfl, hR⟩

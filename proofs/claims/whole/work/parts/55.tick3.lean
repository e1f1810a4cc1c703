theorem gk_nt {x : Int32} {a : Nat} (h : (a : Int) = x.toInt) : x = nI a := by
  have hb : x.toInt < 2147483648 := Int32.toInt_lt x
  rw [gp_eq, gp_nI (by omega)]
  omega
theorem gr_tick (N : Nat) (p0 : Int32) (hN : 1500 < N) : gr_op (fn_Bo_tick N p0) (fn_Mo_tick N p0) := by
  intro K T σ0 τ0 σ τ h hK hT
  obtain ⟨n, u, hH, hE⟩ := id h
  have hM := hH.2.1
  have h40 := hM.1.2
  have hR := h.mono (K' := K + 200) (T' := T + 1000) (by omega) (by omega) (by omega)
  unfold fn_Bo_tick fn_Mo_tick
  rw [gp_within, gp_bd, gp_i10, gp_mout, gp_bd, gp_i01]
  by_cases c0 : 1 ≤ p0 ∧ p0 ≤ 1000
  · rw [if_pos c0, if_pos c0]
    rw [gp_le, gp_le, gp_t1, gp_t1000] at c0
    obtain ⟨p, hp, rfl⟩ := gp_of (x := p0) (n := 1001) (by omega) (by omega)
    rw [gp_nI (by omega)] at c0
    obtain ⟨s1, s2, s3, s4, s5⟩ := id hH.2.2.2.2.2.2
    have hQ := hH.2.2.2.2.2.1
    obtain ⟨a, ha⟩ : ∃ a : Nat, (a : Int) = (σ 0 4).toInt := ⟨_, Int.toNat_of_nonneg s3.1⟩
    have hea : σ 0 4 = nI a := gk_nt ha
    obtain ⟨c, hc⟩ : ∃ c : Nat → Nat, ∀ q, q < 4 → (c q : Int) = (σ (2 + q) 2).toInt := ⟨fun q => (σ (2 + q) 2).toInt.toNat, fun q hq => Int.toNat_of_nonneg (hQ q hq).2.2.1.1⟩
    obtain ⟨t, ht⟩ : ∃ c : Nat → Nat, ∀ q, q < 4 → (c q : Int) = (σ (2 + q) 3).toInt := ⟨fun q => (σ (2 + q) 3).toInt.toNat, fun q hq => Int.toNat_of_nonneg (hQ q hq).2.2.2.1.1⟩
    obtain ⟨D, hD⟩ : ∃ c : Nat → Nat, ∀ q, q < 4 → (c q : Int) = (σ (2 + q) 4).toInt := ⟨fun q => (σ (2 + q) 4).toInt.toNat, fun q hq => Int.toNat_of_nonneg (by have := (hQ q hq).2.2.2.2.1; omega)⟩
    obtain ⟨s, hs⟩ : ∃ c : Nat → Nat, ∀ q, q < 4 → (c q : Int) = (σ (2 + q) 5).toInt := ⟨fun q => (σ (2 + q) 5).toInt.toNat, fun q hq => Int.toNat_of_nonneg (hQ q hq).2.2.2.2.2.1⟩
    have hb : ∀ q, q < 4 → s q ≤ a ∧ 1 ≤ D q ∧ D q ≤ 50 ∧ c q ≤ 20 ∧ t q ≤ c q := fun q hq => by
      obtain ⟨-, b0, b2, b3, b4, b5⟩ := hQ q hq
      have h1 := hc q hq
      have h2 := ht q hq
      have h3 := hD q hq
      have h4 := hs q hq
      omega
    have eC := gk_class (N := N) (p := p) (a := a) (by omega) hb 4 0 N σ (by omega) (by omega) hea (fun q hq => ⟨gk_nt (hc q hq), gk_nt (hD q hq), gk_nt (hs q hq), fun _ => gk_nt (ht q hq)⟩)
    have eM := gk_outer (N := N) (p := p) (a := a) (τ := τ) (c := c) (s := s) (D := D) (t := t) (by omega) (by omega) (fun q hq => ⟨⟨(hQ q hq).1.2.2.1.symm.trans (gk_nt (hc q hq)), (hQ q hq).1.2.2.2.2.1.symm.trans (gk_nt (hD q hq)), (hQ q hq).1.2.2.2.2.2.symm.trans (gk_nt (hs q hq))⟩, hb q hq⟩) p 0 N (by omega) (by omega)
    have ey : gk_y τ (nI (a + 0)) (fun q => gk_tok (c q) (t q) (D q) (a - s q) 0) = τ := by
      funext o k
      by_cases h1 : o = 722 ∧ k = 1
      · obtain ⟨rfl, rfl⟩ := h1
        rw [gk_y_1, Nat.add_zero, ← hea, s2]
      · by_cases h2 : o = 726 ∧ k < 4
        · obtain ⟨rfl, h2⟩ := h2
          rw [gk_y_6 h2, gk_tok_0 (hb k h2).2.2.2.2, ← gk_nt (ht k h2)]
          exact (hQ k h2).1.2.2.2.1
        · rw [gk_y_n h1 h2]
    rw [ey] at eM
    rw [show fn_Bo_tick_L15 N (nI p) N 0 σ = _ from eC, show fn_Mo_tick_L16 N (nI p) N 0 τ = _ from eM]
    obtain ⟨g, eg⟩ : ∃ g : Nat → Nat, g = fun q => gk_tok (c q) (t q) (D q) (a - s q) p := ⟨_, rfl⟩
    have hg : ∀ q, q < 4 → g q ≤ c q := fun q _ => by rw [eg]; exact gk_tok_c
    rw [← eg]
    obtain ⟨σ1, e1⟩ : ∃ z, z = gx_up (gk_x σ g 0) 0 4 (nI (a + p)) := ⟨_, rfl⟩
    obtain ⟨τ1, f1⟩ : ∃ z, z = gk_y τ (nI (a + p)) g := ⟨_, rfl⟩
    rw [← e1, ← f1]
    have hc1 : ∀ o k, ¬ (2 ≤ o ∧ o < 6 ∧ k = 3) → ¬ (o = 0 ∧ k = 4) → σ1 o k = σ o k := fun o k g1 g2 => by rw [e1, gp_un g2, gk_x_n (by omega)]
    have hm1 : ∀ o k, ¬ (o = 722 ∧ k = 1) → ¬ (o = 726 ∧ k < 4) → τ1 o k = τ o k := fun o k g1 g2 => by rw [f1, gk_y_n g1 g2]
    have e4 : σ1 0 4 = nI (a + p) := by rw [e1, gp_us]
    have f4 : τ1 722 1 = nI (a + p) := by rw [f1, gk_y_1]
    have t4 : (σ1 0 4).toInt = ((a + p : Nat) : Int) := by rw [e4, gp_nI (by omega)]
    have hH1 : gr_H K (T + 1000) σ0 τ0 n u σ1 τ1 := by
      refine hH.side (fun o k ho => hc1 o k (by omega) (by omega)) (fun o k ho => hm1 o k (by omega) (by omega)) (gr_Q.of (fun q hq => ?_)) ⟨?_, ?_, ?_, ?_, ?_⟩
      · obtain ⟨⟨a0, a1, a2, a3, a4, a5⟩, b0, b2, b3, b4, b5⟩ := hQ q hq
        have h1 := hc q hq
        have h4 := hs q hq
        have h5 := hb q hq
        have h6 := hg q hq
        exact gr_V.of (hc1 _ _ (by omega) (by omega)) (hc1 _ _ (by omega) (by omega)) (hc1 _ _ (by omega) (by omega)) (show σ1 (2 + q) 3 = nI (g q) by rw [e1, gp_un (by omega), gk_x_3 hq]) (hc1 _ _ (by omega) (by omega)) (hc1 _ _ (by omega) (by omega)) ((hm1 _ _ (by omega) (by omega)).trans a0.symm) ((hm1 _ _ (by omega) (by omega)).trans a1.symm) ((hm1 _ _ (by omega) (by omega)).trans a2.symm) (show τ1 726 q = nI (g q) by rw [f1, gk_y_6 hq]) ((hm1 _ _ (by omega) (by omega)).trans a4.symm) ((hm1 _ _ (by omega) (by omega)).trans a5.symm) ⟨b0, b2, by rw [gp_nI (by omega)]; omega, b4, by rw [t4]; omega⟩
      · rw [hc1 _ _ (by omega) (by omega), hm1 _ _ (by omega) (by omega)]; exact s1
      · rw [e4, f4]
      · rw [t4]; omega
      · rw [hc1 _ _ (by omega) (by omega), hm1 _ _ (by omega) (by omega)]; exact s4
      · rw [hc1 _ _ (by omega) (by omega)]; exact s5
    have hE1 : gr_E σ1 u n := hE.side (fun o k ho => hc1 o k (by omega) (by omega))
    obtain ⟨d, σ2, τ2, hd, g1, g2, hH2, h0⟩ := gk_settle (N := N) (w := 0) hH1 (by omega) (by omega) (by omega) (Or.inl rfl)
    rw [e4] at g1
    rw [g1, gp_bd, g2, gp_bd]
    by_cases hd0 : d = 0
    · subst hd0
      rw [if_pos (show nI 0 ≤ 0 by decide), if_pos (show nI 0 ≤ 0 by decide)]
      have e2 := h0 rfl
      subst e2
      exact ⟨_, _, _, rfl, rfl, gr_R.mono ⟨n, u, hH2, hE1⟩ (by omega) (by omega) (by omega)⟩
    · have hn : ¬ nI d ≤ 0 := by rw [gp_le, gp_t0, gp_nI (by omega)]; omega
      obtain ⟨σ3, τ3, w1, w2, w3, w4⟩ := gr_write hH2 (show 520 < N by omega)
      rw [if_neg hn, if_neg hn, w1, gp_bv, w2, gp_bv]
      exact ⟨_, _, _, rfl, rfl, w3.mono (by omega) (by omega) (by omega)⟩
  · rw [if_neg c0, if_neg c0]
    exact ⟨_, _, _, rfl, rfl, hR⟩

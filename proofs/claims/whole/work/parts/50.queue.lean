def gr_V (t : Int) (a b : Nat → Int32) : Prop := (a 0 = b 0 ∧ a 1 = b 1 ∧ a 2 = b 2 ∧ a 3 = b 3 ∧ a 4 = b 4 ∧ a 5 = b 5) ∧ (0 ≤ (a 0).toInt ∧ (a 0).toInt ≤ 8) ∧ (0 ≤ (a 2).toInt ∧ (a 2).toInt ≤ 20) ∧ (0 ≤ (a 3).toInt ∧ (a 3).toInt ≤ (a 2).toInt) ∧ (1 ≤ (a 4).toInt ∧ (a 4).toInt ≤ 50) ∧ (0 ≤ (a 5).toInt ∧ (a 5).toInt ≤ t)
theorem gr_Q.at {σ τ : gx_M} (h : gr_Q σ τ) {q : Nat} (hq : q < 4) : gr_V (σ 0 4).toInt (fun k => σ (2 + q) k) (fun k => τ (723 + k) q) := h q hq
theorem gr_Q.of {σ τ : gx_M} (h : ∀ q, q < 4 → gr_V (σ 0 4).toInt (fun k => σ (2 + q) k) (fun k => τ (723 + k) q)) : gr_Q σ τ := h
theorem gr_V.mk {t : Int} {a b a' b' : Nat → Int32} (h : gr_V t a b) (hc : ∀ k, k < 6 → a' k = a k) (hm : ∀ k, k < 6 → b' k = b k) : gr_V t a' b' := by
  unfold gr_V at h ⊢
  rw [hc 0 (by decide), hc 1 (by decide), hc 2 (by decide), hc 3 (by decide), hc 4 (by decide), hc 5 (by decide), hm 0 (by decide), hm 1 (by decide), hm 2 (by decide), hm 3 (by decide), hm 4 (by decide), hm 5 (by decide)]
  exact h
theorem gr_V.of {t : Int} {a b : Nat → Int32} {v0 v1 v2 v3 v4 v5 : Int32} (a0 : a 0 = v0) (a1 : a 1 = v1) (a2 : a 2 = v2) (a3 : a 3 = v3) (a4 : a 4 = v4) (a5 : a 5 = v5) (b0 : b 0 = v0) (b1 : b 1 = v1) (b2 : b 2 = v2) (b3 : b 3 = v3) (b4 : b 4 = v4) (b5 : b 5 = v5) (h : (0 ≤ v0.toInt ∧ v0.toInt ≤ 8) ∧ (0 ≤ v2.toInt ∧ v2.toInt ≤ 20) ∧ (0 ≤ v3.toInt ∧ v3.toInt ≤ v2.toInt) ∧ (1 ≤ v4.toInt ∧ v4.toInt ≤ 50) ∧ (0 ≤ v5.toInt ∧ v5.toInt ≤ t)) : gr_V t a b := by
  unfold gr_V
  rw [a0, a1, a2, a3, a4, a5, b0, b1, b2, b3, b4, b5]
  exact ⟨⟨rfl, rfl, rfl, rfl, rfl, rfl⟩, h⟩
theorem gr_Q.set {σ τ σ' τ' : gx_M} (h : gr_Q σ τ) (p : Nat) (hc : ∀ q k, q < 4 → q ≠ p → k < 6 → σ' (2 + q) k = σ (2 + q) k) (hm : ∀ q k, q < 4 → q ≠ p → k < 6 → τ' (723 + k) q = τ (723 + k) q) (ht : σ' 0 4 = σ 0 4) (hp : gr_V (σ 0 4).toInt (fun k => σ' (2 + p) k) (fun k => τ' (723 + k) p)) : gr_Q σ' τ' := by
  refine gr_Q.of (fun q hq => ?_)
  rw [ht]
  by_cases hqp : q = p
  · subst hqp
    exact hp
  · exact (h.at hq).mk (fun k hk => hc q k hq hqp hk) (fun k hk => hm q k hq hqp hk)
theorem gr_queue (N : Nat) (p0 p1 p2 p3 : Int32) : gr_op (fn_Bo_queue N p0 p1 p2 p3) (fn_Mo_queue N p0 p1 p2 p3) := by
  intro K T σ0 τ0 σ τ h hK hT
  obtain ⟨n, u, hH, hE⟩ := id h
  have hR := h.mono (K' := K + 200) (T' := T + 1000) (by omega) (by omega) (by omega)
  unfold fn_Bo_queue fn_Mo_queue
  rw [gp_isQueue, gp_bd, gp_within, gp_bd, gp_within, gp_bd, gp_within, gp_bd, gp_i10, gp_i10, gp_i10, gp_i10, gp_mout, gp_bd, gp_mout, gp_bd, gp_mout, gp_bd, gp_mout, gp_bd, gp_i01, gp_i01, gp_i01, gp_i01]
  by_cases c0 : 0 ≤ p0 ∧ p0 ≤ 3
  · rw [if_pos c0, if_pos c0]
    by_cases c1 : 0 ≤ p1 ∧ p1 ≤ 8
    · rw [if_pos c1, if_pos c1]
      by_cases c2 : 0 ≤ p2 ∧ p2 ≤ 20
      · rw [if_pos c2, if_pos c2]
        by_cases c3 : 1 ≤ p3 ∧ p3 ≤ 50
        · rw [if_pos c3, if_pos c3]
          simp only [gp_le, gp_t0, gp_t1, gp_t3, gp_t8, gp_t20, gp_t50] at c0 c1 c2 c3
          obtain ⟨q, hq, rfl⟩ := gp_of (x := p0) (n := 4) c0.1 (by omega)
          have hin := gp_in (i := q) (n := 4) (M := 4) hq (by decide) (by decide)
          unfold fn_Qu_set fn_Qu_restart
          simp only [gp_elq hq]
          simp only [gp_lt', gp_bv, if_pos hin, gp_cl (show q < 2147483648 by omega), if_pos (show 2 ≤ 2 + q ∧ 2 + q < 6 by omega)]
          rw [show (gx_up (gx_up (gx_up (gx_up (gx_up σ (2 + q) 0 p1) (2 + q) 2 p2) (2 + q) 4 p3) (2 + q) 5 (σ 0 4)) (2 + q) 1 0) (2 + q) 2 = p2 by rw [gp_un (by omega), gp_un (by omega), gp_un (by omega), gp_us], show (gx_up (gx_up (gx_up (gx_up (gx_up τ 723 q p1) 725 q p2) 727 q p3) 724 q 0) 726 q p2) 722 1 = τ 722 1 by rw [gp_un (by omega), gp_un (by omega), gp_un (by omega), gp_un (by omega), gp_un (by omega)]]
          have hc : ∀ o k, o ≠ 2 + q → (gx_up (gx_up (gx_up (gx_up (gx_up (gx_up σ (2 + q) 0 p1) (2 + q) 2 p2) (2 + q) 4 p3) (2 + q) 5 (σ 0 4)) (2 + q) 1 0) (2 + q) 3 p2) o k = σ o k := fun o k ho => by rw [gp_un (by omega), gp_un (by omega), gp_un (by omega), gp_un (by omega), gp_un (by omega), gp_un (by omega)]
          have hm : ∀ o k, ¬ (723 ≤ o ∧ o ≤ 728 ∧ k = q) → (gx_up (gx_up (gx_up (gx_up (gx_up (gx_up τ 723 q p1) 725 q p2) 727 q p3) 724 q 0) 726 q p2) 728 q (τ 722 1)) o k = τ o k := fun o k ho => by rw [gp_un (by omega), gp_un (by omega), gp_un (by omega), gp_un (by omega), gp_un (by omega), gp_un (by omega)]
          have a0 : (gx_up (gx_up (gx_up (gx_up (gx_up (gx_up σ (2 + q) 0 p1) (2 + q) 2 p2) (2 + q) 4 p3) (2 + q) 5 (σ 0 4)) (2 + q) 1 0) (2 + q) 3 p2) (2 + q) 0 = p1 := by rw [gp_un (by omega), gp_un (by omega), gp_un (by omega), gp_un (by omega), gp_un (by omega), gp_us]
          have a1 : (gx_up (gx_up (gx_up (gx_up (gx_up (gx_up σ (2 + q) 0 p1) (2 + q) 2 p2) (2 + q) 4 p3) (2 + q) 5 (σ 0 4)) (2 + q) 1 0) (2 + q) 3 p2) (2 + q) 1 = 0 := by rw [gp_un (by omega), gp_us]
          have a2 : (gx_up (gx_up (gx_up (gx_up (gx_up (gx_up σ (2 + q) 0 p1) (2 + q) 2 p2) (2 + q) 4 p3) (2 + q) 5 (σ 0 4)) (2 + q) 1 0) (2 + q) 3 p2) (2 + q) 2 = p2 := by rw [gp_un (by omega), gp_un (by omega), gp_un (by omega), gp_un (by omega), gp_us]
          have a3 : (gx_up (gx_up (gx_up (gx_up (gx_up (gx_up σ (2 + q) 0 p1) (2 + q) 2 p2) (2 + q) 4 p3) (2 + q) 5 (σ 0 4)) (2 + q) 1 0) (2 + q) 3 p2) (2 + q) 3 = p2 := by rw [gp_us]
          have a4 : (gx_up (gx_up (gx_up (gx_up (gx_up (gx_up σ (2 + q) 0 p1) (2 + q) 2 p2) (2 + q) 4 p3) (2 + q) 5 (σ 0 4)) (2 + q) 1 0) (2 + q) 3 p2) (2 + q) 4 = p3 := by rw [gp_un (by omega), gp_un (by omega), gp_un (by omega), gp_us]
          have a5 : (gx_up (gx_up (gx_up (gx_up (gx_up (gx_up σ (2 + q) 0 p1) (2 + q) 2 p2) (2 + q) 4 p3) (2 + q) 5 (σ 0 4)) (2 + q) 1 0) (2 + q) 3 p2) (2 + q) 5 = σ 0 4 := by rw [gp_un (by omega), gp_un (by omega), gp_us]
          have b0 : (gx_up (gx_up (gx_up (gx_up (gx_up (gx_up τ 723 q p1) 725 q p2) 727 q p3) 724 q 0) 726 q p2) 728 q (τ 722 1)) 723 q = p1 := by rw [gp_un (by omega), gp_un (by omega), gp_un (by omega), gp_un (by omega), gp_un (by omega), gp_us]
          have b1 : (gx_up (gx_up (gx_up (gx_up (gx_up (gx_up τ 723 q p1) 725 q p2) 727 q p3) 724 q 0) 726 q p2) 728 q (τ 722 1)) 724 q = 0 := by rw [gp_un (by omega), gp_un (by omega), gp_us]
          have b2 : (gx_up (gx_up (gx_up (gx_up (gx_up (gx_up τ 723 q p1) 725 q p2) 727 q p3) 724 q 0) 726 q p2) 728 q (τ 722 1)) 725 q = p2 := by rw [gp_un (by omega), gp_un (by omega), gp_un (by omega), gp_un (by omega), gp_us]
          have b3 : (gx_up (gx_up (gx_up (gx_up (gx_up (gx_up τ 723 q p1) 725 q p2) 727 q p3) 724 q 0) 726 q p2) 728 q (τ 722 1)) 726 q = p2 := by rw [gp_un (by omega), gp_us]
          have b4 : (gx_up (gx_up (gx_up (gx_up (gx_up (gx_up τ 723 q p1) 725 q p2) 727 q p3) 724 q 0) 726 q p2) 728 q (τ 722 1)) 727 q = p3 := by rw [gp_un (by omega), gp_un (by omega), gp_un (by omega), gp_us]
          have b5 : (gx_up (gx_up (gx_up (gx_up (gx_up (gx_up τ 723 q p1) 725 q p2) 727 q p3) 724 q 0) 726 q p2) 728 q (τ 722 1)) 728 q = τ 722 1 := by rw [gp_us]
          generalize gx_up (gx_up (gx_up (gx_up (gx_up (gx_up σ (2 + q) 0 p1) (2 + q) 2 p2) (2 + q) 4 p3) (2 + q) 5 (σ 0 4)) (2 + q) 1 0) (2 + q) 3 p2 = σ1 at hc a0 a1 a2 a3 a4 a5 ⊢
          generalize gx_up (gx_up (gx_up (gx_up (gx_up (gx_up τ 723 q p1) 725 q p2) 727 q p3) 724 q 0) 726 q p2) 728 q (τ 722 1) = τ1 at hm b0 b1 b2 b3 b4 b5 ⊢
          obtain ⟨s1, s2, s3, s4, s5⟩ := id hH.2.2.2.2.2.2
          refine ⟨_, _, _, rfl, rfl, gr_R.mono ⟨n, u, hH.side (T' := T) (fun o k ho => hc o k (by omega)) (fun o k ho => hm o k (by omega)) (hH.2.2.2.2.2.1.set q (fun x k hx hxq _ => hc _ _ (by omega)) (fun x k hx hxq _ => hm _ _ (by omega)) (hc _ _ (by omega)) ?_) ?_, hE.side (fun o k ho => hc o k (by omega))⟩ (by omega) (by omega) (by omega)⟩
          · exact gr_V.of a0 a1 a2 a3 a4 a5 b0 b1 b2 b3 b4 (b5.trans s2.symm) ⟨c1, c2, ⟨c2.1, Int.le_refl _⟩, c3, s3.1, Int.le_refl _⟩
          · unfold gr_S
            rw [hc 0 0 (by omega), hc 0 4 (by omega), hc 0 5 (by omega), hm 722 0 (by omega), hm 722 1 (by omega), hm 722 8 (by omega)]
            exact ⟨s1, s2, s3, s4, s5⟩
        · rw [if_neg c3, if_neg c3]
          exact ⟨_, _, _, rfl, rfl, hR⟩
      · rw [if_neg c2, if_neg c2]
        exact ⟨_, _, _, rfl, rfl, hR⟩
    · rw [if_neg c1, if_neg c1]
      exact ⟨_, _, _, rfl, rfl, hR⟩
  · rw [if_neg c0, if_neg c0]
    exact ⟨_, _, _, rfl, rfl, hR⟩

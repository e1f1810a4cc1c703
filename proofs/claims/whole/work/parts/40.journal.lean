def gr_pc (σ : gx_M) (p : Nat) : Nat → Nat → Int32 := fun i k => σ (42 + 40 * p + i) k
def gr_pm (τ : gx_M) (p : Nat) : Nat → Nat → Int32 := fun i f => τ 730 (520 * p + (13 * i + f))
/-- a page of the journal in both -/
def gr_P (K : Int) (p : Nat) (σ τ : gx_M) : Prop := ∃ n, n ≤ 40 ∧ σ (8 + p) 1 = nI n ∧ τ 731 p = nI n ∧ gr_T K n (gr_pc σ p) (gr_pm τ p) (σ (8 + p) 2) (τ 722 10) ∧ (0 ≤ (σ (8 + p) 2).toInt ∧ (σ (8 + p) 2).toInt ≤ K)
def gr_Q (σ τ : gx_M) : Prop := ∀ q, q < 4 → (σ (2 + q) 0 = τ 723 q ∧ σ (2 + q) 1 = τ 724 q ∧ σ (2 + q) 2 = τ 725 q ∧ σ (2 + q) 3 = τ 726 q ∧ σ (2 + q) 4 = τ 727 q ∧ σ (2 + q) 5 = τ 728 q) ∧ (0 ≤ (σ (2 + q) 0).toInt ∧ (σ (2 + q) 0).toInt ≤ 8) ∧ (0 ≤ (σ (2 + q) 2).toInt ∧ (σ (2 + q) 2).toInt ≤ 20) ∧ (0 ≤ (σ (2 + q) 3).toInt ∧ (σ (2 + q) 3).toInt ≤ (σ (2 + q) 2).toInt) ∧ (1 ≤ (σ (2 + q) 4).toInt ∧ (σ (2 + q) 4).toInt ≤ 50) ∧ (0 ≤ (σ (2 + q) 5).toInt ∧ (σ (2 + q) 5).toInt ≤ (σ 0 4).toInt)
def gr_S (T : Int) (σ τ : gx_M) : Prop := σ 0 0 = τ 722 0 ∧ σ 0 4 = τ 722 1 ∧ (0 ≤ (σ 0 4).toInt ∧ (σ 0 4).toInt ≤ T) ∧ σ 0 5 = τ 722 8 ∧ -1 ≤ (σ 0 5).toInt
def gr_N (σ : gx_M) : Prop := ∀ o, 42 ≤ o → o < 722 → σ o 0 = nI ((o - 42) % 40)
def gr_B (σ0 τ0 σ τ : gx_M) : Prop := (∀ o k, 722 ≤ o → σ o k = σ0 o k) ∧ ∀ o k, o < 722 → τ o k = τ0 o k
/-- the page that was written last is the roster -/
def gr_E (σ : gx_M) (u n : Nat) : Prop := σ (8 + u) 1 = σ 24 1 ∧ σ (8 + u) 2 = σ 24 2 ∧ ∀ i, i < n → ∀ k, 1 ≤ k → k ≤ 13 → σ (42 + 40 * u + i) k = σ (682 + i) k
/-- in the midst of a call -/
def gr_H (K T : Int) (σ0 τ0 : gx_M) (n u : Nat) (σ τ : gx_M) : Prop := gr_B σ0 τ0 σ τ ∧ gr_M K n σ τ ∧ (u ≤ 15 ∧ σ 6 1 = nI u ∧ τ 722 11 = nI u) ∧ (∀ p, p ≤ u → gr_P K p σ τ) ∧ gr_N σ ∧ gr_Q σ τ ∧ gr_S T σ τ
/-- between calls -/
def gr_R (K T : Int) (σ0 τ0 σ τ : gx_M) : Prop := ∃ n u, gr_H K T σ0 τ0 n u σ τ ∧ gr_E σ u n
theorem gr_P.keep {K K' : Int} {p : Nat} {σ τ σ' τ' : gx_M} (h : gr_P K p σ τ) (hp : p < 16) (hK : K ≤ K') (h1 : σ' (8 + p) 1 = σ (8 + p) 1) (h2 : σ' (8 + p) 2 = σ (8 + p) 2) (hj : ∀ i, i < 40 → ∀ k, k < 14 → σ' (42 + 40 * p + i) k = σ (42 + 40 * p + i) k) (h3 : τ' 731 p = τ 731 p) (hm : ∀ b, b < 520 → τ' 730 (520 * p + b) = τ 730 (520 * p + b)) (ho : (τ 722 10).toInt ≤ (τ' 722 10).toInt) : gr_P K' p σ' τ' := by
  obtain ⟨n, hn, q1, q2, q3, q4⟩ := h
  refine ⟨n, hn, h1.trans q1, h3.trans q2, ?_, by rw [h2]; omega⟩
  rw [h2]
  refine (q3.mono (K' := K') (st' := σ (8 + p) 2) hK (Int.le_refl _) ho).congr (fun i hi k hk => hj i (by omega) k hk) (fun i hi f hf => hm (13 * i + f) (by omega))
theorem gr_H.step {K K' T : Int} {σ0 τ0 σ τ σ' τ' : gx_M} {n u : Nat} (h : gr_H K T σ0 τ0 n u σ τ) (hM : gr_M K' n σ' τ') (hK : K ≤ K') (hc : gr_Ac σ σ') (hm : gr_Am τ τ') : gr_H K' T σ0 τ0 n u σ' τ' := by
  obtain ⟨hB, -, ⟨hu, hu1, hu2⟩, hP, hN, hQ, hS⟩ := h
  refine ⟨⟨fun o k ho => (hc.1 o k (by omega) (by omega)).trans (hB.1 o k ho), fun o k ho => (hm.1 o k (by omega) (by omega) (by omega)).trans (hB.2 o k ho)⟩, hM, ⟨hu, (hc.1 6 1 (by omega) (by omega)).trans hu1, (hm.1 722 11 (by omega) (by omega) (by omega)).trans hu2⟩, fun p hp => ?_, fun o h1 h2 => ?_, fun q hq => ?_, ?_⟩
  · exact (hP p hp).keep (by omega) hK (hc.1 _ _ (by omega) (by omega)) (hc.1 _ _ (by omega) (by omega)) (fun i hi k hk => hc.1 _ _ (by omega) (by omega)) (hm.1 _ _ (by omega) (by omega) (by omega)) (fun b hb => hm.1 _ _ (by omega) (by omega) (by omega)) hm.2
  · by_cases h3 : 682 ≤ o
    · exact (hc.2 o h3 h2).trans (hN o h1 h2)
    · exact (hc.1 o 0 (by omega) (by omega)).trans (hN o h1 h2)
  · have e : ∀ k, σ' (2 + q) k = σ (2 + q) k := fun k => hc.1 _ _ (by omega) (by omega)
    have f : ∀ o, o = 723 ∨ o = 724 ∨ o = 725 ∨ o = 726 ∨ o = 727 ∨ o = 728 → τ' o q = τ o q := fun o ho => hm.1 _ _ (by omega) (by omega) (by omega)
    rw [e, e, e, e, e, e, f 723 (by decide), f 724 (by decide), f 725 (by decide), f 726 (by decide), f 727 (by decide), f 728 (by decide), hc.1 0 4 (by omega) (by omega)]
    exact hQ q hq
  · unfold gr_S
    rw [hc.1 0 0 (by omega) (by omega), hc.1 0 4 (by omega) (by omega), hc.1 0 5 (by omega) (by omega), hm.1 722 0 (by omega) (by omega) (by omega), hm.1 722 1 (by omega) (by omega) (by omega), hm.1 722 8 (by omega) (by omega) (by omega)]
    exact hS
theorem gr_H.seal {K T : Int} {σ0 τ0 σ τ : gx_M} {n u : Nat} (h : gr_H K T σ0 τ0 n u σ τ) : ∀ i, i < n → σ (682 + i) 9 = 0 ∨ σ (682 + i) 9 = 1 := fun i hi => (h.2.1.2.2.1.1 i hi).2.2.2.2.2.2.2.1
/-- the roster goes into page v -/
theorem gr_snap {K T : Int} {σ0 τ0 σ τ : gx_M} {n u v : Nat} (h : gr_H K T σ0 τ0 n u σ τ) (hv : v ≤ 15) (hvu : v ≤ u + 1) : gr_H K T σ0 τ0 n v (gj_R (gx_up σ 6 1 (nI v)) (8 + v) 24 n) (gj_T (gx_up τ 722 11 (nI v)) v) ∧ gr_E (gj_R (gx_up σ 6 1 (nI v)) (8 + v) 24 n) v n := by
  obtain ⟨hB, hM, ⟨hu, hu1, hu2⟩, hP, hN, hQ, hS⟩ := id h
  have h40 := hM.1.2
  have c1 : ∀ a b, ¬ (42 + 40 * v ≤ a ∧ a < 42 + 40 * v + n ∧ 1 ≤ b ∧ b ≤ 13) → ¬ (a = 8 + v ∧ (b = 1 ∨ b = 2)) → ¬ (a = 6 ∧ b = 1) → gj_R (gx_up σ 6 1 (nI v)) (8 + v) 24 n a b = σ a b := fun a b g1 g2 g3 => by
    rw [gj_R_n (by omega) g2, gp_un g3]
  have m1 : ∀ a b, ¬ (a = 730 ∧ 520 * v ≤ b ∧ b < 520 * v + 520) → ¬ (a = 731 ∧ b = v) → ¬ (a = 722 ∧ b = 11) → gj_T (gx_up τ 722 11 (nI v)) v a b = τ a b := fun a b g1 g2 g3 => by
    rw [gj_T_n g1 g2, gp_un g3]
  have k1 : gj_R (gx_up σ 6 1 (nI v)) (8 + v) 24 n (8 + v) 1 = σ 24 1 := by rw [gj_R_1 (by omega), gp_un (by omega)]
  have k2 : gj_R (gx_up σ 6 1 (nI v)) (8 + v) 24 n (8 + v) 2 = σ 24 2 := by rw [gj_R_2 (by omega), gp_un (by omega)]
  have k3 : ∀ i, i < n → ∀ k, 1 ≤ k → k ≤ 13 → gj_R (gx_up σ 6 1 (nI v)) (8 + v) 24 n (42 + 40 * v + i) k = σ (682 + i) k := fun i hi k g1 g2 => by
    have := gj_R_j (σ := gx_up σ 6 1 (nI v)) (r := 8 + v) (s := 24) (n := n) (i := i) (k := k) (by omega) (by omega) hi h40 ⟨g1, g2⟩
    rw [show 42 + 40 * (8 + v - 8) + i = 42 + 40 * v + i by omega, show 42 + 40 * (24 - 8) + i = 682 + i by omega, gp_un (by omega)] at this
    exact this
  have e24 : gj_R (gx_up σ 6 1 (nI v)) (8 + v) 24 n 24 1 = σ 24 1 := c1 _ _ (by omega) (by omega) (by omega)
  have e242 : gj_R (gx_up σ 6 1 (nI v)) (8 + v) 24 n 24 2 = σ 24 2 := c1 _ _ (by omega) (by omega) (by omega)
  have eod : gj_T (gx_up τ 722 11 (nI v)) v 722 10 = τ 722 10 := m1 _ _ (by omega) (by omega) (by omega)
  refine ⟨⟨⟨fun o k ho => (c1 o k (by omega) (by omega) (by omega)).trans (hB.1 o k ho), fun o k ho => (m1 o k (by omega) (by omega) (by omega)).trans (hB.2 o k ho)⟩, ⟨⟨e24.trans hM.1.1, h40⟩, ⟨(m1 _ _ (by omega) (by omega) (by omega)).trans hM.2.1.1, h40⟩, ?_, by rw [e242]; exact hM.2.2.2.1, by rw [eod]; exact hM.2.2.2.2.1, hM.2.2.2.2.2⟩, ⟨hv, ?_, ?_⟩, fun p hp => ?_, fun o h1 h2 => (c1 o 0 (by omega) (by omega) (by omega)).trans (hN o h1 h2), fun q hq => ?_, ?_⟩, ?_⟩
  · rw [e242, eod]
    exact hM.2.2.1.congr (fun i hi k hk => c1 _ _ (by omega) (by omega) (by omega)) (fun i hi f hf => m1 _ _ (by omega) (by omega) (by omega))
  · rw [gj_R_n (by omega) (by omega), gp_us]
  · rw [gj_T_n (by omega) (by omega), gp_us]
  · by_cases hpv : p = v
    · subst hpv
      refine ⟨n, h40, k1.trans hM.1.1, ?_, ?_, by rw [k2]; exact hM.2.2.2.1⟩
      · rw [gj_T_1, gp_un (by omega)]
        exact hM.2.1.1
      · rw [k2, eod]
        refine hM.2.2.1.congr (fun i hi k hk => ?_) (fun i hi f hf => ?_)
        · by_cases hk0 : k = 0
          · subst hk0
            show gj_R (gx_up σ 6 1 (nI p)) (8 + p) 24 n (42 + 40 * p + i) 0 = σ (682 + i) 0
            rw [c1 _ _ (by omega) (by omega) (by omega), hN _ (by omega) (by omega), hN (682 + i) (by omega) (by omega)]
            congr 1
            omega
          · exact k3 i hi k (by omega) (by omega)
        · show gj_T (gx_up τ 722 11 (nI p)) p 730 (520 * p + (13 * i + f)) = τ 729 (13 * i + f)
          rw [gj_T_j (by omega), gp_un (by omega)]
    · exact (hP p (by omega)).keep (by omega) (Int.le_refl _) (c1 _ _ (by omega) (by omega) (by omega)) (c1 _ _ (by omega) (by omega) (by omega)) (fun i hi k hk => c1 _ _ (by omega) (by omega) (by omega)) (m1 _ _ (by omega) (by omega) (by omega)) (fun b hb => m1 _ _ (by omega) (by omega) (by omega)) (by rw [eod]; exact Int.le_refl _)
  · have e : ∀ k, gj_R (gx_up σ 6 1 (nI v)) (8 + v) 24 n (2 + q) k = σ (2 + q) k := fun k => c1 _ _ (by omega) (by omega) (by omega)
    have f : ∀ o, o = 723 ∨ o = 724 ∨ o = 725 ∨ o = 726 ∨ o = 727 ∨ o = 728 → gj_T (gx_up τ 722 11 (nI v)) v o q = τ o q := fun o ho => m1 _ _ (by omega) (by omega) (by omega)
    rw [e, e, e, e, e, e, f 723 (by decide), f 724 (by decide), f 725 (by decide), f 726 (by decide), f 727 (by decide), f 728 (by decide), c1 0 4 (by omega) (by omega) (by omega)]
    exact hQ q hq
  · unfold gr_S
    rw [c1 0 0 (by omega) (by omega) (by omega), c1 0 4 (by omega) (by omega) (by omega), c1 0 5 (by omega) (by omega) (by omega), m1 722 0 (by omega) (by omega) (by omega), m1 722 1 (by omega) (by omega) (by omega), m1 722 8 (by omega) (by omega) (by omega)]
    exact hS
  · exact ⟨k1.trans e24.symm, k2.trans e242.symm, fun i hi k g1 g2 => (k3 i hi k g1 g2).trans (c1 _ _ (by omega) (by omega) (by omega)).symm⟩
theorem gr_flush_c {N : Nat} {K T : Int} {σ0 τ0 σ τ : gx_M} {n u : Nat} (h : gr_H K T σ0 τ0 n u σ τ) (hN : 520 < N) : fn_Jn_flushAll N 24 σ = some (σ 6 1, gj_R (gx_up σ 6 1 (nI 0)) (8 + 0) 24 n) := by
  unfold fn_Jn_flushAll
  rw [if_pos (by decide), gp_lt', if_pos (by decide), show gx_el 7 ((0 : Int32)).toNatClampNeg = 8 + 0 from gp_elp (q := 0) (by decide), gj_copy (r := 8 + 0) (s := 24) (n := n) (by omega) (by omega) (by omega) h.2.1.1.2 (by omega) (by rw [gp_un (by omega)]; exact h.2.1.1.1) (fun i hi => by rw [gp_un (by omega)]; exact h.seal i hi), gp_bv]
  rfl
/-- a RECORD in both -/
theorem gr_write {N : Nat} {K T : Int} {σ0 τ0 σ τ : gx_M} {n u : Nat} (h : gr_H K T σ0 τ0 n u σ τ) (hN : 520 < N) : ∃ σ' τ', fn_Jn_write N 24 σ = some σ' ∧ fn_Mo_note N τ = some τ' ∧ gr_R K T σ0 τ0 σ' τ' ∧ ∀ i, i < 40 → σ' (682 + i) 0 = σ (682 + i) 0 := by
  obtain ⟨hu, hu1, hu2⟩ := h.2.2.1
  have h40 := h.2.1.1.2
  unfold fn_Jn_write fn_Mo_note
  rw [if_pos (by decide), hu1, gp_lt', hu2, gp_s, gp_us]
  by_cases h16 : u + 1 < 16
  · have e1 := (gr_snap h (v := u + 1) (by omega) (Nat.le_refl _))
    rw [if_pos (by rw [gp_lt, gp_nI (by omega)]; show ((u + 1 : Nat) : Int) < 16; omega), gp_lt', gp_us, if_pos (gp_in (n := 16) (by omega) (by decide) (by decide)), gp_elp (by omega), gj_copy (r := 8 + (u + 1)) (s := 24) (n := n) (by omega) (by omega) (by omega) h40 (by omega) (by rw [gp_un (by omega)]; exact h.2.1.1.1) (fun i hi => by rw [gp_un (by omega)]; exact h.seal i hi), gp_bv, if_neg (by rw [gp_eq, gp_nI (by omega)]; show ¬ ((u + 1 : Nat) : Int) = 16; omega), gj_store (by omega) hN, gp_bv]
    exact ⟨_, _, rfl, rfl, ⟨n, u + 1, e1.1, e1.2⟩, fun i hi => by rw [gj_R_n (by omega) (by omega), gp_un (by omega)]⟩
  · obtain rfl : u = 15 := by omega
    have e1 := (gr_snap h (v := 0) (by omega) (by omega))
    have ew : gx_up (gx_up τ 722 11 (nI (15 + 1))) 722 11 0 = gx_up τ 722 11 (nI 0) := by
      funext a b
      by_cases hab : a = 722 ∧ b = 11
      · obtain ⟨rfl, rfl⟩ := hab
        rw [gp_us, gp_us]
        rfl
      · rw [gp_un hab, gp_un hab, gp_un hab]
    rw [if_neg (by decide), gr_flush_c h hN, gp_bd, gp_lt', gp_us, if_pos (by decide), gp_lt', gp_us, ew, show fn_Mo_store N 0 (gx_up τ 722 11 (nI 0)) = _ from gj_store (p := 0) (by omega) hN, gp_bv]
    exact ⟨_, _, rfl, rfl, ⟨n, 0, e1.1, e1.2⟩, fun i hi => by rw [gj_R_n (by omega) (by omega), gp_un (by omega)]⟩

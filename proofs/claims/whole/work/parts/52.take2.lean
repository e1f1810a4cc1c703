theorem gt_end {N : Nat} {K T : Int} {σ0 τ0 σ τ : gx_M} {n u q x : Nat} {p0 p1 : Int32} (hH : gr_H K T σ0 τ0 n u σ τ) (hN : 520 < N) (hX : gt_X n σ q = some x) (hp : 0 ≤ p0 ∧ p0 ≤ 5) : ∃ (r : Int32) (σ' τ' : gx_M), gx_lt (gx_up σ (682 + x) 12 p0) (fun σ_27 => gx_bv (fn_Jb_waitUntil N (682 + x) ((2 : Int32)) ((σ_27 0 4) + p1) σ_27) (fun σ_28 => gx_bv (fn_Jn_write N 24 σ_28) (fun σ_30 => some (σ_30 (682 + x) 0, σ_30)))) = some (r, σ') ∧ gx_bd (fn_Mo_inLine N (nI q) ((0 : Int32)) τ) (fun r_21 σ_19 => gx_bv (fn_Mo_set N r_21 ((9 : Int32)) ((2 : Int32)) σ_19) (fun σ_22 => gx_bv (fn_Mo_set N r_21 ((10 : Int32)) ((σ_22 722 1) + p1) σ_22) (fun σ_24 => gx_bv (fn_Mo_set N r_21 ((11 : Int32)) p0 σ_24) (fun σ_26 => gx_bv (fn_Mo_note N σ_26) (fun σ_28 => some (r_21, σ_28)))))) = some (r, τ') ∧ gr_R K T σ0 τ0 σ' τ' := by
  have hM := hH.2.1
  have h40 := hM.1.2
  have hml : fn_Mo_inLine N (nI q) 0 τ = some (gp_dz (gt_X n σ q), τ) := gq_minLine (pl := 0) hM (by omega) (by decide)
  have hx : x < n := ((gq_spec (gq_ord hM (nI q)) 0).1 x hX).1
  have h1 := gt_res (v := σ 0 4 + p1) hM hx hp
  have a1 : gr_Ac σ (gx_up (gx_up (gx_up σ (682 + x) 12 p0) (682 + x) 10 2) (682 + x) 11 (σ 0 4 + p1)) := ((gr_Ac.up (by omega) (by decide)).tr (gr_Ac.up (by omega) (by decide))).tr (gr_Ac.up (by omega) (by decide))
  have m1 : gr_Am τ (gx_up (gx_up (gx_up τ 729 (13 * x + 9) 2) 729 (13 * x + 10) (σ 0 4 + p1)) 729 (13 * x + 11) p0) := (gr_Am.up.tr gr_Am.up).tr gr_Am.up
  obtain ⟨σ2, τ2, w1, w2, w3, w4⟩ := gr_write (hH.step h1 (Int.le_refl _) a1 m1) hN
  have e0 : σ2 (682 + x) 0 = nI x := by rw [w4 x (by omega)]; exact (h1.2.2.1.1 x hx).1.1
  have s2 : σ 0 4 = τ 722 1 := hH.2.2.2.2.2.2.2.1
  rw [hml, gp_bd, hX, show gp_dz (some x) = nI x from rfl, gp_lt']
  unfold fn_Jb_waitUntil
  rw [if_pos (by omega), gp_lt', gp_lt', gp_bv, gp_un (show ¬ (0 = 682 + x ∧ 4 = 12) by omega), w1, gp_bv, e0, gp_se9 (by omega), gp_bv, gp_un (show ¬ (722 = 729 ∧ 1 = 13 * x + 9) by omega), gp_se10 (by omega), gp_bv, gp_se11 (by omega), gp_bv, ← s2, w2, gp_bv]
  exact ⟨_, _, _, rfl, rfl, w3⟩
/-- the number of free places goes down by one, in both -/
theorem gt_tok {K T : Int} {σ0 τ0 σ τ : gx_M} {n u q : Nat} (hH : gr_H K T σ0 τ0 n u σ τ) (hq : q < 4) (ht : 0 < (σ (2 + q) 3).toInt) : gr_H K T σ0 τ0 n u (gx_up σ (2 + q) 3 (σ (2 + q) 3 - 1)) (gx_up τ 726 q (σ (2 + q) 3 - 1)) := by
  obtain ⟨⟨a0, a1, a2, a3, a4, a5⟩, b0, b2, b3, b4, b5⟩ := hH.2.2.2.2.2.1 q hq
  have e : (σ (2 + q) 3 - 1).toInt = (σ (2 + q) 3).toInt - 1 := gp_sub (b := 1) (by rw [gp_t1]; omega) (by rw [gp_t1]; omega)
  refine hH.side (T' := T) (fun o k ho => gp_un (by omega)) (fun o k ho => gp_un (by omega)) (hH.2.2.2.2.2.1.set q (fun x k hx hxq _ => gp_un (by omega)) (fun x k hx hxq _ => gp_un (by omega)) (gp_un (by omega)) ?_) ?_
  · exact gr_V.of (gp_un (by omega)) (gp_un (by omega)) (gp_un (by omega)) gp_us (gp_un (by omega)) (gp_un (by omega)) ((gp_un (by omega)).trans a0.symm) ((gp_un (by omega)).trans a1.symm) ((gp_un (by omega)).trans a2.symm) gp_us ((gp_un (by omega)).trans a4.symm) ((gp_un (by omega)).trans a5.symm) ⟨b0, b2, by omega, b4, b5⟩
  · unfold gr_S
    rw [gp_un (by omega), gp_un (by omega), gp_un (by omega), gp_un (by omega), gp_un (by omega), gp_un (by omega)]
    exact hH.2.2.2.2.2.2
theorem gt_tail {N : Nat} {K T : Int} {σ0 τ0 σ τ : gx_M} {n u q : Nat} {p0 p1 : Int32} (hH : gr_H K T σ0 τ0 n u σ τ) (hN : 520 < N) (hq : q < 4) (hO : gt_O n σ q) (hp : 0 ≤ p0 ∧ p0 ≤ 5) : ∃ (r : Int32) (σ' τ' : gx_M), gx_bd (fn_Ro_nextInLine N 24 (nI q) none σ) (fun x_21 σ_19 => gx_mt x_21 (some ((-4 : Int32), σ_19)) (fun o_22 => if 42 ≤ o_22 ∧ o_22 < 722 then (if 0 ≤ nI q ∧ nI q < 4 then (gx_bv (fn_Qu_spendToken N (gx_el 1 (nI q).toNatClampNeg) σ_19) (fun σ_25 => gx_lt (gx_up σ_25 o_22 12 p0) (fun σ_27 => gx_bv (fn_Jb_waitUntil N o_22 ((2 : Int32)) ((σ_27 0 4) + p1) σ_27) (fun σ_28 => gx_bv (fn_Jn_write N 24 σ_28) (fun σ_30 => some (σ_30 o_22 0, σ_30)))))) else none) else none)) = some (r, σ') ∧ (if 0 ≤ nI q then (if 0 ≤ nI q ∧ nI q < 4 then (if (τ 725 (nI q).toNatClampNeg) ≤ 0 then (gx_bd (fn_Mo_inLine N (nI q) ((0 : Int32)) τ) (fun r_21 σ_19 => gx_bv (fn_Mo_set N r_21 ((9 : Int32)) ((2 : Int32)) σ_19) (fun σ_22 => gx_bv (fn_Mo_set N r_21 ((10 : Int32)) ((σ_22 722 1) + p1) σ_22) (fun σ_24 => gx_bv (fn_Mo_set N r_21 ((11 : Int32)) p0 σ_24) (fun σ_26 => gx_bv (fn_Mo_note N σ_26) (fun σ_28 => some (r_21, σ_28))))))) else (if 0 ≤ nI q ∧ nI q < 4 then (if 0 ≤ nI q ∧ nI q < 4 then (gx_lt (gx_up τ 726 (nI q).toNatClampNeg ((τ 726 (nI q).toNatClampNeg) - ((1 : Int32)))) (fun σ_32 => gx_bd (fn_Mo_inLine N (nI q) ((0 : Int32)) σ_32) (fun r_35 σ_33 => gx_bv (fn_Mo_set N r_35 ((9 : Int32)) ((2 : Int32)) σ_33) (fun σ_36 => gx_bv (fn_Mo_set N r_35 ((10 : Int32)) ((σ_36 722 1) + p1) σ_36) (fun σ_38 => gx_bv (fn_Mo_set N r_35 ((11 : Int32)) p0 σ_38) (fun σ_40 => gx_bv (fn_Mo_note N σ_40) (fun σ_42 => some (r_35, σ_42)))))))) else none) else none)) else none) else (some ((-4 : Int32), τ))) = some (r, τ') ∧ gr_R K T σ0 τ0 σ' τ' := by
  have hM := hH.2.1
  have h40 := hM.1.2
  have hin := gp_in (i := q) (n := 4) (M := 4) hq (by decide) (by decide)
  obtain ⟨⟨x, hX⟩, hor⟩ := hO
  have hx := gq_Xb h40 0 x hX
  obtain ⟨⟨a0, a1, a2, a3, a4, a5⟩, b0, b2, b3, b4, b5⟩ := hH.2.2.2.2.2.1 q hq
  have hcl : fn_Ro_nextInLine N 24 (nI q) none σ = some (gp_id (gt_X n σ q), σ) := gq_next0 hM.1 (by omega)
  rw [hcl, gp_bd, hX, gp_ms', if_pos (show 42 ≤ 682 + x ∧ 682 + x < 722 by omega), if_pos hin, gp_elq hq, if_pos hin.1, if_pos hin, if_pos hin, if_pos hin, gp_cl (by omega), ← a2, ← a3]
  unfold fn_Qu_spendToken
  rw [if_pos (show 2 ≤ 2 + q ∧ 2 + q < 6 by omega)]
  by_cases c0 : σ (2 + q) 2 ≤ 0
  · rw [if_pos c0, if_pos c0, gp_bv]
    exact gt_end hH hN hX hp
  · have c1 := c0
    rw [gp_le, gp_t0] at c1
    have ht : 0 < (σ (2 + q) 3).toInt := by omega
    have hX2 : gt_X n (gx_up σ (2 + q) 3 (σ (2 + q) 3 - 1)) q = some x := by
      rw [gt_Xc (σ := σ) (fun o k ho => gp_un (by omega))]
      exact hX
    rw [if_neg c0, if_neg c0, gp_lt', gp_bv, gp_lt']
    exact gt_end (gt_tok hH hq ht) hN hX2 hp
theorem gr_take (N : Nat) (p0 p1 : Int32) (hN : 520 < N) : gr_op (fn_Bo_take N p0 p1) (fn_Mo_take N p0 p1) := by
  intro K T σ0 τ0 σ τ h hK hT
  obtain ⟨n, u, hH, hE⟩ := id h
  have hM := hH.2.1
  have h40 := hM.1.2
  have hR := h.mono (K' := K + 200) (T' := T + 1000) (by omega) (by omega) (by omega)
  have up : (∃ (r : Int32) (σ' τ' : gx_M), fn_Bo_take N p0 p1 σ = some (r, σ') ∧ fn_Mo_take N p0 p1 τ = some (r, τ') ∧ gr_R K T σ0 τ0 σ' τ') → ∃ (r : Int32) (σ' τ' : gx_M), fn_Bo_take N p0 p1 σ = some (r, σ') ∧ fn_Mo_take N p0 p1 τ = some (r, τ') ∧ gr_R (K + 200) (T + 1000) σ0 τ0 σ' τ' := fun ⟨r, σ', τ', g1, g2, g3⟩ => ⟨r, σ', τ', g1, g2, g3.mono (by omega) (by omega) (by omega)⟩
  apply up
  unfold fn_Bo_take fn_Mo_take
  rw [gp_isWorker, gp_bd, gp_within, gp_bd, gp_i10, gp_i10, gp_mout, gp_bd, gp_mout, gp_bd, gp_i01, gp_i01]
  by_cases c0 : 0 ≤ p0 ∧ p0 ≤ 5
  · rw [if_pos c0, if_pos c0]
    by_cases c1 : 1 ≤ p1 ∧ p1 ≤ 100
    · rw [if_pos c1, if_pos c1, gp_rby hM.1 (by omega), gp_bd]
      cases hf : gp_ff (fun j => decide (σ (682 + j) 10 = 2 ∧ σ (682 + j) 12 = p0)) n 0 with
      | some j =>
        obtain ⟨hj, hs, hp⟩ := gr_ffw hM hf
        have hf2 := (gr_ff hM p0).symm.trans hf
        rw [gp_ms', if_pos (by omega), gp_mholdY hM.2.1 (by omega) c0 hf2, gp_bd, if_neg (gp_nI0 (by omega))]
        exact ⟨_, _, _, rfl, rfl, h⟩
      | none =>
        have hf2 := (gr_ff hM p0).symm.trans hf
        rw [gp_mn', gp_mholdN hM.2.1 (by omega) c0 hf2, gp_bd, if_pos (show (-4 : Int32) < 0 by decide)]
        unfold fn_Bo_openQueueByCredit fn_Bo_firstOpenQueue fn_Mo_choose
        by_cases z : σ 0 0 = 0
        · obtain ⟨r, r', σ1, τ1, e1, e2, hH1, hE1, hr⟩ := gt_credit (show 50 < N by omega) 4 0 N N 0 (-4) (-1) σ τ (by omega) (by omega) (by omega) hH hE z (Or.inl ⟨rfl, rfl⟩)
          rw [if_pos z, show fn_Bo_openQueueByCredit_L7 N N 0 0 (-4) σ = _ from e1, gp_bd, show fn_Mo_choose_L6 N N 0 0 (-1) τ = _ from e2, gp_bd]
          rcases hr with ⟨rfl, rfl⟩ | ⟨q, hq, rfl, rfl, hO⟩
          · rw [if_pos rfl, if_neg (by decide)]
            exact ⟨_, _, _, rfl, rfl, n, u, hH1, hE1⟩
          · rw [if_neg (gt_ne hq)]
            exact gt_tail hH1 hN hq hO c0
        · obtain ⟨r, r', e1, e2, hr⟩ := gt_first (show 50 < N by omega) hH z 4 0 N N 0 (by omega) (by omega) (by omega)
          rw [if_neg z, show fn_Bo_firstOpenQueue_L2 N N 0 σ = _ from e1, gp_bd, show fn_Mo_choose_L6 N N 0 0 (-1) τ = _ from e2, gp_bd]
          rcases hr with ⟨rfl, rfl⟩ | ⟨q, hq, rfl, rfl, hO⟩
          · rw [if_pos rfl, if_neg (by decide)]
            exact ⟨_, _, _, rfl, rfl, h⟩
          · rw [if_neg (gt_ne hq)]
            exact gt_tail hH hN hq hO c0
    · rw [if_neg c1, if_neg c1]
      exact ⟨_, _, _, rfl, rfl, h⟩
  · rw [if_neg c0, if_neg c0]
    exact ⟨_, _, _, rfl, rfl, h⟩

theorem gr_die_w {N n j : Nat} {τ τ' : gx_M} {v : Int32} (hV : gp_V τ n) (hN : 40 < N) (hj : j < 40) (hnd : ¬ τ 729 (13 * j + 9) = 5) (h : fn_Mo_die N (nI j) τ = some τ') : fn_Mo_die N (nI j) (gx_up τ 729 (13 * j + 11) v) = some (gx_up τ' 729 (13 * j + 11) v) := by
  have h40 := hV.2
  have e9 : ∀ i, (gx_up τ 729 (13 * j + 11) v) 729 (13 * i + 9) = τ 729 (13 * i + 9) := fun i => gp_un (by omega)
  have e12 : ∀ i, (gx_up τ 729 (13 * j + 11) v) 729 (13 * i + 12) = τ 729 (13 * i + 12) := fun i => gp_un (by omega)
  have hV' : gp_V (gx_up τ 729 (13 * j + 11) v) n := ⟨by rw [gp_un (by omega)]; exact hV.1, hV.2⟩
  have eP : gp_eP (gx_up τ 729 (13 * j + 11) v) = gp_eP τ := by
    funext i
    show decide _ = decide _
    rw [e9]
  have eL : gp_eL (gx_up τ 729 (13 * j + 11) v) = gp_eL τ := by
    funext i k
    show decide _ = decide _
    rw [e12, e12]
  rw [gr_die hV hN hj hnd] at h
  rw [gr_die hV' hN hj (by rw [e9]; exact hnd), eP, eL]
  by_cases h8 : gp_cn (gp_eP τ) n 0 0 < 8
  · rw [if_pos h8] at h ⊢
    cases h
    rw [gr_emc]
  · rw [if_neg h8] at h ⊢
    cases hf : gp_fm (gp_eP τ) (gp_eL τ) n 0 none with
    | none =>
      exfalso
      have hall := (gp_fm_n hf).2
      have e0 : gp_cn (gp_eP τ) n 0 0 = gp_cn (fun _ => false) n 0 0 := gp_cn_c (fun i _ hi => hall i (by omega) (by omega))
      have hz : ∀ k i, gp_cn (fun _ => false) k i 0 = 0 := by
        intro k
        induction k with
        | zero => intro i; rfl
        | succ k ih => intro i; rw [gp_cn_e]; exact ih (i + 1)
      rw [e0, hz n 0] at h8
      omega
    | some x =>
      have hx := gp_fmb h40 hf
      rw [hf] at h
      have h : gx_bv (fn_Mo_set N (nI x) 9 7 τ) (fun τ1 => some (gr_em τ1 j 5)) = some τ' := h
      show gx_bv (fn_Mo_set N (nI x) 9 7 (gx_up τ 729 (13 * j + 11) v)) (fun τ1 => some (gr_em τ1 j 5)) = _
      rw [gp_se9 hx, gp_bv] at h ⊢
      cases h
      rw [gp_uc (by omega), gr_emc]
/-- becomes SCHEDULED or RETRYING -/
theorem gr_timed {K : Int} {n j : Nat} {σ τ : gx_M} {s v : Int32} (h : gr_M K n σ τ) (hj : j < n) (hs : s = 0 ∨ s = 3) : gr_M K n (gx_up (gx_up σ (682 + j) 10 s) (682 + j) 11 v) (gx_up (gx_up τ 729 (13 * j + 9) s) 729 (13 * j + 10) v) := by
  obtain ⟨hW, hV, hT, hst, hod, hK⟩ := h
  have h40 := hW.2
  refine ⟨⟨by rw [gp_un (by omega), gp_un (by omega)]; exact hW.1, hW.2⟩, ⟨by rw [gp_un (by omega), gp_un (by omega)]; exact hV.1, hV.2⟩, ?_, by rw [gp_un (by omega), gp_un (by omega)]; exact hst, by rw [gp_un (by omega), gp_un (by omega)]; exact hod, hK⟩
  rw [gp_un (show ¬ (24 = 682 + j ∧ 2 = 11) by omega), gp_un (show ¬ (24 = 682 + j ∧ 2 = 10) by omega), gp_un (show ¬ (722 = 729 ∧ 10 = 13 * j + 10) by omega), gp_un (show ¬ (722 = 729 ∧ 10 = 13 * j + 9) by omega)]
  have e10 : gr_c (gx_up (gx_up σ (682 + j) 10 s) (682 + j) 11 v) j 10 = s := by
    show gx_up _ _ _ _ (682 + j) 10 = s
    rw [gp_un (by omega), gp_us]
  refine hT.set j (fun i hi hij k hk => ?_) (fun i hi hij f hf => ?_) (fun _ => ?_) (fun _ hl => ?_)
  · show gx_up _ _ _ _ (682 + i) k = σ (682 + i) k
    rw [gp_un (by omega), gp_un (by omega)]
  · show gx_up _ _ _ _ 729 (13 * i + f) = τ 729 (13 * i + f)
    rw [gp_un (by omega), gp_un (by omega)]
  · refine (hT.1 j hj).st (s := s) (fun k hk => ?_) (fun f hf => ?_) e10 ?_ ?_ (fun _ => ?_) (fun h => ?_)
    · show gx_up _ _ _ _ (682 + j) k = σ (682 + j) k
      rw [gp_un (by omega), gp_un (by omega)]
    · show gx_up _ _ _ _ 729 (13 * j + f) = τ 729 (13 * j + f)
      rw [gp_un (by omega), gp_un (by omega)]
    · show gx_up _ _ _ _ 729 (13 * j + 9) = s
      rw [gp_un (by omega), gp_us]
    · rcases hs with rfl | rfl <;> decide
    · show gx_up _ _ _ _ (682 + j) 11 = gx_up _ _ _ _ 729 (13 * j + 10)
      rw [gp_us, gp_us]
    · rcases hs with rfl | rfl <;> exact absurd h (by decide)
  · rw [e10] at hl
    rcases hs with rfl | rfl <;> exact absurd hl (by unfold gr_ln; decide)
theorem gp_dl_in {b g : Nat} (hb : 1 ≤ b) : 1 ≤ gp_dl b g ∧ gp_dl b g ≤ 500 := by
  unfold gp_dl
  have : 1 ≤ b * 2 ^ (g - 1) := Nat.le_trans hb (Nat.le_mul_of_pos_right b (Nat.two_pow_pos _))
  omega
/-- FAILING -/
theorem gr_fail {N : Nat} {K : Int} {n j : Nat} {σ τ : gx_M} {t : Int32} (h : gr_M K n σ τ) (hN : 40 < N) (hj : j < n) (hs : σ (682 + j) 10 = 2) (ht : τ 722 1 = t) (hK : K < 999999990) : ∃ σ' τ', fn_Ro_failReserved N 24 (682 + j) t σ = some σ' ∧ fn_Mo_failing N (nI j) τ = some τ' ∧ gr_M (K + 2) n σ' τ' ∧ gr_Ac σ σ' ∧ gr_Am τ τ' ∧ (gr_tm (σ' (682 + j) 10) → ∃ d : Nat, 1 ≤ d ∧ d ≤ 500 ∧ σ' (682 + j) 11 = t + nI d) ∧ (∀ i, i < n → i ≠ j → σ' (682 + i) 11 = σ (682 + i) 11 ∧ (σ' (682 + i) 10 = σ (682 + i) 10 ∨ (σ (682 + i) 10 = 5 ∧ σ' (682 + i) 10 = 7))) ∧ (∀ i, i < 40 → τ' 732 i = τ 732 i) := by
  have h40 := h.1.2
  have h1 := gr_inc h hj (by omega)
  obtain ⟨σ1, e1⟩ : ∃ z, z = gx_up σ (682 + j) 6 (σ (682 + j) 6 + 1) := ⟨_, rfl⟩
  obtain ⟨τ1, f1⟩ : ∃ z, z = gx_up τ 729 (13 * j + 4) (τ 729 (13 * j + 4) + 1) := ⟨_, rfl⟩
  rw [← e1, ← f1] at h1
  have ew : gx_up (gx_up τ 729 (13 * j + 11) (-1)) 729 (13 * j + 4) (τ 729 (13 * j + 4) + 1) = gx_up τ1 729 (13 * j + 11) (-1) := by
    rw [f1, gp_uc (by omega)]
  have s1 : ∀ i k, ¬ (i = j ∧ k = 6) → i < 40 → σ1 (682 + i) k = σ (682 + i) k := fun i k hh _ => by rw [e1, gp_un (by omega)]
  have hJ := h1.2.2.1.1 j hj
  have a6 : σ1 (682 + j) 6 = τ1 729 (13 * j + 4) := hJ.1.2.2.2.2.2.2.1
  have a3 : σ1 (682 + j) 3 = τ1 729 (13 * j + 2) := hJ.1.2.2.2.1
  have a4 : σ1 (682 + j) 4 = τ1 729 (13 * j + 3) := hJ.1.2.2.2.2.1
  have l3 : 0 ≤ (σ1 (682 + j) 3).toInt ∧ (σ1 (682 + j) 3).toInt ≤ 5 := hJ.2.2.2.1
  have l4 : 1 ≤ (σ1 (682 + j) 4).toInt ∧ (σ1 (682 + j) 4).toInt ≤ 50 := hJ.2.2.2.2.1
  have l6 : 0 ≤ (σ (682 + j) 6).toInt ∧ (σ (682 + j) 6).toInt ≤ K := (h.2.2.1.1 j hj).2.2.2.2.2.1
  have v6 : (σ1 (682 + j) 6).toInt = (σ (682 + j) 6).toInt + 1 := by
    rw [e1, gp_us]
    have hK1 := h.2.2.2.2.2.2
    exact gp_add (b := 1) (by show -2147483648 ≤ (σ (682 + j) 6).toInt + 1; omega) (by show (σ (682 + j) 6).toInt + 1 < 2147483648; omega)
  have ac1 : gr_Ac σ σ1 := by rw [e1]; exact gr_Ac.up (by omega) (by decide)
  have am1 : gr_Am τ τ1 := by rw [f1]; exact gr_Am.up
  have z1 : ∀ i, τ1 732 i = τ 732 i := fun i => by rw [f1, gp_un (by omega)]
  have n1 : τ1 722 1 = t := by rw [f1, gp_un (by omega)]; exact ht
  have hC : fn_Ro_failReserved N 24 (682 + j) t σ = (if σ1 (682 + j) 6 ≤ σ1 (682 + j) 3 then gx_bd (fn_Jb_retryDelay N (682 + j) σ1) (fun r_5 σ_3 => gx_bv (fn_Jb_waitUntil N (682 + j) 3 (t + r_5) σ_3) (fun σ_6 => some σ_6)) else gx_bv (fn_Ro_bury N 24 (682 + j) σ1) (fun σ_8 => some σ_8)) := by
    unfold fn_Ro_failReserved
    rw [if_pos (by decide), if_pos (by omega), gp_lt', ← e1]
  have hM : fn_Mo_failing N (nI j) τ = (if σ1 (682 + j) 6 ≤ σ1 (682 + j) 3 then fn_Mo_failing_L52 N (nI j) N 1 (σ1 (682 + j) 4) (gx_up τ1 729 (13 * j + 11) (-1)) else gx_bv (fn_Mo_die N (nI j) (gx_up τ1 729 (13 * j + 11) (-1))) (fun σ_29 => some σ_29)) := by
    unfold fn_Mo_failing
    rw [gp_se11 (by omega), gp_bv, gp_of4 (by omega), gp_bd, gp_un (show ¬ (729 = 729 ∧ 13 * j + 4 = 13 * j + 11) by omega), gp_se4 (by omega), gp_bv, ew, gp_of4 (by omega), gp_bd, gp_of2 (by omega), gp_bd, gp_of3 (by omega), gp_bd, gp_un (show ¬ (729 = 729 ∧ 13 * j + 4 = 13 * j + 11) by omega), gp_un (show ¬ (729 = 729 ∧ 13 * j + 2 = 13 * j + 11) by omega), gp_un (show ¬ (729 = 729 ∧ 13 * j + 3 = 13 * j + 11) by omega), ← a6, ← a3, ← a4]
  rw [hC, hM]
  by_cases hle : σ1 (682 + j) 6 ≤ σ1 (682 + j) 3
  · rw [if_pos hle, if_pos hle]
    have hle' := gp_le.mp hle
    obtain ⟨b, hb, eb⟩ := gp_of (x := σ1 (682 + j) 4) (n := 51) (by omega) (by show _ < (51 : Int); omega)
    obtain ⟨g, hg, eg⟩ := gp_of (x := σ1 (682 + j) 6) (n := 6) (by omega) (by show _ < (6 : Int); omega)
    have hb1 : 1 ≤ b := by rw [eb, gp_nI (by omega)] at l4; omega
    have hg1 : 1 ≤ g := by rw [eg, gp_nI (by omega)] at v6; omega
    have hR : fn_Jb_retryDelay N (682 + j) σ1 = some (nI (gp_dl b g), σ1) := by
      unfold fn_Jb_retryDelay
      rw [if_pos (by omega), eb, eg, gp_cdl (by omega) (by omega)]
    have hL := gp_mdl (N := N) (j := j) (g := g) (b := b) (τ := gx_up τ1 729 (13 * j + 11) (-1)) (by omega) (by omega) (by omega) (by rw [gp_un (by omega), ← a6]; exact eg) (g - 1) 1 N (by omega) (Nat.le_refl _) (by omega)
    rw [show b * 2 ^ (1 - 1) = b by simp] at hL
    rw [hR, gp_bd, eb, show fn_Mo_failing_L52 N (nI j) N 1 (nI b) (gx_up τ1 729 (13 * j + 11) (-1)) = _ from hL]
    unfold fn_Jb_waitUntil
    rw [if_pos (by omega), gp_lt', gp_lt', gp_bv, gp_un (show ¬ (722 = 729 ∧ 1 = 13 * j + 11) by omega), n1, gp_uc (show ¬ (729 = 729 ∧ 13 * j + 11 = 13 * j + 9) by omega), gp_uc (show ¬ (729 = 729 ∧ 13 * j + 11 = 13 * j + 10) by omega)]
    have h3 := gr_timed (s := 3) (v := t + nI (gp_dl b g)) h1 hj (Or.inr rfl)
    have h4 := gr_wk (v := -1) h3 (fun _ => by rw [gp_un (by omega), gp_us]; decide)
    refine ⟨_, _, rfl, rfl, ?_, ?_, ?_, ?_, ?_, ?_⟩
    · obtain ⟨q1, q2, q3, q4, q5, q6, q7⟩ := h4
      exact ⟨q1, q2, q3.mono (by omega) (Int.le_refl _) (Int.le_refl _), by omega, by omega, by omega, by omega⟩
    · exact (ac1.tr (gr_Ac.up (by omega) (by decide))).tr (gr_Ac.up (by omega) (by decide))
    · exact ((am1.tr gr_Am.up).tr gr_Am.up).tr gr_Am.up
    · intro _
      exact ⟨gp_dl b g, (gp_dl_in hb1).1, (gp_dl_in hb1).2, gp_us⟩
    · intro i hi hij
      rw [gp_un (by omega), gp_un (by omega), gp_un (by omega), gp_un (by omega), s1 i 11 (by omega) (by omega), s1 i 10 (by omega) (by omega)]
      exact ⟨rfl, Or.inl rfl⟩
    · intro i hi
      rw [gp_un (by omega), gp_un (by omega), gp_un (by omega)]
      exact z1 i
  · rw [if_neg hle, if_neg hle]
    have hnd : ¬ σ1 (682 + j) 10 = 5 := by rw [s1 j 10 (by omega) (by omega), hs]; decide
    have a10 : σ1 (682 + j) 10 = τ1 729 (13 * j + 9) := hJ.1.2.2.2.2.2.2.2.2.2.2
    obtain ⟨σ', τ', q1, q2, q3, q4, q5, q6, q7, q8⟩ := gr_bury h1 hN hj hnd (by omega)
    have q2' := gr_die_w (v := -1) h1.2.1 hN (by omega) (by rw [← a10]; exact hnd) q2
    rw [q1, gp_bv, q2', gp_bv]
    refine ⟨_, _, rfl, rfl, ?_, ac1.tr q4, (am1.tr q5).tr gr_Am.up, ?_, ?_, ?_⟩
    · have h5 := gr_wk (v := -1) q3 (fun _ => by rw [q6]; decide)
      rw [show K + 1 + 1 = K + 2 by omega] at h5
      exact h5
    · intro htm
      rw [q6] at htm
      exact absurd htm (by unfold gr_tm; decide)
    · intro i hi hij
      have := q7 i hi hij
      rw [s1 i 11 (by omega) (by omega), s1 i 10 (by omega) (by omega)] at this
      exact this
    · intro i hi
      rw [gp_un (by omega), q8 i hi]
      exact z1 i

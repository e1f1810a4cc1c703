theorem gp_uc {σ : gx_M} {o k o' k' : Nat} {v v' : Int32} (h : ¬ (o = o' ∧ k = k')) : gx_up (gx_up σ o k v) o' k' v' = gx_up (gx_up σ o' k' v') o k v := by
  funext a b
  by_cases h1 : a = o ∧ b = k
  · obtain ⟨rfl, rfl⟩ := h1
    rw [gp_un h, gp_us, gp_us]
  · rw [gp_un (σ := gx_up σ o' k' v') h1]
    by_cases h2 : a = o' ∧ b = k'
    · obtain ⟨rfl, rfl⟩ := h2
      rw [gp_us, gp_us]
    · rw [gp_un h2, gp_un h1, gp_un h2]
theorem gr_emc {τ : gx_M} {j : Nat} {s v : Int32} : gr_em (gx_up τ 729 (13 * j + 11) v) j s = gx_up (gr_em τ j s) 729 (13 * j + 11) v := by
  unfold gr_em
  rw [gp_un (show ¬ (722 = 729 ∧ 10 = 13 * j + 11) by omega), gp_uc (show ¬ (729 = 729 ∧ 13 * j + 11 = 13 * j + 9) by omega), gp_uc (show ¬ (729 = 729 ∧ 13 * j + 11 = 13 * j + 12) by omega), gp_uc (show ¬ (729 = 722 ∧ 13 * j + 11 = 10) by omega)]
/-- the reference's row of a worker, of one that isn't RESERVED -/
theorem gr_wk {K : Int} {n j : Nat} {σ τ : gx_M} {v : Int32} (h : gr_M K n σ τ) (hs : j < n → ¬ σ (682 + j) 10 = 2) : gr_M K n σ (gx_up τ 729 (13 * j + 11) v) := by
  obtain ⟨hW, hV, hT, hst, hod, hK⟩ := h
  refine ⟨hW, ⟨by rw [gp_un (by omega)]; exact hV.1, hV.2⟩, ?_, hst, by rw [gp_un (by omega)]; exact hod, hK⟩
  rw [gp_un (show ¬ (722 = 729 ∧ 10 = 13 * j + 11) by omega)]
  refine hT.set j (fun i hi hij k hk => rfl) (fun i hi hij f hf => ?_) (fun hj => ?_) (fun hj hl => ⟨hl, rfl, ?_⟩)
  · show gx_up τ 729 (13 * j + 11) v 729 (13 * i + f) = τ 729 (13 * i + f)
    rw [gp_un (by omega)]
  · have hJ := hT.1 j hj
    refine hJ.st (s := σ (682 + j) 10) (fun k hk => rfl) (fun f hf => ?_) rfl ?_ hJ.2.2.2.2.2.2.2.2.1 (fun h => ?_) (fun h => absurd h (hs hj))
    · show gx_up τ 729 (13 * j + 11) v 729 (13 * j + f) = τ 729 (13 * j + f)
      rw [gp_un (by omega)]
    · show gx_up τ 729 (13 * j + 11) v 729 (13 * j + 9) = _
      rw [gp_un (by omega)]
      exact hJ.1.2.2.2.2.2.2.2.2.2.2.symm
    · show _ = gx_up τ 729 (13 * j + 11) v 729 (13 * j + 10)
      rw [gp_un (by omega)]
      exact hJ.2.1 h
  · show gx_up τ 729 (13 * j + 11) v 729 (13 * j + 12) = _
    rw [gp_un (by omega)]
    rfl
/-- a failure more -/
theorem gr_inc {K : Int} {n j : Nat} {σ τ : gx_M} (h : gr_M K n σ τ) (hj : j < n) (hK : K < 999999999) : gr_M (K + 1) n (gx_up σ (682 + j) 6 (σ (682 + j) 6 + 1)) (gx_up τ 729 (13 * j + 4) (τ 729 (13 * j + 4) + 1)) := by
  obtain ⟨hW, hV, hT, hst, hod, hK0, hK1⟩ := h
  have h40 := hW.2
  refine ⟨⟨by rw [gp_un (by omega)]; exact hW.1, hW.2⟩, ⟨by rw [gp_un (by omega)]; exact hV.1, hV.2⟩, ?_, by rw [gp_un (by omega)]; omega, by rw [gp_un (by omega)]; omega, by omega, by omega⟩
  rw [gp_un (show ¬ (24 = 682 + j ∧ 2 = 6) by omega), gp_un (show ¬ (722 = 729 ∧ 10 = 13 * j + 4) by omega)]
  refine (hT.mono (K' := K + 1) (by omega) (Int.le_refl _) (Int.le_refl _)).set j (fun i hi hij k hk => ?_) (fun i hi hij f hf => ?_) (fun _ => ?_) (fun _ hl => ⟨?_, ?_, ?_⟩)
  · show gx_up σ (682 + j) 6 _ (682 + i) k = σ (682 + i) k
    rw [gp_un (by omega)]
  · show gx_up τ 729 (13 * j + 4) _ 729 (13 * i + f) = τ 729 (13 * i + f)
    rw [gp_un (by omega)]
  · obtain ⟨⟨a0, a1, a2, a3, a4, a5, a6, a7, a8, a9, a10⟩, b1, b2, b3, b4, b5, b6, b7, b8, b9⟩ := hT.1 j hj
    have hx : ∀ k, k ≠ 6 → gr_c (gx_up σ (682 + j) 6 (σ (682 + j) 6 + 1)) j k = gr_c σ j k := fun k hk => gp_un (by omega)
    have hy : ∀ f, f ≠ 4 → gr_m (gx_up τ 729 (13 * j + 4) (τ 729 (13 * j + 4) + 1)) j f = gr_m τ j f := fun f hf => gp_un (by omega)
    have hx6 : gr_c (gx_up σ (682 + j) 6 (σ (682 + j) 6 + 1)) j 6 = σ (682 + j) 6 + 1 := gp_us
    have hy4 : gr_m (gx_up τ 729 (13 * j + 4) (τ 729 (13 * j + 4) + 1)) j 4 = τ 729 (13 * j + 4) + 1 := gp_us
    have a6 : σ (682 + j) 6 = τ 729 (13 * j + 4) := a6
    have b5 : 0 ≤ (σ (682 + j) 6).toInt ∧ (σ (682 + j) 6).toInt ≤ K := b5
    have t1 : (σ (682 + j) 6 + 1).toInt = (σ (682 + j) 6).toInt + 1 := gp_add (b := 1) (by show -2147483648 ≤ (σ (682 + j) 6).toInt + 1; omega) (by show (σ (682 + j) 6).toInt + 1 < 2147483648; omega)
    unfold gr_J
    rw [hx 0 (by decide), hx 1 (by decide), hx 2 (by decide), hx 3 (by decide), hx 4 (by decide), hx 5 (by decide), hx6, hx 7 (by decide), hx 8 (by decide), hx 9 (by decide), hx 10 (by decide), hx 11 (by decide), hx 12 (by decide), hy 0 (by decide), hy 1 (by decide), hy 2 (by decide), hy 3 (by decide), hy4, hy 5 (by decide), hy 6 (by decide), hy 7 (by decide), hy 8 (by decide), hy 9 (by decide), hy 10 (by decide), hy 11 (by decide)]
    exact ⟨⟨a0, a1, a2, a3, a4, a5, by rw [a6], a7, a8, a9, a10⟩, b1, b2, b3, b4, by rw [t1]; omega, b6, b7, b8, b9⟩
  · have e : gr_c (gx_up σ (682 + j) 6 (σ (682 + j) 6 + 1)) j 10 = gr_c σ j 10 := gp_un (by omega)
    rw [e] at hl
    exact hl
  · exact gp_un (by omega)
  · exact gp_un (by omega)
/-- a wait of g - 1 doublings, at most 500 -/
def gp_dl (b g : Nat) : Nat := min 500 (b * 2 ^ (g - 1))
theorem gp_cdl {b g : Nat} (hb : b ≤ 50) (hg : 1 ≤ g ∧ g ≤ 5) : (if nI b <<< ((nI g - 1) &&& 31) < 500 then nI b <<< ((nI g - 1) &&& 31) else 500) = nI (gp_dl b g) := by
  have key : nI b <<< ((nI g - 1) &&& 31) = nI (b * 2 ^ (g - 1)) := by
    rcases (show g = 1 ∨ g = 2 ∨ g = 3 ∨ g = 4 ∨ g = 5 by omega) with rfl | rfl | rfl | rfl | rfl
    · exact pk_shlN _ 0 (by decide) (by omega)
    · exact pk_shlN _ 1 (by decide) (by omega)
    · exact pk_shlN _ 2 (by decide) (by omega)
    · exact pk_shlN _ 3 (by decide) (by omega)
    · exact pk_shlN _ 4 (by decide) (by omega)
  have hW : b * 2 ^ (g - 1) ≤ 800 := by
    rcases (show g = 1 ∨ g = 2 ∨ g = 3 ∨ g = 4 ∨ g = 5 by omega) with rfl | rfl | rfl | rfl | rfl <;> simp only [Nat.sub_self, Nat.reduceSub, Nat.reducePow] <;> omega
  rw [key]
  unfold gp_dl
  generalize b * 2 ^ (g - 1) = W at hW
  by_cases h : W < 500
  · rw [if_pos (by rw [gp_lt, gp_nI (by omega)]; show (W : Int) < 500; omega), Nat.min_eq_right (by omega)]
  · rw [if_neg (by rw [gp_lt, gp_nI (by omega)]; show ¬ (W : Int) < 500; omega), Nat.min_eq_left (by omega)]
    rfl
theorem gp_mdl {N j g b : Nat} {τ : gx_M} (hj : j < 40) (hb : b ≤ 50) (hg : 1 ≤ g ∧ g ≤ 5) (hf4 : τ 729 (13 * j + 4) = nI g) : ∀ (k v f : Nat), v + k = g → 1 ≤ v → k < f → fn_Mo_failing_L52 N (nI j) f (nI v) (nI (b * 2 ^ (v - 1))) τ = some (gx_up (gx_up τ 729 (13 * j + 9) 3) 729 (13 * j + 10) (τ 722 1 + nI (gp_dl b g))) := by
  intro k
  induction k with
  | zero =>
    intro v f hv h1 hf
    obtain ⟨f, rfl⟩ : ∃ h, f = h + 1 := ⟨f - 1, by omega⟩
    obtain rfl : v = g := by omega
    have hW : b * 2 ^ (v - 1) ≤ 800 := by
      rcases (show v = 1 ∨ v = 2 ∨ v = 3 ∨ v = 4 ∨ v = 5 by omega) with rfl | rfl | rfl | rfl | rfl <;> simp only [Nat.sub_self, Nat.reduceSub, Nat.reducePow] <;> omega
    rw [fn_Mo_failing_L52, gp_of4 hj, gp_bd, hf4, if_pos (gp_le.mpr (Int.le_refl _)), gp_se9 hj, gp_bv, gp_se10 hj, gp_bv, gp_se10 hj, gp_bv, gp_un (show ¬ (722 = 729 ∧ 1 = 13 * j + 9) by omega)]
    unfold gp_dl
    generalize b * 2 ^ (v - 1) = W at hW
    by_cases h : W ≤ 500
    · rw [if_pos (by rw [gp_le, gp_nI (by omega)]; show (W : Int) ≤ 500; omega), Nat.min_eq_right (by omega)]
    · rw [if_neg (by rw [gp_le, gp_nI (by omega)]; show ¬ (W : Int) ≤ 500; omega), Nat.min_eq_left (by omega)]
      rfl
  | succ k ih =>
    intro v f hv h1 hf
    obtain ⟨f, rfl⟩ : ∃ h, f = h + 1 := ⟨f - 1, by omega⟩
    have e2 : nI (b * 2 ^ (v - 1)) * 2 = nI (b * 2 ^ (v + 1 - 1)) := by
      rw [show (2 : Int32) = nI 2 from rfl, pk_mul]
      congr 1
      rw [Nat.mul_assoc, ← Nat.pow_succ, show (v - 1).succ = v + 1 - 1 by omega]
    rw [fn_Mo_failing_L52, gp_of4 hj, gp_bd, hf4, if_neg (by rw [gp_ge (by omega) (by omega)]; omega), e2, gp_s]
    exact ih (v + 1) f (by omega) (by omega) (by omega)

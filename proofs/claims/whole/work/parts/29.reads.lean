theorem gp_ix {j f : Nat} {F : Int32} (hj : j < 40) (hf : f < 13) (hF : F = nI f) : 0 ≤ nI j * 13 + F ∧ nI j * 13 + F < 520 ∧ (nI j * 13 + F).toNatClampNeg = 13 * j + f := by
  have e : nI j * 13 + F = nI (13 * j + f) := by
    rw [hF, show (13 : Int32) = nI 13 from rfl, pk_mul, nI_add, Nat.mul_comm]
  rw [e]
  have h := gp_in (i := 13 * j + f) (n := 520) (M := 520) (by omega) (by decide) (by decide)
  exact ⟨h.1, h.2, gp_cl (by omega)⟩
theorem gp_mof {N j f : Nat} {F : Int32} {τ : gx_M} (hj : j < 40) (hf : f < 13) (hF : F = nI f) : fn_Mo_of N (nI j) F τ = some (τ 729 (13 * j + f), τ) := by
  obtain ⟨h1, h2, h3⟩ := gp_ix hj hf hF
  unfold fn_Mo_of
  rw [if_pos ⟨h1, h2⟩, h3]
theorem gp_mset {N j f : Nat} {F v : Int32} {τ : gx_M} (hj : j < 40) (hf : f < 13) (hF : F = nI f) : fn_Mo_set N (nI j) F v τ = some (gx_up τ 729 (13 * j + f) v) := by
  obtain ⟨h1, h2, h3⟩ := gp_ix hj hf hF
  unfold fn_Mo_set gx_lt
  rw [if_pos ⟨h1, h2⟩, h3]
theorem gp_of0 {N j : Nat} {τ : gx_M} (hj : j < 40) : fn_Mo_of N (nI j) 0 τ = some (τ 729 (13 * j + 0), τ) := gp_mof hj (by decide) rfl
theorem gp_se0 {N j : Nat} {v : Int32} {τ : gx_M} (hj : j < 40) : fn_Mo_set N (nI j) 0 v τ = some (gx_up τ 729 (13 * j + 0) v) := gp_mset hj (by decide) rfl
theorem gp_of1 {N j : Nat} {τ : gx_M} (hj : j < 40) : fn_Mo_of N (nI j) 1 τ = some (τ 729 (13 * j + 1), τ) := gp_mof hj (by decide) rfl
theorem gp_se1 {N j : Nat} {v : Int32} {τ : gx_M} (hj : j < 40) : fn_Mo_set N (nI j) 1 v τ = some (gx_up τ 729 (13 * j + 1) v) := gp_mset hj (by decide) rfl
theorem gp_of2 {N j : Nat} {τ : gx_M} (hj : j < 40) : fn_Mo_of N (nI j) 2 τ = some (τ 729 (13 * j + 2), τ) := gp_mof hj (by decide) rfl
theorem gp_se2 {N j : Nat} {v : Int32} {τ : gx_M} (hj : j < 40) : fn_Mo_set N (nI j) 2 v τ = some (gx_up τ 729 (13 * j + 2) v) := gp_mset hj (by decide) rfl
theorem gp_of3 {N j : Nat} {τ : gx_M} (hj : j < 40) : fn_Mo_of N (nI j) 3 τ = some (τ 729 (13 * j + 3), τ) := gp_mof hj (by decide) rfl
theorem gp_se3 {N j : Nat} {v : Int32} {τ : gx_M} (hj : j < 40) : fn_Mo_set N (nI j) 3 v τ = some (gx_up τ 729 (13 * j + 3) v) := gp_mset hj (by decide) rfl
theorem gp_of4 {N j : Nat} {τ : gx_M} (hj : j < 40) : fn_Mo_of N (nI j) 4 τ = some (τ 729 (13 * j + 4), τ) := gp_mof hj (by decide) rfl
theorem gp_se4 {N j : Nat} {v : Int32} {τ : gx_M} (hj : j < 40) : fn_Mo_set N (nI j) 4 v τ = some (gx_up τ 729 (13 * j + 4) v) := gp_mset hj (by decide) rfl
theorem gp_of5 {N j : Nat} {τ : gx_M} (hj : j < 40) : fn_Mo_of N (nI j) 5 τ = some (τ 729 (13 * j + 5), τ) := gp_mof hj (by decide) rfl
theorem gp_se5 {N j : Nat} {v : Int32} {τ : gx_M} (hj : j < 40) : fn_Mo_set N (nI j) 5 v τ = some (gx_up τ 729 (13 * j + 5) v) := gp_mset hj (by decide) rfl
theorem gp_of6 {N j : Nat} {τ : gx_M} (hj : j < 40) : fn_Mo_of N (nI j) 6 τ = some (τ 729 (13 * j + 6), τ) := gp_mof hj (by decide) rfl
theorem gp_se6 {N j : Nat} {v : Int32} {τ : gx_M} (hj : j < 40) : fn_Mo_set N (nI j) 6 v τ = some (gx_up τ 729 (13 * j + 6) v) := gp_mset hj (by decide) rfl
theorem gp_of7 {N j : Nat} {τ : gx_M} (hj : j < 40) : fn_Mo_of N (nI j) 7 τ = some (τ 729 (13 * j + 7), τ) := gp_mof hj (by decide) rfl
theorem gp_se7 {N j : Nat} {v : Int32} {τ : gx_M} (hj : j < 40) : fn_Mo_set N (nI j) 7 v τ = some (gx_up τ 729 (13 * j + 7) v) := gp_mset hj (by decide) rfl
theorem gp_of8 {N j : Nat} {τ : gx_M} (hj : j < 40) : fn_Mo_of N (nI j) 8 τ = some (τ 729 (13 * j + 8), τ) := gp_mof hj (by decide) rfl
theorem gp_se8 {N j : Nat} {v : Int32} {τ : gx_M} (hj : j < 40) : fn_Mo_set N (nI j) 8 v τ = some (gx_up τ 729 (13 * j + 8) v) := gp_mset hj (by decide) rfl
theorem gp_of9 {N j : Nat} {τ : gx_M} (hj : j < 40) : fn_Mo_of N (nI j) 9 τ = some (τ 729 (13 * j + 9), τ) := gp_mof hj (by decide) rfl
theorem gp_se9 {N j : Nat} {v : Int32} {τ : gx_M} (hj : j < 40) : fn_Mo_set N (nI j) 9 v τ = some (gx_up τ 729 (13 * j + 9) v) := gp_mset hj (by decide) rfl
theorem gp_of10 {N j : Nat} {τ : gx_M} (hj : j < 40) : fn_Mo_of N (nI j) 10 τ = some (τ 729 (13 * j + 10), τ) := gp_mof hj (by decide) rfl
theorem gp_se10 {N j : Nat} {v : Int32} {τ : gx_M} (hj : j < 40) : fn_Mo_set N (nI j) 10 v τ = some (gx_up τ 729 (13 * j + 10) v) := gp_mset hj (by decide) rfl
theorem gp_of11 {N j : Nat} {τ : gx_M} (hj : j < 40) : fn_Mo_of N (nI j) 11 τ = some (τ 729 (13 * j + 11), τ) := gp_mof hj (by decide) rfl
theorem gp_se11 {N j : Nat} {v : Int32} {τ : gx_M} (hj : j < 40) : fn_Mo_set N (nI j) 11 v τ = some (gx_up τ 729 (13 * j + 11) v) := gp_mset hj (by decide) rfl
theorem gp_of12 {N j : Nat} {τ : gx_M} (hj : j < 40) : fn_Mo_of N (nI j) 12 τ = some (τ 729 (13 * j + 12), τ) := gp_mof hj (by decide) rfl
theorem gp_se12 {N j : Nat} {v : Int32} {τ : gx_M} (hj : j < 40) : fn_Mo_set N (nI j) 12 v τ = some (gx_up τ 729 (13 * j + 12) v) := gp_mset hj (by decide) rfl
theorem gp_bd {α β γ : Type} {a : α} {b : β} {k : α → β → Option γ} : gx_bd (some (a, b)) k = k a b := rfl
theorem gp_bv {β γ : Type} {b : β} {k : β → Option γ} : gx_bv (some b) k = k b := rfl
theorem gp_lt' {α β : Type} {x : α} {k : α → β} : gx_lt x k = k x := rfl
theorem gp_mn {β : Type} {a : β} {f : Nat → β} : gx_mt none a f = a := rfl
theorem gp_ms {β : Type} {a : β} {f : Nat → β} {o : Nat} : gx_mt (some o) a f = f o := rfl
theorem gp_un {σ : gx_M} {o k a b : Nat} {v : Int32} (h : ¬ (a = o ∧ b = k)) : gx_up σ o k v a b = σ a b := if_neg h
theorem gp_us {σ : gx_M} {o k : Nat} {v : Int32} : gx_up σ o k v o k = v := if_pos ⟨rfl, rfl⟩
/-! the class's reads -/
abbrev gp_W (σ : gx_M) (n : Nat) : Prop := σ 24 1 = nI n ∧ n ≤ 40
theorem gp_isLive {N o : Nat} {σ : gx_M} (h : 42 ≤ o ∧ o < 722) : fn_Jb_isLive N o σ = some (if σ o 10 = 4 ∨ σ o 10 = 5 ∨ σ o 10 = 7 then 0 else 1, σ) := by
  unfold fn_Jb_isLive
  rw [if_pos h]
  by_cases h4 : σ o 10 = 4
  · simp [h4]
  · by_cases h5 : σ o 10 = 5
    · simp [h5]
    · by_cases h7 : σ o 10 = 7
      · simp [h7]
      · simp [h4, h5, h7]
theorem gp_isTimed {N o : Nat} {σ : gx_M} (h : 42 ≤ o ∧ o < 722) : fn_Jb_isTimed N o σ = some (if σ o 10 = 0 ∨ σ o 10 = 3 ∨ σ o 10 = 2 then 1 else 0, σ) := by
  unfold fn_Jb_isTimed
  rw [if_pos h]
  by_cases h4 : σ o 10 = 0
  · simp [h4]
  · by_cases h5 : σ o 10 = 3
    · simp [h5]
    · by_cases h7 : σ o 10 = 2
      · simp [h7]
      · simp [h4, h5, h7]
theorem gp_find {N : Nat} {σ : gx_M} {n : Nat} (hW : gp_W σ n) (p : Int32) : fn_Ro_find N 24 p σ = some (if 0 ≤ p.toInt ∧ p.toInt < n then some (682 + p.toInt.toNat) else none, σ) := by
  obtain ⟨h1, h2⟩ := hW
  unfold fn_Ro_find
  rw [if_pos (by decide)]
  by_cases hp : p.toInt < 0
  · rw [if_pos (gp_lt.mpr (by simpa using hp)), if_neg (by omega)]
  · rw [if_neg (fun h => hp (by simpa using gp_lt.mp h))]
    by_cases hn : p.toInt < n
    · obtain ⟨j, hj, rfl⟩ := gp_of (by omega) hn
      have e : (nI j).toInt = (j : Int) := gp_nI (by omega)
      rw [h1, if_neg (by rw [gp_ge (by omega) (by omega)]; omega), if_pos (gp_in (n := 40) (by omega) (by decide) (by decide)), gp_el (by omega), if_pos ⟨by omega, hn⟩, e]
      rfl
    · rw [h1, if_pos (by rw [gp_le, gp_nI (by omega)]; omega), if_neg (by omega)]
theorem gp_reservedBy_L {N n : Nat} {σ : gx_M} {w : Int32} (hW : gp_W σ n) : ∀ (k i f : Nat), i + k = n → k < f → fn_Ro_reservedBy_L2 N 24 w f (nI i) σ = some ((gp_ff (fun j => decide (σ (682 + j) 10 = 2 ∧ σ (682 + j) 12 = w)) k i).map (fun j => 682 + j), σ) := by
  obtain ⟨h1, h2⟩ := id hW
  intro k
  induction k with
  | zero =>
    intro i f hi hf
    obtain ⟨f, rfl⟩ : ∃ g, f = g + 1 := ⟨f - 1, by omega⟩
    rw [fn_Ro_reservedBy_L2, h1, if_pos (by rw [gp_ge (by omega) (by omega)]; omega)]
    rfl
  | succ k ih =>
    intro i f hi hf
    obtain ⟨f, rfl⟩ : ∃ g, f = g + 1 := ⟨f - 1, by omega⟩
    have hin := gp_in (i := i) (n := 40) (M := 40) (by omega) (by decide) (by decide)
    rw [fn_Ro_reservedBy_L2, h1, if_neg (by rw [gp_ge (by omega) (by omega)]; omega), if_pos hin, gp_el (by omega), gp_s, ih (i + 1) f (by omega) (by omega)]
    rw [gp_ff_e]
    by_cases ha : σ (682 + i) 10 = 2
    · by_cases hb : σ (682 + i) 12 = w
      · rw [if_pos ha, if_pos hin, if_pos hb, if_pos hin, if_pos (by simp [ha, hb])]
        rfl
      · rw [if_pos ha, if_pos hin, if_neg hb, if_neg (by simp [hb])]
    · rw [if_neg ha, if_neg (by simp [ha])]
theorem gp_reservedBy {N n : Nat} {σ : gx_M} {w : Int32} (hW : gp_W σ n) (hN : 40 < N) : fn_Ro_reservedBy N 24 w σ = some ((gp_ff (fun j => decide (σ (682 + j) 10 = 2 ∧ σ (682 + j) 12 = w)) n 0).map (fun j => 682 + j), σ) := by
  unfold fn_Ro_reservedBy
  rw [if_pos (by decide)]
  exact gp_reservedBy_L hW n 0 N (by omega) (by have := hW.2; omega)
theorem gp_hasLiveKey_L {N n : Nat} {σ : gx_M} {w : Int32} (hW : gp_W σ n) : ∀ (k i f : Nat), i + k = n → k < f → fn_Ro_hasLiveKey_L9 N 24 w f (nI i) σ = some (if (gp_ff (fun j => decide (σ (682 + j) 5 = w ∧ ¬ (σ (682 + j) 10 = 4 ∨ σ (682 + j) 10 = 5 ∨ σ (682 + j) 10 = 7))) k i).isSome = true then 1 else 0, σ) := by
  obtain ⟨h1, h2⟩ := id hW
  intro k
  induction k with
  | zero =>
    intro i f hi hf
    obtain ⟨f, rfl⟩ : ∃ g, f = g + 1 := ⟨f - 1, by omega⟩
    rw [fn_Ro_hasLiveKey_L9, h1, if_pos (by rw [gp_ge (by omega) (by omega)]; omega)]
    rfl
  | succ k ih =>
    intro i f hi hf
    obtain ⟨f, rfl⟩ : ∃ g, f = g + 1 := ⟨f - 1, by omega⟩
    have hin := gp_in (i := i) (n := 40) (M := 40) (by omega) (by decide) (by decide)
    rw [fn_Ro_hasLiveKey_L9, h1, if_neg (by rw [gp_ge (by omega) (by omega)]; omega), if_pos hin, gp_el (by omega), gp_s, gp_isLive (by omega), gp_bd, ih (i + 1) f (by omega) (by omega)]
    rw [gp_ff_e]
    by_cases ha : σ (682 + i) 5 = w
    · by_cases hb : σ (682 + i) 10 = 4 ∨ σ (682 + i) 10 = 5 ∨ σ (682 + i) 10 = 7
      · rw [if_pos ha, if_pos hin, if_pos hb, if_pos rfl, if_neg (show ¬ decide _ = true by simp only [decide_eq_true_eq]; exact fun h => h.2 hb)]
      · rw [if_pos ha, if_pos hin, if_neg hb, if_neg (by decide), if_pos (show decide _ = true by simp only [decide_eq_true_eq]; exact ⟨ha, hb⟩)]
        rfl
    · rw [if_neg ha, if_neg (show ¬ decide _ = true by simp only [decide_eq_true_eq]; exact fun h => ha h.1)]
theorem gp_hasLiveKey {N n : Nat} {σ : gx_M} {w : Int32} (hW : gp_W σ n) (hN : 40 < N) : fn_Ro_hasLiveKey N 24 w σ = some (if w ≠ -1 ∧ (gp_ff (fun j => decide (σ (682 + j) 5 = w ∧ ¬ (σ (682 + j) 10 = 4 ∨ σ (682 + j) 10 = 5 ∨ σ (682 + j) 10 = 7))) n 0).isSome = true then 1 else 0, σ) := by
  unfold fn_Ro_hasLiveKey
  rw [if_pos (by decide)]
  by_cases hw : w = -1
  · rw [if_pos hw, if_neg (fun h => h.1 hw)]
  · rw [if_neg hw, show fn_Ro_hasLiveKey_L9 N 24 w N 0 σ = _ from gp_hasLiveKey_L (w := w) hW n 0 N (by omega) (by have := hW.2; omega)]
    simp only [ne_eq, hw, not_false_eq_true, true_and]
theorem gp_countIn_L {N n : Nat} {σ : gx_M} {w : Int32} (hW : gp_W σ n) : ∀ (k i f a : Nat), i + k = n → k < f → fn_Ro_countIn_L4 N 24 w f (nI i) (nI a) σ = some (nI (gp_cn (fun j => decide (σ (682 + j) 10 = w)) k i a), σ) := by
  obtain ⟨h1, h2⟩ := id hW
  intro k
  induction k with
  | zero =>
    intro i f a hi hf
    obtain ⟨f, rfl⟩ : ∃ g, f = g + 1 := ⟨f - 1, by omega⟩
    rw [fn_Ro_countIn_L4, h1, if_pos (by rw [gp_ge (by omega) (by omega)]; omega)]
    rfl
  | succ k ih =>
    intro i f a hi hf
    obtain ⟨f, rfl⟩ : ∃ g, f = g + 1 := ⟨f - 1, by omega⟩
    have hin := gp_in (i := i) (n := 40) (M := 40) (by omega) (by decide) (by decide)
    rw [fn_Ro_countIn_L4, h1, if_neg (by rw [gp_ge (by omega) (by omega)]; omega), if_pos hin, gp_el (by omega), gp_s, gp_s, ih (i + 1) f a (by omega) (by omega), ih (i + 1) f (a + 1) (by omega) (by omega)]
    rw [gp_cn_e]
    by_cases ha : σ (682 + i) 10 = w
    · rw [if_pos ha, if_pos (by simp [ha])]
    · rw [if_neg ha, if_neg (by simp [ha])]
theorem gp_countIn {N n : Nat} {σ : gx_M} {w : Int32} (hW : gp_W σ n) (hN : 40 < N) : fn_Ro_countIn N 24 w σ = some (nI (gp_cn (fun j => decide (σ (682 + j) 10 = w)) n 0 0), σ) := by
  unfold fn_Ro_countIn
  rw [if_pos (by decide)]
  exact gp_countIn_L hW n 0 N 0 (by omega) (by have := hW.2; omega)

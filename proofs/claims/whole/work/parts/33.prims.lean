def gr_c (σ : gx_M) : Nat → Nat → Int32 := fun i k => σ (682 + i) k
def gr_m (τ : gx_M) : Nat → Nat → Int32 := fun i f => τ 729 (13 * i + f)
def gr_M (K : Int) (n : Nat) (σ τ : gx_M) : Prop := gp_W σ n ∧ gp_V τ n ∧ gr_T K n (gr_c σ) (gr_m τ) (σ 24 2) (τ 722 10) ∧ (0 ≤ (σ 24 2).toInt ∧ (σ 24 2).toInt ≤ K) ∧ (0 ≤ (τ 722 10).toInt ∧ (τ 722 10).toInt ≤ K) ∧ 0 ≤ K ∧ K < 1000000000
/-- what a change of jobs leaves as it is -/
def gr_Ac (σ σ' : gx_M) : Prop := (∀ o k, ¬ (682 ≤ o ∧ o < 722) → ¬ (o = 24 ∧ k = 2) → σ' o k = σ o k) ∧ ∀ o, 682 ≤ o → o < 722 → σ' o 0 = σ o 0
def gr_Am (τ τ' : gx_M) : Prop := (∀ o k, ¬ (o = 729) → ¬ (o = 722 ∧ k = 10) → ¬ (o = 732) → τ' o k = τ o k) ∧ (τ 722 10).toInt ≤ (τ' 722 10).toInt
theorem gr_Ac.rf {σ : gx_M} : gr_Ac σ σ := ⟨fun _ _ _ _ => rfl, fun _ _ _ => rfl⟩
theorem gr_Am.rf {τ : gx_M} : gr_Am τ τ := ⟨fun _ _ _ _ _ => rfl, Int.le_refl _⟩
theorem gr_Ac.tr {σ σ1 σ2 : gx_M} (h : gr_Ac σ σ1) (g : gr_Ac σ1 σ2) : gr_Ac σ σ2 := ⟨fun o k h1 h2 => (g.1 o k h1 h2).trans (h.1 o k h1 h2), fun o h1 h2 => (g.2 o h1 h2).trans (h.2 o h1 h2)⟩
theorem gr_Am.tr {τ τ1 τ2 : gx_M} (h : gr_Am τ τ1) (g : gr_Am τ1 τ2) : gr_Am τ τ2 := ⟨fun o k h1 h2 h3 => (g.1 o k h1 h2 h3).trans (h.1 o k h1 h2 h3), Int.le_trans h.2 g.2⟩
theorem gr_Ac.up {σ : gx_M} {o k : Nat} {v : Int32} (ho : 682 ≤ o ∧ o < 722) (hk : k ≠ 0) : gr_Ac σ (gx_up σ o k v) := ⟨fun a b h1 h2 => gp_un (by omega), fun a h1 h2 => gp_un (by omega)⟩
theorem gr_Ac.us {σ : gx_M} {v : Int32} : gr_Ac σ (gx_up σ 24 2 v) := ⟨fun a b h1 h2 => gp_un h2, fun a h1 h2 => gp_un (by omega)⟩
theorem gr_Am.up {τ : gx_M} {k : Nat} {v : Int32} : gr_Am τ (gx_up τ 729 k v) := ⟨fun a b h1 h2 h3 => gp_un (by omega), by rw [gp_un (by omega)]; exact Int.le_refl _⟩
theorem gr_Am.us {τ : gx_M} {v : Int32} (hv : (τ 722 10).toInt ≤ v.toInt) : gr_Am τ (gx_up τ 722 10 v) := ⟨fun a b h1 h2 h3 => gp_un h2, by rw [gp_us]; exact hv⟩
theorem gr_Am.uz {τ : gx_M} {k : Nat} {v : Int32} : gr_Am τ (gx_up τ 732 k v) := ⟨fun a b h1 h2 h3 => gp_un (by omega), by rw [gp_un (by omega)]; exact Int.le_refl _⟩
theorem gr_J.st {K : Int} {n j : Nat} {x y x' y' : Nat → Int32} {s : Int32} (h : gr_J K n j x y) (hx : ∀ k, k < 10 → x' k = x k) (hy : ∀ f, f < 9 → y' f = y f) (h10 : x' 10 = s) (h9 : y' 9 = s) (hr : 0 ≤ s.toInt ∧ s.toInt ≤ 7) (ht : gr_tm s → x' 11 = y' 10) (h2 : s = 2 → x' 12 = y' 11 ∧ 0 ≤ x' 12 ∧ x' 12 ≤ 5) : gr_J K n j x' y' := by
  obtain ⟨⟨a0, a1, a2, a3, a4, a5, a6, a7, a8, a9, a10⟩, b1, b2, b3, b4, b5, b6, b7, b8, b9⟩ := h
  unfold gr_J
  rw [h10, h9, hx 0 (by decide), hx 1 (by decide), hx 2 (by decide), hx 3 (by decide), hx 4 (by decide), hx 5 (by decide), hx 6 (by decide), hx 7 (by decide), hx 8 (by decide), hx 9 (by decide), hy 0 (by decide), hy 1 (by decide), hy 2 (by decide), hy 3 (by decide), hy 4 (by decide), hy 5 (by decide), hy 6 (by decide), hy 7 (by decide), hy 8 (by decide)]
  exact ⟨⟨a0, a1, a2, a3, a4, a5, a6, a7, a8, a9, rfl⟩, ht, h2, b3, b4, b5, b6, b7, hr, b9⟩
/-- comes into an order, in both -/
abbrev gr_ec (σ : gx_M) (j : Nat) (s : Int32) : gx_M := gx_up (gx_up (gx_up σ (682 + j) 10 s) (682 + j) 13 (σ 24 2)) 24 2 (σ 24 2 + 1)
abbrev gr_em (τ : gx_M) (j : Nat) (s : Int32) : gx_M := gx_up (gx_up (gx_up τ 729 (13 * j + 9) s) 729 (13 * j + 12) (τ 722 10)) 722 10 (τ 722 10 + 1)
theorem gr_ec_n {σ : gx_M} {j a b : Nat} {s : Int32} (h : ¬ (a = 682 + j ∧ (b = 10 ∨ b = 13)) ∧ ¬ (a = 24 ∧ b = 2)) : gr_ec σ j s a b = σ a b := by
  unfold gr_ec
  rw [gp_un (by omega), gp_un (by omega), gp_un (by omega)]
theorem gr_ec_10 {σ : gx_M} {j : Nat} {s : Int32} : gr_ec σ j s (682 + j) 10 = s := by
  unfold gr_ec
  rw [gp_un (by omega), gp_un (by omega), gp_us]
theorem gr_ec_13 {σ : gx_M} {j : Nat} {s : Int32} : gr_ec σ j s (682 + j) 13 = σ 24 2 := by
  unfold gr_ec
  rw [gp_un (by omega), gp_us]
theorem gr_ec_s {σ : gx_M} {j : Nat} {s : Int32} : gr_ec σ j s 24 2 = σ 24 2 + 1 := gp_us
theorem gr_em_n {τ : gx_M} {j a b : Nat} {s : Int32} (h : ¬ (a = 729 ∧ (b = 13 * j + 9 ∨ b = 13 * j + 12)) ∧ ¬ (a = 722 ∧ b = 10)) : gr_em τ j s a b = τ a b := by
  unfold gr_em
  rw [gp_un (by omega), gp_un (by omega), gp_un (by omega)]
theorem gr_em_9 {τ : gx_M} {j : Nat} {s : Int32} : gr_em τ j s 729 (13 * j + 9) = s := by
  unfold gr_em
  rw [gp_un (by omega), gp_un (by omega), gp_us]
theorem gr_em_12 {τ : gx_M} {j : Nat} {s : Int32} : gr_em τ j s 729 (13 * j + 12) = τ 722 10 := by
  unfold gr_em
  rw [gp_un (by omega), gp_us]
theorem gr_em_s {τ : gx_M} {j : Nat} {s : Int32} : gr_em τ j s 722 10 = τ 722 10 + 1 := gp_us
theorem gr_enter_c {N j : Nat} {σ : gx_M} {s : Int32} (hj : j < 40) : fn_Ro_enter N 24 (682 + j) s σ = some (gr_ec σ j s) := by
  unfold fn_Ro_enter
  simp only [gp_lt']
  rw [if_pos (by decide), if_pos (by omega)]
  rw [gp_un (show ¬ (24 = 682 + j ∧ 2 = 10) by omega), gp_un (show ¬ (24 = 682 + j ∧ 2 = 13) by omega), gp_un (show ¬ (24 = 682 + j ∧ 2 = 10) by omega)]
theorem gr_enter_m {N j : Nat} {τ : gx_M} (hj : j < 40) : fn_Mo_ready N (nI j) τ = some (gr_em τ j 1) := by
  unfold fn_Mo_ready
  simp only [gp_lt']
  rw [gp_se9 hj, gp_bv, gp_se12 hj, gp_bv]
  rw [gp_un (show ¬ (722 = 729 ∧ 10 = 13 * j + 9) by omega), gp_un (show ¬ (722 = 729 ∧ 10 = 13 * j + 12) by omega), gp_un (show ¬ (722 = 729 ∧ 10 = 13 * j + 9) by omega)]
theorem gr_enter {K : Int} {n j : Nat} {σ τ : gx_M} {s : Int32} (h : gr_M K n σ τ) (hj : j < n) (hs : s = 1 ∨ s = 5) (hK : K < 999999999) : gr_M (K + 1) n (gr_ec σ j s) (gr_em τ j s) ∧ gr_Ac σ (gr_ec σ j s) ∧ gr_Am τ (gr_em τ j s) := by
  obtain ⟨hW, hV, hT, hst, hod, hK0, hK1⟩ := h
  have h40 := hW.2
  have hsr : 0 ≤ s.toInt ∧ s.toInt ≤ 7 := by rcases hs with rfl | rfl <;> decide
  have htm : ¬ gr_tm s := by rcases hs with rfl | rfl <;> (unfold gr_tm; decide)
  have hs2 : ¬ s = 2 := by rcases hs with rfl | rfl <;> decide
  have e1 : (gr_ec σ j s) 24 2 = σ 24 2 + 1 := gp_us
  have e2 : (gr_em τ j s) 722 10 = τ 722 10 + 1 := gp_us
  have t1 : (σ 24 2 + 1).toInt = (σ 24 2).toInt + 1 := gp_add (b := 1) (by show -2147483648 ≤ (σ 24 2).toInt + 1; omega) (by show (σ 24 2).toInt + 1 < 2147483648; omega)
  have t2 : (τ 722 10 + 1).toInt = (τ 722 10).toInt + 1 := gp_add (b := 1) (by show -2147483648 ≤ (τ 722 10).toInt + 1; omega) (by show (τ 722 10).toInt + 1 < 2147483648; omega)
  refine ⟨⟨⟨?_, hW.2⟩, ⟨?_, hV.2⟩, ?_, ?_, ?_, by omega, by omega⟩, ?_, ?_⟩
  · rw [gr_ec_n (by omega)]; exact hW.1
  · rw [gr_em_n (by omega)]; exact hV.1
  · rw [e1, e2]
    refine gr_T.come (hT.mono (K' := K + 1) (by omega) (Int.le_refl _) (Int.le_refl _)) j (fun i hi hij k hk => ?_) (fun i hi hij f hf => ?_) (fun _ => ?_) ?_ ?_ hst.1 hod.1 t1 t2
    · show gr_ec σ j s (682 + i) k = σ (682 + i) k
      rw [gr_ec_n (by omega)]
    · show gr_em τ j s 729 (13 * i + f) = τ 729 (13 * i + f)
      rw [gr_em_n (by omega)]
    · refine ((hT.1 j hj).mono (K' := K + 1) (by omega) (Nat.le_refl _)).st (s := s) (fun k hk => ?_) (fun f hf => ?_) ?_ ?_ hsr (fun h => absurd h htm) (fun h => absurd h hs2)
      · show gr_ec σ j s (682 + j) k = σ (682 + j) k
        rw [gr_ec_n (by omega)]
      · show gr_em τ j s 729 (13 * j + f) = τ 729 (13 * j + f)
        rw [gr_em_n (by omega)]
      · show gr_ec σ j s (682 + j) 10 = s
        exact gr_ec_10
      · show gr_em τ j s 729 (13 * j + 9) = s
        exact gr_em_9
    · show gr_ec σ j s (682 + j) 13 = σ 24 2
      exact gr_ec_13
    · show gr_em τ j s 729 (13 * j + 12) = τ 722 10
      exact gr_em_12
  · rw [e1, t1]; omega
  · rw [e2, t2]; omega
  · exact ((gr_Ac.up (by omega) (by omega)).tr (gr_Ac.up (by omega) (by omega))).tr gr_Ac.us
  · refine (gr_Am.up.tr gr_Am.up).tr (gr_Am.us ?_)
    rw [gp_un (by omega), gp_un (by omega), t2]
    omega

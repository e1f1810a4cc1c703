/-! copies -/
def gj_k (σ : gx_M) (o q k : Nat) : gx_M := fun a b => if a = o ∧ 1 ≤ b ∧ b ≤ k then σ q b else σ a b
theorem gj_k0 {σ : gx_M} {o q : Nat} : gx_up σ o 1 (σ q 1) = gj_k σ o q 1 := by
  funext a b
  unfold gx_up gj_k
  by_cases h : a = o ∧ b = 1
  · rw [if_pos h, if_pos (by omega), h.2]
  · rw [if_neg h, if_neg (by omega)]
theorem gj_ks {σ : gx_M} {o q k : Nat} (h : o ≠ q) (k' : Nat) (hk : k' = k + 1) : gx_up (gj_k σ o q k) o k' (gj_k σ o q k q k') = gj_k σ o q k' := by
  subst hk
  have e : gj_k σ o q k q (k + 1) = σ q (k + 1) := by
    unfold gj_k
    rw [if_neg (by omega)]
  rw [e]
  funext a b
  unfold gx_up gj_k
  by_cases h1 : a = o ∧ b = k + 1
  · rw [if_pos h1, if_pos (by omega), h1.2]
  · rw [if_neg h1]
    by_cases h2 : a = o ∧ 1 ≤ b ∧ b ≤ k
    · rw [if_pos h2, if_pos (by omega)]
    · rw [if_neg h2, if_neg (by omega)]
theorem gj_job {N o q : Nat} {σ : gx_M} (ho : 42 ≤ o ∧ o < 722) (hq : 42 ≤ q ∧ q < 722) (h : o ≠ q) (hs : σ q 9 = 0 ∨ σ q 9 = 1) : fn_Jb_copyFrom N o q σ = some (gj_k σ o q 13) := by
  unfold fn_Jb_copyFrom
  rw [if_pos ho, if_pos hq, gp_lt', gj_k0, gp_lt', gj_ks h 2 rfl, gp_lt', gj_ks h 3 rfl, gp_lt', gj_ks h 4 rfl, gp_lt', gj_ks h 5 rfl, gp_lt', gj_ks h 6 rfl, gp_lt', gj_ks h 7 rfl, gp_lt', gj_ks h 8 rfl, if_pos (by unfold gj_k; rw [if_neg (by omega)]; exact hs), gp_lt', gj_ks h 9 rfl, gp_lt', gj_ks h 10 rfl, gp_lt', gj_ks h 11 rfl, gp_lt', gj_ks h 12 rfl, gp_lt', gj_ks h 13 rfl]
/-- the first k jobs of roster r become those of roster s -/
def gj_L (σ : gx_M) (r s k : Nat) : gx_M := fun a b => if 42 + 40 * (r - 8) ≤ a ∧ a < 42 + 40 * (r - 8) + k ∧ 1 ≤ b ∧ b ≤ 13 then σ (42 + 40 * (s - 8) + (a - (42 + 40 * (r - 8)))) b else σ a b
theorem gj_Ls {σ : gx_M} {r s k : Nat} (hr : 8 ≤ r ∧ r < 25) (hs : 8 ≤ s ∧ s < 25) (h : r ≠ s) (hk : k < 40) : gj_k (gj_L σ r s k) (42 + 40 * (r - 8) + k) (42 + 40 * (s - 8) + k) 13 = gj_L σ r s (k + 1) := by
  funext a b
  unfold gj_k
  by_cases h1 : a = 42 + 40 * (r - 8) + k ∧ 1 ≤ b ∧ b ≤ 13
  · rw [if_pos h1]
    unfold gj_L
    rw [if_neg (by omega), if_pos (by omega)]
    rw [show 42 + 40 * (s - 8) + (a - (42 + 40 * (r - 8))) = 42 + 40 * (s - 8) + k by omega]
  · rw [if_neg h1]
    unfold gj_L
    by_cases h2 : 42 + 40 * (r - 8) ≤ a ∧ a < 42 + 40 * (r - 8) + k ∧ 1 ≤ b ∧ b ≤ 13
    · rw [if_pos h2, if_pos (by omega)]
    · rw [if_neg h2, if_neg (by omega)]
theorem gj_copy_L {N r s n : Nat} {σ : gx_M} (hr : 8 ≤ r ∧ r < 25) (hs : 8 ≤ s ∧ s < 25) (h : r ≠ s) (hn : n ≤ 40) (hsz : σ r 1 = nI n) (hb : ∀ i, i < n → σ (42 + 40 * (s - 8) + i) 9 = 0 ∨ σ (42 + 40 * (s - 8) + i) 9 = 1) : ∀ (k i f : Nat), i + k = n → k < f → fn_Ro_copyFrom_L18 N r s f (nI i) (gj_L σ r s i) = some (gj_L σ r s n) := by
  have hsz' : ∀ i, gj_L σ r s i r 1 = nI n := fun i => by
    unfold gj_L
    rw [if_neg (by omega)]
    exact hsz
  intro k
  induction k with
  | zero =>
    intro i f hi hf
    obtain ⟨f, rfl⟩ : ∃ g, f = g + 1 := ⟨f - 1, by omega⟩
    obtain rfl : i = n := by omega
    rw [fn_Ro_copyFrom_L18, hsz', if_pos (by rw [gp_ge (by omega) (by omega)]; omega)]
  | succ k ih =>
    intro i f hi hf
    obtain ⟨f, rfl⟩ : ∃ g, f = g + 1 := ⟨f - 1, by omega⟩
    have hin := gp_in (i := i) (n := 40) (M := 40) (by omega) (by decide) (by decide)
    rw [fn_Ro_copyFrom_L18, hsz', if_neg (by rw [gp_ge (by omega) (by omega)]; omega), if_pos hin, if_pos hin, gp_elr hr (by omega), gp_elr hs (by omega), gj_job (by omega) (by omega) (by omega) (by unfold gj_L; rw [if_neg (by omega)]; exact hb i (by omega)), gp_bv, gj_Ls hr hs h (by omega), gp_s]
    exact ih (i + 1) f (by omega) (by omega)
/-- roster r becomes roster s -/
def gj_R (σ : gx_M) (r s n : Nat) : gx_M := gj_L (gx_up (gx_up σ r 1 (σ s 1)) r 2 (σ s 2)) r s n
theorem gj_copy {N r s n : Nat} {σ : gx_M} (hr : 8 ≤ r ∧ r < 25) (hs : 8 ≤ s ∧ s < 25) (h : r ≠ s) (hn : n ≤ 40) (hN : 40 < N) (hsz : σ s 1 = nI n) (hb : ∀ i, i < n → σ (42 + 40 * (s - 8) + i) 9 = 0 ∨ σ (42 + 40 * (s - 8) + i) 9 = 1) : fn_Ro_copyFrom N r s σ = some (gj_R σ r s n) := by
  unfold fn_Ro_copyFrom
  rw [if_pos hr, if_pos hs, gp_lt', gp_lt', gp_un (show ¬ (s = r ∧ 2 = 1) by omega)]
  have e0 : gj_L (gx_up (gx_up σ r 1 (σ s 1)) r 2 (σ s 2)) r s 0 = gx_up (gx_up σ r 1 (σ s 1)) r 2 (σ s 2) := by
    funext a b
    unfold gj_L
    rw [if_neg (by omega)]
  have := gj_copy_L (N := N) (σ := gx_up (gx_up σ r 1 (σ s 1)) r 2 (σ s 2)) hr hs h hn (by rw [gp_un (by omega), gp_us]; exact hsz) (fun i hi => by rw [gp_un (by omega), gp_un (by omega)]; exact hb i hi) n 0 N (by omega) (by omega)
  rw [e0] at this
  exact this
theorem gj_R_n {σ : gx_M} {r s n a b : Nat} (h : ¬ (42 + 40 * (r - 8) ≤ a ∧ a < 42 + 40 * (r - 8) + n ∧ 1 ≤ b ∧ b ≤ 13)) (h2 : ¬ (a = r ∧ (b = 1 ∨ b = 2))) : gj_R σ r s n a b = σ a b := by
  unfold gj_R gj_L
  rw [if_neg h, gp_un (by omega), gp_un (by omega)]
theorem gj_R_1 {σ : gx_M} {r s n : Nat} (hr : 8 ≤ r ∧ r < 25) : gj_R σ r s n r 1 = σ s 1 := by
  unfold gj_R gj_L
  rw [if_neg (by omega), gp_un (by omega), gp_us]
theorem gj_R_2 {σ : gx_M} {r s n : Nat} (hr : 8 ≤ r ∧ r < 25) : gj_R σ r s n r 2 = σ s 2 := by
  unfold gj_R gj_L
  rw [if_neg (by omega), gp_us]
theorem gj_R_j {σ : gx_M} {r s n i k : Nat} (hr : 8 ≤ r ∧ r < 25) (hs : 8 ≤ s ∧ s < 25) (hi : i < n) (hn : n ≤ 40) (hk : 1 ≤ k ∧ k ≤ 13) : gj_R σ r s n (42 + 40 * (r - 8) + i) k = σ (42 + 40 * (s - 8) + i) k := by
  unfold gj_R gj_L
  rw [if_pos (by omega), show 42 + 40 * (s - 8) + (42 + 40 * (r - 8) + i - (42 + 40 * (r - 8))) = 42 + 40 * (s - 8) + i by omega, gp_un (by omega), gp_un (by omega)]
/-- the reference's copy p -/
def gj_S (τ : gx_M) (p k : Nat) : gx_M := fun a b => if a = 730 ∧ 520 * p ≤ b ∧ b < 520 * p + k then τ 729 (b - 520 * p) else τ a b
theorem gp_k520 {v : Nat} (hv : v ≤ 1000000) : ((520 : Int32) ≤ nI v) ↔ 520 ≤ v := gp_ge (i := v) (n := 520) hv (by decide)
theorem gp_ix5 {p k : Nat} : nI p * 520 + nI k = nI (520 * p + k) := by
  rw [show (520 : Int32) = nI 520 from rfl, pk_mul, nI_add, Nat.mul_comm]
theorem gj_store_L {N p : Nat} {τ : gx_M} (hp : p < 16) : ∀ (k i f : Nat), i + k = 520 → k < f → fn_Mo_store_L2 N (nI p) f (nI i) (gj_S τ p i) = some (gx_up (gj_S τ p 520) 731 p (τ 722 9)) := by
  intro k
  induction k with
  | zero =>
    intro i f hi hf
    obtain ⟨f, rfl⟩ : ∃ g, f = g + 1 := ⟨f - 1, by omega⟩
    obtain rfl : i = 520 := by omega
    have e : gj_S τ p 520 722 9 = τ 722 9 := by
      unfold gj_S
      rw [if_neg (by omega)]
    rw [fn_Mo_store_L2, if_pos ((gp_k520 (by omega)).mpr (Nat.le_refl _)), if_pos (gp_in (n := 16) (by omega) (by decide) (by decide)), gp_lt', gp_cl (by omega), e]
  | succ k ih =>
    intro i f hi hf
    obtain ⟨f, rfl⟩ : ∃ g, f = g + 1 := ⟨f - 1, by omega⟩
    have e : gj_S τ p i 729 i = τ 729 i := by
      unfold gj_S
      rw [if_neg (by omega)]
    rw [fn_Mo_store_L2, if_neg (fun hh => by have := (gp_k520 (by omega)).mp hh; omega), if_pos (gp_in (n := 520) (by omega) (by decide) (by decide)), gp_ix5, if_pos (gp_in (n := 8320) (by omega) (by decide) (by decide)), gp_lt', gp_cl (by omega), gp_cl (by omega), gp_s, e]
    have e2 : gx_up (gj_S τ p i) 730 (520 * p + i) (τ 729 i) = gj_S τ p (i + 1) := by
      funext a b
      unfold gx_up gj_S
      by_cases h1 : a = 730 ∧ b = 520 * p + i
      · rw [if_pos h1, if_pos (by omega), show b - 520 * p = i by omega]
      · rw [if_neg h1]
        by_cases h2 : a = 730 ∧ 520 * p ≤ b ∧ b < 520 * p + i
        · rw [if_pos h2, if_pos (by omega)]
        · rw [if_neg h2, if_neg (by omega)]
    rw [e2]
    exact ih (i + 1) f (by omega) (by omega)
def gj_T (τ : gx_M) (p : Nat) : gx_M := gx_up (gj_S τ p 520) 731 p (τ 722 9)
theorem gj_store {N p : Nat} {τ : gx_M} (hp : p < 16) (hN : 520 < N) : fn_Mo_store N (nI p) τ = some (gj_T τ p) := by
  unfold fn_Mo_store
  have e0 : gj_S τ p 0 = τ := by
    funext a b
    unfold gj_S
    rw [if_neg (by omega)]
  have := gj_store_L (N := N) (τ := τ) hp 520 0 N (by omega) hN
  rw [e0] at this
  exact this
theorem gj_T_n {τ : gx_M} {p a b : Nat} (h : ¬ (a = 730 ∧ 520 * p ≤ b ∧ b < 520 * p + 520)) (h2 : ¬ (a = 731 ∧ b = p)) : gj_T τ p a b = τ a b := by
  unfold gj_T gj_S
  rw [gp_un h2, if_neg h]
theorem gj_T_1 {τ : gx_M} {p : Nat} : gj_T τ p 731 p = τ 722 9 := gp_us
theorem gj_T_j {τ : gx_M} {p b : Nat} (hb : b < 520) : gj_T τ p 730 (520 * p + b) = τ 729 b := by
  unfold gj_T gj_S
  rw [gp_un (by omega), if_pos (by omega), show 520 * p + b - 520 * p = b by omega]

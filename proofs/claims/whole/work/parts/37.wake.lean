abbrev gp_wP (τ : gx_M) (u : Int32) : Nat → Bool := fun i => decide ((τ 729 (13 * i + 9) = 0 ∨ τ 729 (13 * i + 9) = 3 ∨ (τ 729 (13 * i + 9) = 2 ∧ u = 0)) ∧ τ 729 (13 * i + 10) ≤ τ 722 1 ∧ τ 732 i = 0)
abbrev gp_wL (τ : gx_M) : Nat → Nat → Bool := fun i j => decide (τ 729 (13 * i + 10) < τ 729 (13 * j + 10))
def gp_u1 (τ : gx_M) (i : Nat) (b : Option Nat) : Option Nat := match b with
  | none => some i
  | some x => if gp_wL τ i x = true then some i else some x
theorem gp_wsub {N i : Nat} {b : Option Nat} {τ : gx_M} {ρ : Int32 → gx_M → Option (Int32 × gx_M)} (hi : i < 40) (hb : ∀ x, b = some x → x < 40) : gx_bd (fn_Mo_of N (nI i) 10 τ) (fun r_21 σ_19 => if (σ_19 722 1) < r_21 then (ρ (gp_dz b) σ_19) else (if 0 ≤ nI i ∧ nI i < 40 then (if (σ_19 732 (nI i).toNatClampNeg) = 0 then (if gp_dz b < 0 then (ρ (nI i) σ_19) else (gx_bd (fn_Mo_of N (nI i) 10 σ_19) (fun r_31 σ_29 => gx_bd (fn_Mo_of N (gp_dz b) 10 σ_29) (fun r_34 σ_32 => if r_34 ≤ r_31 then (ρ (gp_dz b) σ_32) else (ρ (nI i) σ_32))))) else (ρ (gp_dz b) σ_19)) else none)) = ρ (gp_dz (if τ 729 (13 * i + 10) ≤ τ 722 1 ∧ τ 732 i = 0 then gp_u1 τ i b else b)) τ := by
  rw [gp_of10 hi, gp_bd, gp_cl (by omega)]
  by_cases hd : τ 722 1 < τ 729 (13 * i + 10)
  · rw [if_pos hd, if_neg (fun h => gp_nle.mpr hd h.1)]
  · rw [if_neg hd, if_pos (gp_in (n := 40) (by omega) (by decide) (by decide))]
    by_cases hz : τ 732 i = 0
    · rw [if_pos hz, if_pos (show τ 729 (13 * i + 10) ≤ τ 722 1 ∧ τ 732 i = 0 from ⟨gp_nlt.mp hd, hz⟩)]
      cases b with
      | none =>
        rw [if_pos (by decide)]
        rfl
      | some x =>
        have hx := hb x rfl
        rw [if_neg (show ¬ gp_dz (some x) < 0 from gp_nI0 (by omega)), gp_of10 hi, gp_bd]
        show gx_bd (fn_Mo_of N (nI x) 10 τ) _ = _
        rw [gp_of10 hx, gp_bd]
        by_cases hl : τ 729 (13 * x + 10) ≤ τ 729 (13 * i + 10)
        · rw [if_pos hl]
          unfold gp_u1
          dsimp only
          rw [if_neg (by simp only [decide_eq_true_eq]; rw [gp_nlt]; exact hl)]
        · rw [if_neg hl]
          unfold gp_u1
          dsimp only
          rw [if_pos (by simp only [decide_eq_true_eq]; exact gp_nle.mp hl)]
          rfl
    · rw [if_neg hz, if_neg (fun h => hz h.2)]
/-- what the reference does with the one found -/
def gp_wt (N : Nat) (u3 u2 : Int32) (k : Int32 → Int32 → gx_M → Option (Int32 × gx_M)) (b : Option Nat) (τ : gx_M) : Option (Int32 × gx_M) := match b with
  | none => some (u2, τ)
  | some x => if τ 729 (13 * x + 9) = 2 then gx_bv (fn_Mo_failing N (nI x) (gx_up τ 732 x 1)) (fun τ1 => k (u3 + 1) (u2 + 1) τ1) else gx_bv (fn_Mo_ready N (nI x) (gx_up τ 732 x 1)) (fun τ1 => k (u3 + 1) (u2 + 1) τ1)
theorem gp_wscan {N n : Nat} {τ : gx_M} {u3 u2 u1 : Int32} {k25 : Int32 → Int32 → gx_M → Option (Int32 × gx_M)} (hV : gp_V τ n) : ∀ (k i f : Nat) (b : Option Nat), i + k = n → k < f → (∀ x, b = some x → x < 40) → fn_Mo_wake_L37 N u3 u2 u1 k25 f (nI i) (gp_dz b) τ = gp_wt N u3 u2 k25 (gp_fm (gp_wP τ u1) (gp_wL τ) k i b) τ := by
  obtain ⟨h1, h2⟩ := id hV
  intro k
  induction k with
  | zero =>
    intro i f b hi hf hb
    obtain ⟨f, rfl⟩ : ∃ g, f = g + 1 := ⟨f - 1, by omega⟩
    rw [fn_Mo_wake_L37, h1, if_pos (by rw [gp_ge (by omega) (by omega)]; omega)]
    cases b with
    | none =>
      rw [if_neg (by decide)]
      rfl
    | some x =>
      have hx := hb x rfl
      have hin := gp_in (i := x) (n := 40) (M := 40) (by omega) (by decide) (by decide)
      show (if 0 ≤ nI x then _ else _) = _
      rw [if_pos hin.1]
      show (if 0 ≤ nI x ∧ nI x < 40 then _ else none) = _
      rw [if_pos hin, gp_lt']
      show gx_bd (fn_Mo_of N (nI x) 9 (gx_up τ 732 (nI x).toNatClampNeg 1)) _ = _
      rw [gp_cl (by omega), gp_of9 hx, gp_bd, gp_un (show ¬ (729 = 732 ∧ 13 * x + 9 = x) by omega)]
      rfl
  | succ k ih =>
    intro i f b hi hf hb
    obtain ⟨f, rfl⟩ : ∃ g, f = g + 1 := ⟨f - 1, by omega⟩
    have ih' := ih (i + 1) f _ (by omega) (by omega) (gp_stb (P := gp_wP τ u1) (lt := gp_wL τ) (i := i) (by omega) hb)
    have sub := @gp_wsub N i b τ (fun v σ => fn_Mo_wake_L37 N u3 u2 u1 k25 f (nI (i + 1)) v σ) (by omega) hb
    rw [fn_Mo_wake_L37, h1, if_neg (by rw [gp_ge (by omega) (by omega)]; omega), gp_of9 (by omega), gp_bd, gp_s, gp_fm_e, ← ih', sub]
    have yes : (τ 729 (13 * i + 9) = 0 ∨ τ 729 (13 * i + 9) = 3 ∨ (τ 729 (13 * i + 9) = 2 ∧ u1 = 0)) → fn_Mo_wake_L37 N u3 u2 u1 k25 f (nI (i + 1)) (gp_dz (if τ 729 (13 * i + 10) ≤ τ 722 1 ∧ τ 732 i = 0 then gp_u1 τ i b else b)) τ = fn_Mo_wake_L37 N u3 u2 u1 k25 f (nI (i + 1)) (gp_dz (gp_st (gp_wP τ u1) (gp_wL τ) i b)) τ := by
      intro hs
      unfold gp_st gp_u1
      by_cases hd : τ 729 (13 * i + 10) ≤ τ 722 1 ∧ τ 732 i = 0
      · rw [if_pos hd, if_pos (show gp_wP τ u1 i = true by simp only [decide_eq_true_eq]; exact ⟨hs, hd⟩)]
        cases b <;> rfl
      · rw [if_neg hd, if_neg (show ¬ gp_wP τ u1 i = true by simp only [decide_eq_true_eq]; exact fun h => hd h.2)]
    have no : ¬ (τ 729 (13 * i + 9) = 0 ∨ τ 729 (13 * i + 9) = 3 ∨ (τ 729 (13 * i + 9) = 2 ∧ u1 = 0)) → gp_st (gp_wP τ u1) (gp_wL τ) i b = b := by
      intro hs
      unfold gp_st
      rw [if_neg (show ¬ gp_wP τ u1 i = true by simp only [decide_eq_true_eq]; exact fun h => hs h.1)]
    by_cases c0 : τ 729 (13 * i + 9) = 0
    · rw [if_pos c0]
      exact yes (Or.inl c0)
    · by_cases c3 : τ 729 (13 * i + 9) = 3
      · rw [if_neg c0, if_pos c3]
        exact yes (Or.inr (Or.inl c3))
      · by_cases c2 : τ 729 (13 * i + 9) = 2
        · by_cases cu : u1 = 0
          · rw [if_neg c0, if_neg c3, if_pos c2, if_pos cu]
            exact yes (Or.inr (Or.inr ⟨c2, cu⟩))
          · rw [if_neg c0, if_neg c3, if_pos c2, if_neg cu, no (by rintro (h | h | h); exact c0 h; exact c3 h; exact cu h.2)]
        · rw [if_neg c0, if_neg c3, if_neg c2, no (by rintro (h | h | h); exact c0 h; exact c3 h; exact c2 h.1)]
theorem gp_cn_a {P : Nat → Bool} : ∀ {k i a : Nat}, gp_cn P k i a = a + gp_cn P k i 0
  | 0, _, _ => rfl
  | k + 1, i, a => by
    rw [gp_cn_e, gp_cn_e, gp_cn_a (a := if P i = true then a + 1 else a), gp_cn_a (a := if P i = true then 0 + 1 else 0)]
    by_cases h : P i = true
    · rw [if_pos h, if_pos h]; omega
    · rw [if_neg h, if_neg h]; omega
theorem gp_cn_sub {P Q : Nat → Bool} {x : Nat} (hP : P x = true) (hQ : Q x = false) : ∀ {k i : Nat}, i ≤ x → x < i + k → (∀ j, i ≤ j → j < i + k → j ≠ x → Q j = P j) → gp_cn P k i 0 = gp_cn Q k i 0 + 1
  | 0, i, h1, h2, _ => by omega
  | k + 1, i, h1, h2, h => by
    rw [gp_cn_e, gp_cn_e]
    by_cases hx : i = x
    · subst hx
      rw [if_pos hP, hQ, if_neg (by decide), gp_cn_a (a := 0 + 1)]
      have : gp_cn P k (i + 1) 0 = gp_cn Q k (i + 1) 0 := gp_cn_c (fun j h3 h4 => (h j (by omega) (by omega) (by omega)).symm)
      omega
    · have ih := gp_cn_sub hP hQ (k := k) (i := i + 1) (by omega) (by omega) (fun j h3 h4 h5 => h j (by omega) (by omega) h5)
      rw [h i (by omega) (by omega) hx, gp_cn_a (P := P), gp_cn_a (P := Q)]
      by_cases hp : P i = true
      · rw [if_pos hp]; omega
      · rw [if_neg hp]; omega
theorem gp_cn_0 {P : Nat → Bool} {k i : Nat} (h : gp_cn P k i 0 = 0) : ∀ j, i ≤ j → j < i + k → P j = false := by
  intro j h1 h2
  cases hp : P j with
  | false => rfl
  | true =>
    have := gp_cn_sub (Q := fun q => if q = j then false else P q) hp (by simp) (k := k) (i := i) h1 h2 (fun q _ _ hq => by simp [hq])
    omega

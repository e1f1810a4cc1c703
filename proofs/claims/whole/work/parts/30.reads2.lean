abbrev gp_id (b : Option Nat) : Option Nat := b.map (fun j => 682 + j)
theorem gp_nle {a b : Int32} : ¬ a ≤ b ↔ b < a := by
  rw [gp_le, gp_lt]
  omega
theorem gp_nlt {a b : Int32} : ¬ a < b ↔ b ≤ a := by
  rw [gp_le, gp_lt]
  omega
theorem gp_stb {P : Nat → Bool} {lt : Nat → Nat → Bool} {i n : Nat} {b : Option Nat} (hi : i < n) (hb : ∀ x, b = some x → x < n) : ∀ x, gp_st P lt i b = some x → x < n := fun x h => by
  rcases gp_st_in h with ⟨rfl, -⟩ | h
  · exact hi
  · exact hb x h
/-- the dead, and who died first -/
abbrev gp_dP (σ : gx_M) : Nat → Bool := fun j => decide (σ (682 + j) 10 = 5)
abbrev gp_dL (σ : gx_M) : Nat → Nat → Bool := fun i j => decide (σ (682 + i) 13 < σ (682 + j) 13)
theorem gp_oldest_L {N n : Nat} {σ : gx_M} (hW : gp_W σ n) : ∀ (k i f : Nat) (b : Option Nat), i + k = n → k < f → (∀ x, b = some x → x < 40) → fn_Ro_oldestDead_L4 N 24 f (nI i) (gp_id b) σ = some (gp_id (gp_fm (gp_dP σ) (gp_dL σ) k i b), σ) := by
  obtain ⟨h1, h2⟩ := id hW
  intro k
  induction k with
  | zero =>
    intro i f b hi hf hb
    obtain ⟨f, rfl⟩ : ∃ g, f = g + 1 := ⟨f - 1, by omega⟩
    rw [fn_Ro_oldestDead_L4, h1, if_pos (by rw [gp_ge (by omega) (by omega)]; omega)]
    cases b with
    | none => rfl
    | some x =>
      have := hb x rfl
      show (if 42 ≤ 682 + x ∧ 682 + x < 722 then _ else none) = _
      rw [if_pos (by omega)]
      rfl
  | succ k ih =>
    intro i f b hi hf hb
    obtain ⟨f, rfl⟩ : ∃ g, f = g + 1 := ⟨f - 1, by omega⟩
    have hin := gp_in (i := i) (n := 40) (M := 40) (by omega) (by decide) (by decide)
    have ih' := ih (i + 1) f _ (by omega) (by omega) (gp_stb (P := gp_dP σ) (lt := gp_dL σ) (i := i) (by omega) hb)
    rw [fn_Ro_oldestDead_L4, h1, if_neg (by rw [gp_ge (by omega) (by omega)]; omega), if_pos hin, gp_el (by omega), gp_s, gp_fm_e, ← ih']
    unfold gp_st
    by_cases hp : σ (682 + i) 10 = 5
    · rw [if_pos hp, if_pos (show gp_dP σ i = true by simp [hp])]
      cases b with
      | none =>
        show (if 0 ≤ nI i ∧ nI i < 40 then _ else none) = _
        rw [if_pos hin]
        rfl
      | some x =>
        have := hb x rfl
        show (if 42 ≤ 682 + x ∧ 682 + x < 722 then _ else none) = _
        rw [if_pos (by omega), if_pos hin]
        by_cases hl : σ (682 + x) 13 ≤ σ (682 + i) 13
        · rw [if_pos hl]
          dsimp only
          rw [if_neg (by simp only [decide_eq_true_eq]; rw [gp_nlt]; exact hl)]
          rfl
        · rw [if_neg hl, if_pos hin]
          dsimp only
          rw [if_pos (by simp only [decide_eq_true_eq]; exact gp_nle.mp hl)]
          rfl
    · rw [if_neg hp, if_neg (show ¬ gp_dP σ i = true by simp [hp])]
theorem gp_oldest {N n : Nat} {σ : gx_M} (hW : gp_W σ n) (hN : 40 < N) : fn_Ro_oldestDead N 24 σ = some (gp_id (gp_fm (gp_dP σ) (gp_dL σ) n 0 none), σ) := by
  unfold fn_Ro_oldestDead
  rw [if_pos (by decide)]
  exact gp_oldest_L hW n 0 N none (by omega) (by have := hW.2; omega) (fun x h => by cases h)
/-- those that are due at t -/
abbrev gp_tP (σ : gx_M) (t : Int32) : Nat → Bool := fun j => decide ((σ (682 + j) 10 = 0 ∨ σ (682 + j) 10 = 3 ∨ σ (682 + j) 10 = 2) ∧ σ (682 + j) 11 ≤ t)
abbrev gp_tL (σ : gx_M) : Nat → Nat → Bool := fun i j => decide (σ (682 + i) 11 < σ (682 + j) 11)
theorem gp_nextDue_L {N n : Nat} {σ : gx_M} {t : Int32} (hW : gp_W σ n) : ∀ (k i f : Nat) (b : Option Nat), i + k = n → k < f → (∀ x, b = some x → x < 40) → fn_Ro_nextDue_L4 N 24 t f (nI i) (gp_id b) σ = some (gp_id (gp_fm (gp_tP σ t) (gp_tL σ) k i b), σ) := by
  obtain ⟨h1, h2⟩ := id hW
  intro k
  induction k with
  | zero =>
    intro i f b hi hf hb
    obtain ⟨f, rfl⟩ : ∃ g, f = g + 1 := ⟨f - 1, by omega⟩
    rw [fn_Ro_nextDue_L4, h1, if_pos (by rw [gp_ge (by omega) (by omega)]; omega)]
    cases b with
    | none => rfl
    | some x =>
      have := hb x rfl
      show (if 42 ≤ 682 + x ∧ 682 + x < 722 then _ else none) = _
      rw [if_pos (by omega)]
      rfl
  | succ k ih =>
    intro i f b hi hf hb
    obtain ⟨f, rfl⟩ : ∃ g, f = g + 1 := ⟨f - 1, by omega⟩
    have hin := gp_in (i := i) (n := 40) (M := 40) (by omega) (by decide) (by decide)
    have ih' := ih (i + 1) f _ (by omega) (by omega) (gp_stb (P := gp_tP σ t) (lt := gp_tL σ) (i := i) (by omega) hb)
    rw [fn_Ro_nextDue_L4, h1, if_neg (by rw [gp_ge (by omega) (by omega)]; omega), if_pos hin, gp_el (by omega), gp_s, gp_isTimed (by omega), gp_bd, gp_fm_e, ← ih']
    unfold gp_st
    by_cases hp : σ (682 + i) 10 = 0 ∨ σ (682 + i) 10 = 3 ∨ σ (682 + i) 10 = 2
    · rw [if_pos hp, if_neg (by decide)]
      by_cases hd : t < σ (682 + i) 11
      · rw [if_pos hd, if_neg (show ¬ gp_tP σ t i = true by simp only [decide_eq_true_eq]; exact fun h => gp_nle.mpr hd h.2)]
      · rw [if_neg hd, if_pos (show gp_tP σ t i = true by simp only [decide_eq_true_eq]; exact ⟨hp, gp_nlt.mp hd⟩)]
        cases b with
        | none => rfl
        | some x =>
          have := hb x rfl
          show (if 42 ≤ 682 + x ∧ 682 + x < 722 then _ else none) = _
          rw [if_pos (by omega)]
          by_cases hl : σ (682 + x) 11 ≤ σ (682 + i) 11
          · rw [if_pos hl]
            dsimp only
            rw [if_neg (by simp only [decide_eq_true_eq]; rw [gp_nlt]; exact hl)]
            rfl
          · rw [if_neg hl]
            dsimp only
            rw [if_pos (by simp only [decide_eq_true_eq]; exact gp_nle.mp hl)]
            rfl
    · rw [if_neg hp, if_pos rfl, if_neg (show ¬ gp_tP σ t i = true by simp only [decide_eq_true_eq]; exact fun h => hp h.1)]
theorem gp_nextDue {N n : Nat} {σ : gx_M} {t : Int32} (hW : gp_W σ n) (hN : 40 < N) : fn_Ro_nextDue N 24 t σ = some (gp_id (gp_fm (gp_tP σ t) (gp_tL σ) n 0 none), σ) := by
  unfold fn_Ro_nextDue
  rw [if_pos (by decide)]
  exact gp_nextDue_L hW n 0 N none (by omega) (by have := hW.2; omega) (fun x h => by cases h)
/-- who stands before whom -/
abbrev gp_qL (σ : gx_M) : Nat → Nat → Bool := fun i j => decide (σ (682 + j) 2 < σ (682 + i) 2 ∨ (σ (682 + i) 2 = σ (682 + j) 2 ∧ σ (682 + i) 13 < σ (682 + j) 13))
theorem gp_before {N i j : Nat} {σ : gx_M} (hi : i < 40) (hj : j < 40) : fn_Jb_standsBefore N (682 + i) (682 + j) σ = some (if gp_qL σ i j = true then 1 else 0, σ) := by
  unfold fn_Jb_standsBefore
  rw [if_pos (by omega), if_pos (by omega)]
  by_cases h1 : σ (682 + j) 2 < σ (682 + i) 2
  · simp [h1]
  · rw [if_neg h1]
    by_cases h2 : σ (682 + i) 2 = σ (682 + j) 2
    · rw [if_pos h2]
      by_cases h3 : σ (682 + j) 13 ≤ σ (682 + i) 13
      · rw [if_pos h3, if_neg (by simp only [decide_eq_true_eq]; rintro (h | h); exact h1 h; exact gp_nle.mpr h.2 h3)]
      · rw [if_neg h3, if_pos (by simp only [decide_eq_true_eq]; exact Or.inr ⟨h2, gp_nle.mp h3⟩)]
    · rw [if_neg h2, if_neg (by simp only [decide_eq_true_eq]; rintro (h | h); exact h1 h; exact h2 h.1)]
/-- the READY jobs of queue q, behind a (if any) -/
abbrev gp_qP (σ : gx_M) (q : Int32) (a : Option Nat) : Nat → Bool := fun j => decide (σ (682 + j) 10 = 1 ∧ σ (682 + j) 1 = q ∧ ∀ x, a = some x → gp_qL σ x j = true)
theorem gp_qPn {σ : gx_M} {q : Int32} {j : Nat} : gp_qP σ q none j = decide (σ (682 + j) 10 = 1 ∧ σ (682 + j) 1 = q) := by
  simp [gp_qP]
theorem gp_qPs {σ : gx_M} {q : Int32} {j x : Nat} : gp_qP σ q (some x) j = decide (σ (682 + j) 10 = 1 ∧ σ (682 + j) 1 = q ∧ gp_qL σ x j = true) := by
  simp [gp_qP]

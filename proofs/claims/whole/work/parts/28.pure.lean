/-! THE PURE PART: no machine from here on -/
theorem gp_lt {a b : Int32} : a < b ↔ a.toInt < b.toInt := Int32.lt_iff_toInt_lt
theorem gp_le {a b : Int32} : a ≤ b ↔ a.toInt ≤ b.toInt := Int32.le_iff_toInt_le
theorem gp_eq {a b : Int32} : a = b ↔ a.toInt = b.toInt := Int32.toInt_inj.symm
theorem gp_add {a b : Int32} (h1 : -2147483648 ≤ a.toInt + b.toInt) (h2 : a.toInt + b.toInt < 2147483648) : (a + b).toInt = a.toInt + b.toInt := by
  rw [Int32.toInt_add]
  exact Int.bmod_eq_of_le (by omega) (by omega)
theorem gp_sub {a b : Int32} (h1 : -2147483648 ≤ a.toInt - b.toInt) (h2 : a.toInt - b.toInt < 2147483648) : (a - b).toInt = a.toInt - b.toInt := by
  rw [Int32.toInt_sub]
  exact Int.bmod_eq_of_le (by omega) (by omega)
theorem gp_nI {n : Nat} (h : n < 2147483648) : (nI n).toInt = (n : Int) := nI_toInt h
/-- a number in a range is a place -/
theorem gp_of {x : Int32} {n : Nat} (h0 : 0 ≤ x.toInt) (h1 : x.toInt < n) : ∃ j : Nat, j < n ∧ x = nI j := by
  have hb : x.toInt < 2147483648 := Int32.toInt_lt x
  refine ⟨x.toInt.toNat, by omega, ?_⟩
  rw [gp_eq, gp_nI (by omega)]
  omega
theorem gp_cl {n : Nat} (h : n < 2147483648) : (nI n).toNatClampNeg = n := nI_clamp h
theorem gp_s {n : Nat} : nI n + 1 = nI (n + 1) := nI_1 n
theorem gp_el {i : Nat} (h : i < 40) : gx_el (24 + 17) (nI i).toNatClampNeg = 682 + i := by
  rw [gp_cl (by omega)]
  unfold gx_el
  rw [if_neg (by omega), if_neg (by omega)]
theorem gp_elr {r i : Nat} (hr : 8 ≤ r ∧ r < 25) (h : i < 40) : gx_el (r + 17) (nI i).toNatClampNeg = 42 + 40 * (r - 8) + i := by
  rw [gp_cl (by omega)]
  unfold gx_el
  rw [if_neg (by omega), if_neg (by omega)]
  omega
theorem gp_elq {q : Nat} (h : q < 4) : gx_el 1 (nI q).toNatClampNeg = 2 + q := by
  rw [gp_cl (by omega)]
  rfl
theorem gp_elp {q : Nat} (h : q < 16) : gx_el 7 (nI q).toNatClampNeg = 8 + q := by
  rw [gp_cl (by omega)]
  rfl
theorem gp_in {i n : Nat} {M : Int32} (h : i < n) (hM : M.toInt = n) (hn : n < 2147483648) : 0 ≤ nI i ∧ nI i < M := by
  rw [gp_le, gp_lt, hM, gp_nI (by omega)]
  exact ⟨by simp, by omega⟩
theorem gp_ge {i n : Nat} (hi : i ≤ 1000000) (hn : n ≤ 1000000) : nI n ≤ nI i ↔ n ≤ i := by
  rw [gp_le, gp_nI (by omega), gp_nI (by omega)]
  omega
/-- the first of k places from i on with P -/
def gp_ff (P : Nat → Bool) : Nat → Nat → Option Nat
  | 0, _ => none
  | k + 1, i => if P i = true then some i else gp_ff P k (i + 1)
def gp_st (P : Nat → Bool) (lt : Nat → Nat → Bool) (i : Nat) (b : Option Nat) : Option Nat := if P i = true then (match b with
  | none => some i
  | some x => if lt i x = true then some i else some x) else b
/-- the least by lt of those with P, the earliest of equal ones -/
def gp_fm (P : Nat → Bool) (lt : Nat → Nat → Bool) : Nat → Nat → Option Nat → Option Nat
  | 0, _, b => b
  | k + 1, i, b => gp_fm P lt k (i + 1) (gp_st P lt i b)
/-- how many with P -/
def gp_cn (P : Nat → Bool) : Nat → Nat → Nat → Nat
  | 0, _, a => a
  | k + 1, i, a => gp_cn P k (i + 1) (if P i = true then a + 1 else a)
theorem gp_ff_c {P Q : Nat → Bool} : ∀ {k i : Nat}, (∀ j, i ≤ j → j < i + k → P j = Q j) → gp_ff P k i = gp_ff Q k i
  | 0, _, _ => rfl
  | k + 1, i, h => by
    unfold gp_ff
    rw [h i (by omega) (by omega), gp_ff_c (fun j h1 h2 => h j (by omega) (by omega))]
theorem gp_ff_s {P : Nat → Bool} {x : Nat} : ∀ {k i : Nat}, gp_ff P k i = some x → i ≤ x ∧ x < i + k ∧ P x = true
  | 0, _, h => by cases h
  | k + 1, i, h => by
    unfold gp_ff at h
    by_cases hp : P i = true
    · rw [if_pos hp] at h
      cases h
      exact ⟨by omega, by omega, hp⟩
    · rw [if_neg hp] at h
      have := gp_ff_s h
      exact ⟨by omega, by omega, this.2.2⟩
theorem gp_ff_n {P : Nat → Bool} : ∀ {k i : Nat}, gp_ff P k i = none → ∀ j, i ≤ j → j < i + k → P j = false
  | 0, _, _, j, h1, h2 => by omega
  | k + 1, i, h, j, h1, h2 => by
    unfold gp_ff at h
    by_cases hp : P i = true
    · rw [if_pos hp] at h
      cases h
    · rw [if_neg hp] at h
      by_cases hj : j = i
      · subst hj
        simpa using hp
      · exact gp_ff_n h j (by omega) (by omega)
theorem gp_cn_c {P Q : Nat → Bool} : ∀ {k i a : Nat}, (∀ j, i ≤ j → j < i + k → P j = Q j) → gp_cn P k i a = gp_cn Q k i a
  | 0, _, _, _ => rfl
  | k + 1, i, a, h => by
    unfold gp_cn
    rw [h i (by omega) (by omega), gp_cn_c (fun j h1 h2 => h j (by omega) (by omega))]
theorem gp_cn_le {P : Nat → Bool} : ∀ {k i a : Nat}, a ≤ gp_cn P k i a ∧ gp_cn P k i a ≤ a + k
  | 0, _, _ => ⟨Nat.le_refl _, Nat.le_refl _⟩
  | k + 1, i, a => by
    unfold gp_cn
    have := @gp_cn_le P k (i + 1) (if P i = true then a + 1 else a)
    by_cases hp : P i = true
    · rw [if_pos hp] at this ⊢
      omega
    · rw [if_neg hp] at this ⊢
      omega
theorem gp_st_in {P : Nat → Bool} {lt : Nat → Nat → Bool} {i x : Nat} {b : Option Nat} (h : gp_st P lt i b = some x) : (x = i ∧ P i = true) ∨ b = some x := by
  unfold gp_st at h
  by_cases hp : P i = true
  · rw [if_pos hp] at h
    cases b with
    | none => cases h; exact Or.inl ⟨rfl, hp⟩
    | some y =>
      dsimp only at h
      split at h
      · cases h; exact Or.inl ⟨rfl, hp⟩
      · cases h; exact Or.inr rfl
  · rw [if_neg hp] at h
    exact Or.inr h
theorem gp_fm_s {P : Nat → Bool} {lt : Nat → Nat → Bool} {x : Nat} : ∀ {k i : Nat} {b : Option Nat}, gp_fm P lt k i b = some x → b = some x ∨ (i ≤ x ∧ x < i + k ∧ P x = true)
  | 0, _, _, h => Or.inl h
  | k + 1, i, b, h => by
    unfold gp_fm at h
    rcases gp_fm_s h with h1 | ⟨h1, h2, h3⟩
    · rcases gp_st_in h1 with ⟨rfl, h2⟩ | h2
      · exact Or.inr ⟨by omega, by omega, h2⟩
      · exact Or.inl h2
    · exact Or.inr ⟨by omega, by omega, h3⟩
theorem gp_fm_c {P Q : Nat → Bool} {lt lt' : Nat → Nat → Bool} : ∀ {k i : Nat} {b : Option Nat}, (∀ j, i ≤ j → j < i + k → P j = Q j) → (∀ a c, (b = some a ∨ (i ≤ a ∧ a < i + k ∧ P a = true)) → (b = some c ∨ (i ≤ c ∧ c < i + k ∧ P c = true)) → lt a c = lt' a c) → gp_fm P lt k i b = gp_fm Q lt' k i b
  | 0, _, _, _, _ => rfl
  | k + 1, i, b, h, hl => by
    unfold gp_fm
    have e : gp_st P lt i b = gp_st Q lt' i b := by
      unfold gp_st
      rw [← h i (by omega) (by omega)]
      by_cases hp : P i = true
      · rw [if_pos hp, if_pos hp]
        cases b with
        | none => rfl
        | some y =>
          dsimp only
          rw [hl i y (Or.inr ⟨by omega, by omega, hp⟩) (Or.inl rfl)]
      · rw [if_neg hp, if_neg hp]
    rw [← e]
    refine gp_fm_c (fun j h1 h2 => h j (by omega) (by omega)) (fun a c ha hc => hl a c ?_ ?_)
    · rcases ha with h1 | ⟨h1, h2, h3⟩
      · rcases gp_st_in h1 with ⟨rfl, h2⟩ | h2
        · exact Or.inr ⟨by omega, by omega, h2⟩
        · exact Or.inl h2
      · exact Or.inr ⟨by omega, by omega, h3⟩
    · rcases hc with h1 | ⟨h1, h2, h3⟩
      · rcases gp_st_in h1 with ⟨rfl, h2⟩ | h2
        · exact Or.inr ⟨by omega, by omega, h2⟩
        · exact Or.inl h2
      · exact Or.inr ⟨by omega, by omega, h3⟩
theorem gp_fm_n {P : Nat → Bool} {lt : Nat → Nat → Bool} : ∀ {k i : Nat} {b : Option Nat}, gp_fm P lt k i b = none → b = none ∧ ∀ j, i ≤ j → j < i + k → P j = false
  | 0, _, _, h => ⟨h, fun j h1 h2 => by omega⟩
  | k + 1, i, b, h => by
    unfold gp_fm at h
    obtain ⟨h1, h2⟩ := gp_fm_n h
    unfold gp_st at h1
    by_cases hp : P i = true
    · rw [if_pos hp] at h1
      cases b with
      | none => cases h1
      | some y =>
        dsimp only at h1
        split at h1 <;> cases h1
    · rw [if_neg hp] at h1
      refine ⟨h1, fun j h3 h4 => ?_⟩
      by_cases hj : j = i
      · subst hj
        simpa using hp
      · exact h2 j (by omega) (by omega)
theorem gp_cn_e {P : Nat → Bool} {k i a : Nat} : gp_cn P (k + 1) i a = gp_cn P k (i + 1) (if P i = true then a + 1 else a) := rfl
theorem gp_ff_e {P : Nat → Bool} {k i : Nat} : gp_ff P (k + 1) i = if P i = true then some i else gp_ff P k (i + 1) := rfl
theorem gp_fm_e {P : Nat → Bool} {lt : Nat → Nat → Bool} {k i : Nat} {b : Option Nat} : gp_fm P lt (k + 1) i b = gp_fm P lt k (i + 1) (gp_st P lt i b) := rfl

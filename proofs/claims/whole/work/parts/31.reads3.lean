theorem gp_nextInLine_L {N n : Nat} {σ : gx_M} {q : Int32} {a : Option Nat} (hW : gp_W σ n) (ha : ∀ x, a = some x → x < 40) : ∀ (k i f : Nat) (b : Option Nat), i + k = n → k < f → (∀ x, b = some x → x < 40) → fn_Ro_nextInLine_L5 N 24 q (gp_id a) f (nI i) (gp_id b) σ = some (gp_id (gp_fm (gp_qP σ q a) (gp_qL σ) k i b), σ) := by
  obtain ⟨h1, h2⟩ := id hW
  intro k
  induction k with
  | zero =>
    intro i f b hi hf hb
    obtain ⟨f, rfl⟩ : ∃ g, f = g + 1 := ⟨f - 1, by omega⟩
    rw [fn_Ro_nextInLine_L5, h1, if_pos (by rw [gp_ge (by omega) (by omega)]; omega)]
    cases b with
    | none => rfl
    | some x =>
      have := hb x rfl
      show (if 42 ≤ 682 + x ∧ 682 + x < 722 then _ else none) = _
      rw [if_pos (by omega)]
      rfl
  | succ k ih =>
    intro i f b hi hf hb
    obtain ⟨f, rfl⟩ : ∃ g, f = g + 1 := ⟨f - 1, by omega⟩
    have hin := gp_in (i := i) (n := 40) (M := 40) (by omega) (by decide) (by decide)
    have ih' := ih (i + 1) f _ (by omega) (by omega) (gp_stb (P := gp_qP σ q a) (lt := gp_qL σ) (i := i) (by omega) hb)
    rw [fn_Ro_nextInLine_L5, h1, if_neg (by rw [gp_ge (by omega) (by omega)]; omega), if_pos hin, gp_el (by omega), gp_s, gp_fm_e, ← ih']
    by_cases hp : σ (682 + i) 10 = 1
    · by_cases hq : σ (682 + i) 1 = q
      · rw [if_pos hp, if_pos hq]
        cases a with
        | none =>
          have hP : gp_qP σ q none i = true := by rw [gp_qPn]; simp [hp, hq]
          unfold gp_st
          rw [if_pos hP]
          cases b with
          | none => rfl
          | some x =>
            have := hb x rfl
            show (if 42 ≤ 682 + x ∧ 682 + x < 722 then _ else none) = _
            rw [if_pos (by omega), gp_before (by omega) (by omega), gp_bd]
            by_cases hl : gp_qL σ i x = true
            · rw [if_pos hl, if_neg (by decide)]
              dsimp only
              rw [if_pos hl]
              rfl
            · rw [if_neg hl, if_pos rfl]
              dsimp only
              rw [if_neg hl]
              rfl
        | some y =>
          have hy := ha y rfl
          show (if 42 ≤ 682 + y ∧ 682 + y < 722 then _ else none) = _
          rw [if_pos (by omega), gp_before (by omega) (by omega), gp_bd]
          unfold gp_st
          by_cases hl0 : gp_qL σ y i = true
          · have hP : gp_qP σ q (some y) i = true := by rw [gp_qPs]; simp only [decide_eq_true_eq]; exact ⟨hp, hq, by simpa using hl0⟩
            rw [if_pos hl0, if_neg (by decide), if_pos hP]
            cases b with
            | none => rfl
            | some x =>
              have := hb x rfl
              show (if 42 ≤ 682 + x ∧ 682 + x < 722 then _ else none) = _
              rw [if_pos (by omega), gp_before (by omega) (by omega), gp_bd]
              by_cases hl : gp_qL σ i x = true
              · rw [if_pos hl, if_neg (by decide)]
                dsimp only
                rw [if_pos hl]
                rfl
              · rw [if_neg hl, if_pos rfl]
                dsimp only
                rw [if_neg hl]
                rfl
          · have hP : ¬ gp_qP σ q (some y) i = true := by rw [gp_qPs]; simp only [decide_eq_true_eq]; exact fun h => hl0 (by simpa using h.2.2)
            rw [if_neg hl0, if_pos rfl, if_neg hP]
      · have hP : ¬ gp_qP σ q a i = true := by simp only [decide_eq_true_eq]; exact fun h => hq h.2.1
        unfold gp_st
        rw [if_pos hp, if_neg hq, if_neg hP]
    · have hP : ¬ gp_qP σ q a i = true := by simp only [decide_eq_true_eq]; exact fun h => hp h.1
      unfold gp_st
      rw [if_neg hp, if_neg hP]
theorem gp_nextInLine {N n : Nat} {σ : gx_M} {q : Int32} {a : Option Nat} (hW : gp_W σ n) (hN : 40 < N) (ha : ∀ x, a = some x → x < 40) : fn_Ro_nextInLine N 24 q (gp_id a) σ = some (gp_id (gp_fm (gp_qP σ q a) (gp_qL σ) n 0 none), σ) := by
  unfold fn_Ro_nextInLine
  rw [if_pos (by decide)]
  exact gp_nextInLine_L hW ha n 0 N none (by omega) (by have := hW.2; omega) (fun x h => by cases h)
/-- the k-th from b on -/
def gp_go (σ : gx_M) (q : Int32) (n : Nat) : Nat → Option Nat → Option Nat
  | 0, b => b
  | k + 1, b => match b with
    | none => none
    | some x => gp_go σ q n k (gp_fm (gp_qP σ q (some x)) (gp_qL σ) n 0 none)
theorem gp_go_n {σ : gx_M} {q : Int32} {n : Nat} : ∀ k, gp_go σ q n k none = none
  | 0 => rfl
  | _ + 1 => rfl
theorem gp_fmb {P : Nat → Bool} {lt : Nat → Nat → Bool} {n x : Nat} (hn : n ≤ 40) (h : gp_fm P lt n 0 none = some x) : x < 40 := by
  rcases gp_fm_s h with h1 | ⟨-, h1, -⟩
  · cases h1
  · omega
/-! the reference's reads -/
abbrev gp_V (τ : gx_M) (n : Nat) : Prop := τ 722 9 = nI n ∧ n ≤ 40
theorem gp_misLive {N j : Nat} {τ : gx_M} (hj : j < 40) : fn_Mo_isLive N (nI j) τ = some (if τ 729 (13 * j + 9) < 4 ∨ τ 729 (13 * j + 9) = 6 then 1 else 0, τ) := by
  unfold fn_Mo_isLive
  rw [gp_of9 hj, gp_bd]
  by_cases h1 : τ 729 (13 * j + 9) < 4
  · simp [h1]
  · by_cases h2 : τ 729 (13 * j + 9) = 6
    · simp [h2]
    · simp [h1, h2]
theorem gp_mno {N n : Nat} {τ : gx_M} (hV : gp_V τ n) (p : Int32) : fn_Mo_no N p τ = some (if 0 ≤ p.toInt ∧ p.toInt < n then 0 else 1, τ) := by
  obtain ⟨h1, h2⟩ := hV
  unfold fn_Mo_no
  by_cases hp : p.toInt < 0
  · rw [if_pos (gp_lt.mpr (by simpa using hp)), if_neg (by omega)]
  · rw [if_neg (fun h => hp (by simpa using gp_lt.mp h)), h1]
    by_cases hn : p.toInt < n
    · rw [if_pos (by rw [gp_lt, gp_nI (by omega)]; exact hn), if_pos (by omega)]
    · rw [if_neg (by rw [gp_lt, gp_nI (by omega)]; exact hn), if_neg (by omega)]
theorem gp_mkey_L {N n : Nat} {τ : gx_M} {w : Int32} (hV : gp_V τ n) (hw : ¬ w < 0) : ∀ (k i f : Nat), i + k = n → k < f → fn_Mo_keyTaken_L2 N w f (nI i) τ = some (if (gp_ff (fun j => decide ((τ 729 (13 * j + 9) < 4 ∨ τ 729 (13 * j + 9) = 6) ∧ τ 729 (13 * j + 5) = w)) k i).isSome = true then 1 else 0, τ) := by
  obtain ⟨h1, h2⟩ := id hV
  intro k
  induction k with
  | zero =>
    intro i f hi hf
    obtain ⟨f, rfl⟩ : ∃ g, f = g + 1 := ⟨f - 1, by omega⟩
    rw [fn_Mo_keyTaken_L2, h1, if_pos (by rw [gp_ge (by omega) (by omega)]; omega)]
    rfl
  | succ k ih =>
    intro i f hi hf
    obtain ⟨f, rfl⟩ : ∃ g, f = g + 1 := ⟨f - 1, by omega⟩
    rw [fn_Mo_keyTaken_L2, h1, if_neg (by rw [gp_ge (by omega) (by omega)]; omega), if_neg hw, gp_misLive (by omega), gp_bd, gp_s, gp_of5 (by omega), gp_bd, ih (i + 1) f (by omega) (by omega), gp_ff_e]
    by_cases ha : τ 729 (13 * i + 9) < 4 ∨ τ 729 (13 * i + 9) = 6
    · by_cases hb : τ 729 (13 * i + 5) = w
      · rw [if_pos ha, if_neg (by decide), if_pos hb, if_pos (show decide _ = true by simp only [decide_eq_true_eq]; exact ⟨ha, hb⟩)]
        rfl
      · rw [if_pos ha, if_neg (by decide), if_neg hb, if_neg (show ¬ decide _ = true by simp only [decide_eq_true_eq]; exact fun h => hb h.2)]
    · rw [if_neg ha, if_pos rfl, if_neg (show ¬ decide _ = true by simp only [decide_eq_true_eq]; exact fun h => ha h.1)]
theorem gp_mkey {N n : Nat} {τ : gx_M} {w : Int32} (hV : gp_V τ n) (hN : 40 < N) : fn_Mo_keyTaken N w τ = some (if ¬ w < 0 ∧ (gp_ff (fun j => decide ((τ 729 (13 * j + 9) < 4 ∨ τ 729 (13 * j + 9) = 6) ∧ τ 729 (13 * j + 5) = w)) n 0).isSome = true then 1 else 0, τ) := by
  unfold fn_Mo_keyTaken
  by_cases hw : w < 0
  · obtain ⟨f, rfl⟩ : ∃ g, N = g + 1 := ⟨N - 1, by omega⟩
    rw [fn_Mo_keyTaken_L2]
    by_cases h0 : τ 722 9 ≤ 0
    · rw [if_pos h0, if_neg (fun h => h.1 hw)]
    · rw [if_neg h0, if_pos hw, if_neg (fun h => h.1 hw)]
  · rw [show fn_Mo_keyTaken_L2 N w N 0 τ = _ from gp_mkey_L (w := w) hV hw n 0 N (by omega) (by have := hV.2; omega)]
    simp only [hw, not_false_eq_true, true_and]
theorem gp_mhold_L {N n : Nat} {τ : gx_M} {w : Int32} (hV : gp_V τ n) : ∀ (k i f : Nat), i + k = n → k < f → fn_Mo_holding_L14 N w f (nI i) τ = some ((match gp_ff (fun j => decide (τ 729 (13 * j + 9) = 2 ∧ τ 729 (13 * j + 11) = w)) k i with | some j => nI j | none => -4), τ) := by
  obtain ⟨h1, h2⟩ := id hV
  intro k
  induction k with
  | zero =>
    intro i f hi hf
    obtain ⟨f, rfl⟩ : ∃ g, f = g + 1 := ⟨f - 1, by omega⟩
    rw [fn_Mo_holding_L14, h1, if_pos (by rw [gp_ge (by omega) (by omega)]; omega)]
    rfl
  | succ k ih =>
    intro i f hi hf
    obtain ⟨f, rfl⟩ : ∃ g, f = g + 1 := ⟨f - 1, by omega⟩
    rw [fn_Mo_holding_L14, h1, if_neg (by rw [gp_ge (by omega) (by omega)]; omega), gp_of9 (by omega), gp_bd, gp_s, gp_of11 (by omega), gp_bd, ih (i + 1) f (by omega) (by omega), gp_ff_e]
    by_cases ha : τ 729 (13 * i + 9) = 2
    · by_cases hb : τ 729 (13 * i + 11) = w
      · rw [if_pos ha, if_pos hb, if_pos (show decide _ = true by simp only [decide_eq_true_eq]; exact ⟨ha, hb⟩)]
      · rw [if_pos ha, if_neg hb, if_neg (show ¬ decide _ = true by simp only [decide_eq_true_eq]; exact fun h => hb h.2)]
    · rw [if_neg ha, if_neg (show ¬ decide _ = true by simp only [decide_eq_true_eq]; exact fun h => ha h.1)]
theorem gp_mout {N : Nat} {τ : gx_M} {p a b : Int32} : fn_Mo_out N p a b τ = some (if a ≤ p ∧ p ≤ b then 0 else 1, τ) := by
  unfold fn_Mo_out
  by_cases h1 : p < a
  · rw [if_pos h1, if_neg (fun h => gp_nle.mpr h1 h.1)]
  · rw [if_neg h1]
    by_cases h2 : p ≤ b
    · rw [if_pos h2, if_pos ⟨gp_nlt.mp h1, h2⟩]
    · rw [if_neg h2, if_neg (fun h => h2 h.2)]
theorem gp_within {N : Nat} {σ : gx_M} {p a b : Int32} : fn_Bo_within N p a b σ = some (if a ≤ p ∧ p ≤ b then 1 else 0, σ) := by
  unfold fn_Bo_within
  by_cases h1 : p < a
  · rw [if_pos h1, if_neg (fun h => gp_nle.mpr h1 h.1)]
  · rw [if_neg h1]
    by_cases h2 : b < p
    · rw [if_pos h2, if_neg (fun h => gp_nle.mpr h2 h.2)]
    · rw [if_neg h2, if_pos ⟨gp_nlt.mp h1, gp_nlt.mp h2⟩]
theorem gp_isQueue {N : Nat} {σ : gx_M} {p : Int32} : fn_Bo_isQueue N p σ = some (if 0 ≤ p ∧ p ≤ 3 then 1 else 0, σ) := by
  unfold fn_Bo_isQueue
  rw [gp_within, gp_bd]
  by_cases h : 0 ≤ p ∧ p ≤ 3
  · rw [if_pos h, if_pos (by decide)]
  · rw [if_neg h, if_pos (by decide)]
theorem gp_isWorker {N : Nat} {σ : gx_M} {p : Int32} : fn_Bo_isWorker N p σ = some (if 0 ≤ p ∧ p ≤ 5 then 1 else 0, σ) := by
  unfold fn_Bo_isWorker
  rw [gp_within, gp_bd]
  by_cases h : 0 ≤ p ∧ p ≤ 5
  · rw [if_pos h, if_pos (by decide)]
  · rw [if_neg h, if_pos (by decide)]
theorem gp_mhold {N n : Nat} {τ : gx_M} {w : Int32} (hV : gp_V τ n) (hN : 40 < N) : fn_Mo_holding N w τ = some (if 0 ≤ w ∧ w ≤ 5 then (match gp_ff (fun j => decide (τ 729 (13 * j + 9) = 2 ∧ τ 729 (13 * j + 11) = w)) n 0 with | some j => nI j | none => -4) else -1, τ) := by
  unfold fn_Mo_holding
  rw [gp_mout, gp_bd]
  by_cases h : 0 ≤ w ∧ w ≤ 5
  · rw [if_pos h, if_pos rfl, if_pos h]
    exact gp_mhold_L hV n 0 N (by omega) (by have := hV.2; omega)
  · rw [if_neg h, if_neg (by decide), if_neg h]
theorem gp_mcount_L {N n : Nat} {τ : gx_M} {w : Int32} (hV : gp_V τ n) : ∀ (k i f a : Nat), i + k = n → k < f → fn_Mo_count_L72 N w f (nI i) (nI a) τ = some (nI (gp_cn (fun j => decide (τ 729 (13 * j + 9) = w)) k i a), τ) := by
  obtain ⟨h1, h2⟩ := id hV
  intro k
  induction k with
  | zero =>
    intro i f a hi hf
    obtain ⟨f, rfl⟩ : ∃ g, f = g + 1 := ⟨f - 1, by omega⟩
    rw [fn_Mo_count_L72, h1, if_pos (by rw [gp_ge (by omega) (by omega)]; omega)]
    rfl
  | succ k ih =>
    intro i f a hi hf
    obtain ⟨f, rfl⟩ : ∃ g, f = g + 1 := ⟨f - 1, by omega⟩
    rw [fn_Mo_count_L72, h1, if_neg (by rw [gp_ge (by omega) (by omega)]; omega), gp_of9 (by omega), gp_bd, gp_s, gp_s, ih (i + 1) f a (by omega) (by omega), ih (i + 1) f (a + 1) (by omega) (by omega), gp_cn_e]
    by_cases ha : τ 729 (13 * i + 9) = w
    · rw [if_pos ha, if_pos (by simp [ha])]
    · rw [if_neg ha, if_neg (by simp [ha])]

abbrev gq_P (σ : gx_M) (q : Int32) : Nat → Bool := fun j => decide (σ (682 + j) 10 = 1 ∧ σ (682 + j) 1 = q)
theorem gq_P0 {σ : gx_M} {q : Int32} : gp_qP σ q none = gq_P σ q := by
  funext j
  exact gp_qPn
theorem gq_Ps {σ : gx_M} {q : Int32} {x : Nat} : gp_qP σ q (some x) = fun j => gq_P σ q j && gp_qL σ x j := by
  funext j
  rw [gp_qPs]
  by_cases h1 : σ (682 + j) 10 = 1
  · by_cases h2 : σ (682 + j) 1 = q
    · simp [h1, h2]
    · simp [h2]
  · simp [h1]
theorem gq_next0 {N n : Nat} {σ : gx_M} {q : Int32} (hW : gp_W σ n) (hN : 40 < N) : fn_Ro_nextInLine N 24 q none σ = some (gp_id (gq_X (gq_P σ q) (gp_qL σ) n 0), σ) := by
  have := gp_nextInLine (q := q) (a := none) hW hN (fun x h => by cases h)
  rw [gq_P0] at this
  exact this
theorem gq_nexts {N n x : Nat} {σ : gx_M} {q : Int32} (hW : gp_W σ n) (hN : 40 < N) (hx : x < 40) : fn_Ro_nextInLine N 24 q (some (682 + x)) σ = some (gp_id (gp_fm (fun j => gq_P σ q j && gp_qL σ x j) (gp_qL σ) n 0 none), σ) := by
  have := gp_nextInLine (q := q) (a := some x) hW hN (fun y h => by cases h; exact hx)
  rw [gq_Ps] at this
  exact this
theorem gq_Xb {P : Nat → Bool} {lt : Nat → Nat → Bool} {n : Nat} (hn : n ≤ 40) : ∀ k x, gq_X P lt n k = some x → x < 40
  | 0, x, h => gp_fmb hn h
  | k + 1, x, h => by
    unfold gq_X at h
    split at h
    · cases h
    · exact gp_fmb hn h
theorem gq_inLine_L {N n pl : Nat} {σ : gx_M} {q : Int32} (hW : gp_W σ n) (hN : 40 < N) (ho : gq_or (gq_P σ q) (gp_qL σ) n) (hpl : pl < 2147483648) : ∀ (w v f : Nat), v + w = 41 → v ≤ pl → w < f → (∀ m, m < v → ∃ y, gq_X (gq_P σ q) (gp_qL σ) n m = some y) → fn_Ro_inLine_L10 N 24 q (nI pl) f (nI v) (gp_id (gq_X (gq_P σ q) (gp_qL σ) n v)) σ = some (gp_id (gq_X (gq_P σ q) (gp_qL σ) n pl), σ) := by
  have h40 := hW.2
  intro w
  induction w with
  | zero =>
    intro v f hv hpv hf hall
    exfalso
    obtain ⟨y, hy⟩ := hall 40 (by omega)
    obtain ⟨h1, h2, h3⟩ := (gq_spec ho 40).1 y hy
    have := (@gp_cn_le (fun i => gq_P σ q i && gp_qL σ i y) n 0 0).2
    have hlt : gq_B (gq_P σ q) (gp_qL σ) n y < n := by
      have e : gp_cn (fun i => if i = y then true else (gq_P σ q i && gp_qL σ i y)) n 0 0 = gq_B (gq_P σ q) (gp_qL σ) n y + 1 := gp_cn_sub (x := y) (by simp) (by simp [ho.1 y h1 h2]) (by omega) (by omega) (fun j _ _ hjx => by simp [hjx])
      have := (@gp_cn_le (fun i => if i = y then true else (gq_P σ q i && gp_qL σ i y)) n 0 0).2
      omega
    omega
  | succ w ih =>
    intro v f hv hpv hf hall
    obtain ⟨f, rfl⟩ : ∃ g, f = g + 1 := ⟨f - 1, by omega⟩
    rw [fn_Ro_inLine_L10]
    by_cases hvp : pl ≤ v
    · obtain rfl : v = pl := by omega
      rw [if_pos (gp_le.mpr (Int.le_refl _))]
      cases hX : gq_X (gq_P σ q) (gp_qL σ) n v with
      | none => rfl
      | some x =>
        have := gq_Xb h40 v x hX
        rw [gp_ms', if_pos (by omega)]
        rfl
    · rw [if_neg (by rw [gp_le, gp_nI (by omega), gp_nI (by omega)]; omega)]
      cases hX : gq_X (gq_P σ q) (gp_qL σ) n v with
      | none =>
        rw [gp_mn', show pl = v + (pl - v) by omega, gq_none v (pl - v) hX]
        rfl
      | some x =>
        have hx := gq_Xb h40 v x hX
        have e : gp_fm (fun j => gq_P σ q j && gp_qL σ x j) (gp_qL σ) n 0 none = gq_X (gq_P σ q) (gp_qL σ) n (v + 1) := by
          conv => rhs; unfold gq_X
          rw [hX]
        have IH := ih (v + 1) f (by omega) (by omega) (by omega) (fun m hm => by
          by_cases hmv : m = v
          · subst hmv; exact ⟨x, hX⟩
          · exact hall m (by omega))
        rw [gp_ms', if_pos (by omega), gq_nexts hW hN hx, gp_bd, e, gp_s, ← IH]
        cases hX2 : gq_X (gq_P σ q) (gp_qL σ) n (v + 1) with
        | none => rfl
        | some y =>
          have := gq_Xb h40 (v + 1) y hX2
          rw [gp_ms', if_pos (by omega)]
          rfl
theorem gq_inLine {N n pl : Nat} {σ : gx_M} {q : Int32} (hW : gp_W σ n) (hN : 50 < N) (ho : gq_or (gq_P σ q) (gp_qL σ) n) (hpl : pl < 2147483648) : fn_Ro_inLine N 24 q (nI pl) σ = some (gp_id (gq_X (gq_P σ q) (gp_qL σ) n pl), σ) := by
  unfold fn_Ro_inLine
  have := gq_inLine_L (N := N) hW (by omega) ho hpl 41 0 N (by omega) (by omega) (by omega) (fun m hm => by omega)
  rw [if_pos (by decide), gq_next0 hW (by omega), gp_bd, ← this]
  cases hX : gq_X (gq_P σ q) (gp_qL σ) n 0 with
  | none => rfl
  | some y =>
    have := gq_Xb hW.2 0 y hX
    rw [gp_ms', if_pos (by omega)]
    rfl
/-! the reference -/
abbrev gq_Pm (τ : gx_M) (q : Int32) : Nat → Bool := fun j => decide (τ 729 (13 * j + 9) = 1 ∧ τ 729 (13 * j + 0) = q)
abbrev gq_Lm (τ : gx_M) : Nat → Nat → Bool := fun i j => decide (τ 729 (13 * j + 1) < τ 729 (13 * i + 1) ∨ (τ 729 (13 * i + 1) = τ 729 (13 * j + 1) ∧ τ 729 (13 * i + 12) < τ 729 (13 * j + 12)))
theorem gq_before {N i j : Nat} {τ : gx_M} (hi : i < 40) (hj : j < 40) : fn_Mo_goesBefore N (nI i) (nI j) τ = some (if gq_Lm τ i j = true then 1 else 0, τ) := by
  unfold fn_Mo_goesBefore
  rw [gp_of1 hi, gp_bd, gp_of1 hj, gp_bd, gp_of1 hi, gp_bd, gp_of1 hj, gp_bd, gp_of12 hi, gp_bd, gp_of12 hj, gp_bd]
  by_cases h1 : τ 729 (13 * j + 1) < τ 729 (13 * i + 1)
  · simp [h1]
  · rw [if_neg h1]
    by_cases h2 : τ 729 (13 * i + 1) = τ 729 (13 * j + 1)
    · rw [if_pos h2]
      by_cases h3 : τ 729 (13 * j + 12) ≤ τ 729 (13 * i + 12)
      · rw [if_pos h3, if_neg (by simp only [decide_eq_true_eq]; rintro (h | h); exact h1 h; exact gp_nle.mpr h.2 h3)]
      · rw [if_neg h3, if_pos (by simp only [decide_eq_true_eq]; exact Or.inr ⟨h2, gp_nle.mp h3⟩)]
    · rw [if_neg h2, if_neg (by simp only [decide_eq_true_eq]; rintro (h | h); exact h1 h; exact h2 h.1)]
theorem gq_cnt {N n j : Nat} {τ : gx_M} {q k : Int32} {κ : Int32 → gx_M → Option (Int32 × gx_M)} (hV : gp_V τ n) (hj : j < 40) : ∀ (w i f a : Nat), i + w = n → w < f → fn_Mo_inLine_L40 N (nI j) q k κ f (nI i) (nI a) τ = (if nI (gp_cn (fun i => gq_Pm τ q i && gq_Lm τ i j) w i a) = k then some (nI j, τ) else κ (nI j + 1) τ) := by
  obtain ⟨h1, h2⟩ := id hV
  intro w
  induction w with
  | zero =>
    intro i f a hi hf
    obtain ⟨f, rfl⟩ : ∃ g, f = g + 1 := ⟨f - 1, by omega⟩
    rw [fn_Mo_inLine_L40, h1, if_pos (by rw [gp_ge (by omega) (by omega)]; omega)]
    rfl
  | succ w ih =>
    intro i f a hi hf
    obtain ⟨f, rfl⟩ : ∃ g, f = g + 1 := ⟨f - 1, by omega⟩
    rw [fn_Mo_inLine_L40, h1, if_neg (by rw [gp_ge (by omega) (by omega)]; omega), gp_of0 (by omega), gp_bd, gp_of9 (by omega), gp_bd, gq_before (by omega) hj, gp_bd, gp_s, gp_s, ih (i + 1) f a (by omega) (by omega), ih (i + 1) f (a + 1) (by omega) (by omega), gp_cn_e]
    by_cases hq : τ 729 (13 * i + 0) = q
    · rw [if_pos hq]
      by_cases hs : τ 729 (13 * i + 9) = 1
      · rw [if_pos hs]
        by_cases hl : gq_Lm τ i j = true
        · rw [if_pos hl, if_neg (by decide), if_pos (show (gq_Pm τ q i && gq_Lm τ i j) = true by rw [Bool.and_eq_true]; exact ⟨by simp only [decide_eq_true_eq]; exact ⟨hs, hq⟩, hl⟩)]
        · rw [if_neg hl, if_pos rfl, if_neg (show ¬ (gq_Pm τ q i && gq_Lm τ i j) = true by rw [Bool.and_eq_true]; exact fun h => hl h.2)]
      · rw [if_neg hs, if_neg (show ¬ (gq_Pm τ q i && gq_Lm τ i j) = true by rw [Bool.and_eq_true]; simp only [decide_eq_true_eq]; exact fun h => hs h.1.1)]
    · rw [if_neg hq, if_neg (show ¬ (gq_Pm τ q i && gq_Lm τ i j) = true by rw [Bool.and_eq_true]; simp only [decide_eq_true_eq]; exact fun h => hq h.1.2)]
theorem gq_minLine_L {N n : Nat} {τ : gx_M} {q k : Int32} (hV : gp_V τ n) (hN : 40 < N) : ∀ (w v f : Nat), v + w = n → w < f → fn_Mo_inLine_L2 N q k f (nI v) τ = some (gp_dz (gp_ff (fun j => gq_Pm τ q j && decide (nI (gq_B (gq_Pm τ q) (gq_Lm τ) n j) = k)) w v), τ) := by
  obtain ⟨h1, h2⟩ := id hV
  intro w
  induction w with
  | zero =>
    intro v f hv hf
    obtain ⟨f, rfl⟩ : ∃ g, f = g + 1 := ⟨f - 1, by omega⟩
    rw [fn_Mo_inLine_L2, h1, if_pos (by rw [gp_ge (by omega) (by omega)]; omega)]
    rfl
  | succ w ih =>
    intro v f hv hf
    obtain ⟨f, rfl⟩ : ∃ g, f = g + 1 := ⟨f - 1, by omega⟩
    have hc := gq_cnt (N := N) (j := v) (q := q) (k := k) (κ := fn_Mo_inLine_L2 N q k f) hV (by omega) n 0 N 0 (by omega) (by omega)
    rw [gp_s, ih (v + 1) f (by omega) (by omega)] at hc
    rw [fn_Mo_inLine_L2, h1, if_neg (by rw [gp_ge (by omega) (by omega)]; omega), gp_of0 (by omega), gp_bd, gp_of9 (by omega), gp_bd, gp_s, ih (v + 1) f (by omega) (by omega), gp_ff_e, show fn_Mo_inLine_L40 N (nI v) q k (fn_Mo_inLine_L2 N q k f) N 0 0 τ = _ from hc]
    by_cases hq : τ 729 (13 * v + 0) = q
    · rw [if_pos hq]
      by_cases hs : τ 729 (13 * v + 9) = 1
      · have hP : gq_Pm τ q v = true := by simp only [decide_eq_true_eq]; exact ⟨hs, hq⟩
        rw [if_pos hs]
        by_cases hk : nI (gq_B (gq_Pm τ q) (gq_Lm τ) n v) = k
        · rw [if_pos hk, if_pos (show (gq_Pm τ q v && decide (nI (gq_B (gq_Pm τ q) (gq_Lm τ) n v) = k)) = true by rw [Bool.and_eq_true]; exact ⟨hP, decide_eq_true hk⟩)]
          rfl
        · rw [if_neg hk, if_neg (show ¬ (gq_Pm τ q v && decide (nI (gq_B (gq_Pm τ q) (gq_Lm τ) n v) = k)) = true by rw [Bool.and_eq_true]; exact fun h => hk (of_decide_eq_true h.2))]
      · rw [if_neg hs, if_neg (show ¬ (gq_Pm τ q v && decide (nI (gq_B (gq_Pm τ q) (gq_Lm τ) n v) = k)) = true by rw [Bool.and_eq_true]; simp only [decide_eq_true_eq]; exact fun h => hs h.1.1)]
    · rw [if_neg hq, if_neg (show ¬ (gq_Pm τ q v && decide (nI (gq_B (gq_Pm τ q) (gq_Lm τ) n v) = k)) = true by rw [Bool.and_eq_true]; simp only [decide_eq_true_eq]; exact fun h => hq h.1.2)]
theorem gq_Pe {K : Int} {n j : Nat} {σ τ : gx_M} (h : gr_M K n σ τ) (q : Int32) (hj : j < n) : gq_Pm τ q j = gq_P σ q j := by
  have e1 : σ (682 + j) 1 = τ 729 (13 * j + 0) := (h.2.2.1.1 j hj).1.2.1
  show decide _ = decide _
  rw [← gr_10 h hj, ← e1]
theorem gq_Le {K : Int} {n i j : Nat} {σ τ : gx_M} (h : gr_M K n σ τ) (q : Int32) (hi : i < n) (hj : j < n) (pi : gq_P σ q i = true) (pj : gq_P σ q j = true) : gq_Lm τ i j = gp_qL σ i j := by
  have pi : σ (682 + i) 10 = 1 ∧ σ (682 + i) 1 = q := by simpa using pi
  have pj : σ (682 + j) 10 = 1 ∧ σ (682 + j) 1 = q := by simpa using pj
  have e1 : σ (682 + i) 2 = τ 729 (13 * i + 1) := (h.2.2.1.1 i hi).1.2.2.1
  have e2 : σ (682 + j) 2 = τ 729 (13 * j + 1) := (h.2.2.1.1 j hj).1.2.2.1
  have e3 : (σ (682 + i) 13).toInt < (σ (682 + j) 13).toInt ↔ (τ 729 (13 * i + 12)).toInt < (τ 729 (13 * j + 12)).toInt := (h.2.2.1.2.2 i j hi hj (Or.inl pi.1) (Or.inl pj.1)).1
  show decide _ = decide _
  rw [decide_eq_decide, ← e1, ← e2, gp_lt (a := τ 729 (13 * i + 12)), ← e3, ← gp_lt (a := σ (682 + i) 13)]
theorem gq_ord {K : Int} {n : Nat} {σ τ : gx_M} (h : gr_M K n σ τ) (q : Int32) : gq_or (gq_P σ q) (gp_qL σ) n := by
  have L : ∀ i j, gp_qL σ i j = true ↔ ((σ (682 + j) 2).toInt < (σ (682 + i) 2).toInt ∨ ((σ (682 + i) 2).toInt = (σ (682 + j) 2).toInt ∧ (σ (682 + i) 13).toInt < (σ (682 + j) 13).toInt)) := by
    intro i j
    simp only [decide_eq_true_eq]
    rw [gp_lt, gp_eq, gp_lt]
  refine ⟨fun a ha pa => ?_, fun a b c ha hb hc pa pb pc h1 h2 => ?_, fun a b ha hb pa pb => ?_⟩
  · cases hl : gp_qL σ a a with
    | false => rfl
    | true =>
      have := (L a a).mp hl
      omega
  · rw [L] at h1 h2 ⊢
    omega
  · have pa : σ (682 + a) 10 = 1 ∧ σ (682 + a) 1 = q := by simpa using pa
    have pb : σ (682 + b) 10 = 1 ∧ σ (682 + b) 1 = q := by simpa using pb
    have e : (σ (682 + a) 13).toInt = (σ (682 + b) 13).toInt → a = b := (h.2.2.1.2.2 a b ha hb (Or.inl pa.1) (Or.inl pb.1)).2
    rw [L, L]
    omega
/-- the k-th of a queue's line, in the reference -/
theorem gq_minLine {N : Nat} {K : Int} {n pl : Nat} {σ τ : gx_M} {q : Int32} (h : gr_M K n σ τ) (hN : 40 < N) (hpl : pl < 2147483648) : fn_Mo_inLine N q (nI pl) τ = some (gp_dz (gq_X (gq_P σ q) (gp_qL σ) n pl), τ) := by
  have h40 := h.1.2
  unfold fn_Mo_inLine
  have e : gp_ff (fun j => gq_Pm τ q j && decide (nI (gq_B (gq_Pm τ q) (gq_Lm τ) n j) = nI pl)) n 0 = gp_ff (fun j => gq_P σ q j && decide (gq_B (gq_P σ q) (gp_qL σ) n j = pl)) n 0 := by
    refine gp_ff_c (fun j _ hj => ?_)
    rw [gq_Pe h q (by omega)]
    cases hp : gq_P σ q j with
    | false => rw [Bool.false_and, Bool.false_and]
    | true =>
      have eB : gq_B (gq_Pm τ q) (gq_Lm τ) n j = gq_B (gq_P σ q) (gp_qL σ) n j := by
        refine gp_cn_c (fun i _ hi => ?_)
        rw [gq_Pe h q (by omega)]
        cases hpi : gq_P σ q i with
        | false => rw [Bool.false_and, Bool.false_and]
        | true => rw [gq_Le h q (by omega) (by omega) hpi hp]
      rw [eB]
      have hle : gq_B (gq_P σ q) (gp_qL σ) n j ≤ 0 + n := gp_cn_le.2
      have : (nI (gq_B (gq_P σ q) (gp_qL σ) n j) = nI pl) ↔ gq_B (gq_P σ q) (gp_qL σ) n j = pl := by
        rw [gp_eq, gp_nI (by omega), gp_nI (by omega)]
        omega
      rw [decide_eq_decide.mpr this]
  rw [show fn_Mo_inLine_L2 N q (nI pl) N 0 τ = _ from gq_minLine_L h.2.1 hN n 0 N (by omega) (by omega), e, gq_ff (gq_ord h q) pl]
theorem gq_nat {k : Int32} (h : 0 ≤ k.toInt) : ∃ pl : Nat, pl < 2147483648 ∧ k = nI pl := by
  have hb : k.toInt < 2147483648 := Int32.toInt_lt k
  refine ⟨k.toInt.toNat, by omega, ?_⟩
  rw [gp_eq, gp_nI (by omega)]
  omega
/-- no line is longer than 40 -/
theorem gq_X40 {P : Nat → Bool} {lt : Nat → Nat → Bool} {n pl : Nat} (hn : n ≤ 40) (ho : gq_or P lt n) (hpl : 40 ≤ pl) : gq_X P lt n pl = none := by
  cases hX : gq_X P lt n pl with
  | none => rfl
  | some y =>
    exfalso
    obtain ⟨h1, h2, h3⟩ := (gq_spec ho pl).1 y hX
    have e : gp_cn (fun i => if i = y then true else (P i && lt i y)) n 0 0 = gq_B P lt n y + 1 := gp_cn_sub (x := y) (by simp) (by simp [ho.1 y h1 h2]) (by omega) (by omega) (fun j _ _ hjx => by simp [hjx])
    have := (@gp_cn_le (fun i => if i = y then true else (P i && lt i y)) n 0 0).2
    omega
theorem gr_line (N : Nat) (p k : Int32) (hN : 520 < N) : gr_op (fn_Bo_line N p k) (fn_Mo_line N p k) := by
  intro K T σ0 τ0 σ τ h hK hT
  obtain ⟨n, u, hH, hE⟩ := id h
  have hM := hH.2.1
  have h40 := hM.1.2
  have hR := h.mono (K' := K + 200) (T' := T + 1000) (by omega) (by omega) (by omega)
  unfold fn_Bo_line fn_Mo_line
  rw [gp_isQueue, gp_bd, gp_within, gp_bd, gp_mout, gp_bd, gp_i10, gp_i10, gp_i01]
  by_cases c1 : 0 ≤ p ∧ p ≤ 3
  · rw [if_pos c1, if_pos c1]
    by_cases c2 : 0 ≤ k
    · have hk0 : 0 ≤ k.toInt := by simpa using gp_le.mp c2
      obtain ⟨pl, hpl, rfl⟩ : ∃ pl : Nat, pl < 2147483648 ∧ k = nI pl := gq_nat hk0
      rw [gq_minLine hM (by omega) hpl, gp_bd]
      by_cases c3 : nI pl ≤ (39 : Int32)
      · rw [if_pos ⟨c2, c3⟩, gq_inLine hM.1 (by omega) (gq_ord hM p) hpl, gp_bd]
        cases hX : gq_X (gq_P σ p) (gp_qL σ) n pl with
        | none =>
          rw [gp_mn', if_neg (by decide)]
          exact ⟨_, _, _, rfl, rfl, hR⟩
        | some x =>
          have hx := ((gq_spec (gq_ord hM p) pl).1 x hX).1
          have e0 : σ (682 + x) 0 = nI x := (hM.2.2.1.1 x hx).1.1
          rw [gp_ms', if_pos (by omega), if_pos (show 0 ≤ gp_dz (some x) from (gp_in (i := x) (n := 40) (M := 40) (by omega) (by decide) (by decide)).1)]
          unfold fn_Bo_numberOrNone
          rw [gp_ms, if_pos (by omega), gp_bd, e0]
          exact ⟨_, _, _, rfl, rfl, hR⟩
      · have h39 : 40 ≤ pl := by
          rw [gp_le, gp_nI (by omega), show (39 : Int32).toInt = 39 from by decide] at c3
          omega
        rw [if_neg (fun h => c3 h.2), gq_X40 h40 (gq_ord hM p) h39, if_neg (by decide)]
        exact ⟨_, _, _, rfl, rfl, hR⟩
    · have hk : ∀ c : Nat, c ≤ 1000000 → ¬ nI c = k := by
        intro c hc e
        rw [← e, gp_le, gp_nI (by omega)] at c2
        exact c2 (by simp)
      have e : gp_ff (fun j => gq_Pm τ p j && decide (nI (gq_B (gq_Pm τ p) (gq_Lm τ) n j) = k)) n 0 = none := by
        cases hf : gp_ff (fun j => gq_Pm τ p j && decide (nI (gq_B (gq_Pm τ p) (gq_Lm τ) n j) = k)) n 0 with
        | none => rfl
        | some y =>
          obtain ⟨-, g1, g2⟩ := gp_ff_s hf
          rw [Bool.and_eq_true] at g2
          have hle : gq_B (gq_Pm τ p) (gq_Lm τ) n y ≤ 0 + n := gp_cn_le.2
          exact absurd (of_decide_eq_true g2.2) (hk _ (by omega))
      unfold fn_Mo_inLine
      rw [if_neg (fun h : 0 ≤ k ∧ k ≤ 39 => c2 h.1), show fn_Mo_inLine_L2 N p k N 0 τ = _ from gq_minLine_L hM.2.1 (by omega) n 0 N (by omega) (by omega), gp_bd, e, if_neg (by decide)]
      exact ⟨_, _, _, rfl, rfl, hR⟩
  · rw [if_neg c1, if_neg c1]
    exact ⟨_, _, _, rfl, rfl, hR⟩

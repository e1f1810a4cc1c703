def gp_dz (b : Option Nat) : Int32 := match b with
  | none => -1
  | some x => nI x
theorem gp_mn' {β : Type} {a : β} {f : Nat → β} : gx_mt (gp_id none) a f = a := rfl
theorem gp_ms' {β : Type} {a : β} {f : Nat → β} {x : Nat} : gx_mt (gp_id (some x)) a f = f (682 + x) := rfl
theorem gp_nIe {a b : Nat} (ha : a < 1000000) (hb : b < 1000000) : nI a = nI b ↔ a = b := by
  rw [gp_eq, gp_nI (by omega), gp_nI (by omega)]
  omega
theorem gp_nI0 {a : Nat} (ha : a < 1000000) : ¬ nI a < 0 := by
  rw [gp_lt, gp_nI (by omega)]
  show ¬ (a : Int) < 0
  omega
abbrev gp_eP (τ : gx_M) : Nat → Bool := fun j => decide (τ 729 (13 * j + 9) = 5)
abbrev gp_eL (τ : gx_M) : Nat → Nat → Bool := fun i j => decide (τ 729 (13 * i + 12) < τ 729 (13 * j + 12))
theorem gr_tail {N j : Nat} {τ : gx_M} (hj : j < 40) : gx_bv (fn_Mo_set N (nI j) 9 5 τ) (fun σ_3 => gx_bv (fn_Mo_set N (nI j) 12 (σ_3 722 10) σ_3) (fun σ_5 => gx_lt (gx_up σ_5 722 10 ((σ_5 722 10) + 1)) (fun σ_7 => some σ_7))) = some (gr_em τ j 5) := by
  simp only [gp_lt']
  rw [gp_se9 hj, gp_bv, gp_se12 hj, gp_bv]
  rw [gp_un (show ¬ (722 = 729 ∧ 10 = 13 * j + 9) by omega), gp_un (show ¬ (722 = 729 ∧ 10 = 13 * j + 12) by omega), gp_un (show ¬ (722 = 729 ∧ 10 = 13 * j + 9) by omega)]
theorem gr_die_L {N n j : Nat} {τ : gx_M} (hV : gp_V τ n) (hj : j < 40) (hnd : ¬ τ 729 (13 * j + 9) = 5) : ∀ (k i f : Nat) (b : Option Nat) (a : Nat), i + k = n → k < f → (∀ x, b = some x → x < 40) → a ≤ i → fn_Mo_die_L7 N (nI j) f (nI i) (gp_dz b) (nI a) τ = (if gp_cn (gp_eP τ) k i a < 8 then some (gr_em τ j 5) else gx_bv (fn_Mo_set N (gp_dz (gp_fm (gp_eP τ) (gp_eL τ) k i b)) 9 7 τ) (fun τ1 => some (gr_em τ1 j 5))) := by
  obtain ⟨h1, h2⟩ := id hV
  intro k
  induction k with
  | zero =>
    intro i f b a hi hf hb ha
    obtain ⟨f, rfl⟩ : ∃ g, f = g + 1 := ⟨f - 1, by omega⟩
    rw [fn_Mo_die_L7, h1, if_pos (by rw [gp_ge (by omega) (by omega)]; omega), gr_tail hj]
    by_cases h8 : a < 8
    · rw [if_pos (by rw [gp_lt, gp_nI (by omega)]; show (a : Int) < 8; omega), if_pos (show gp_cn (gp_eP τ) 0 i a < 8 from h8)]
    · rw [if_neg (by rw [gp_lt, gp_nI (by omega)]; show ¬ (a : Int) < 8; omega), if_neg (show ¬ gp_cn (gp_eP τ) 0 i a < 8 from h8)]
      show gx_bv (fn_Mo_set N (gp_dz b) 9 7 τ) _ = gx_bv (fn_Mo_set N (gp_dz b) 9 7 τ) _
      congr 1
      funext τ1
      exact gr_tail hj
  | succ k ih =>
    intro i f b a hi hf hb ha
    obtain ⟨f, rfl⟩ : ∃ g, f = g + 1 := ⟨f - 1, by omega⟩
    have ih' := fun a' h => ih (i + 1) f _ a' (by omega) (by omega) (gp_stb (P := gp_eP τ) (lt := gp_eL τ) (i := i) (by omega) hb) h
    rw [fn_Mo_die_L7, h1, if_neg (by rw [gp_ge (by omega) (by omega)]; omega), gp_of9 (by omega), gp_bd, gp_s, gp_fm_e, gp_cn_e]
    by_cases hp : τ 729 (13 * i + 9) = 5
    · have hij : ¬ i = j := fun h => hnd (by rw [← h]; exact hp)
      rw [if_pos hp, if_neg (by rw [gp_nIe (by omega) (by omega)]; exact hij), if_pos (show gp_eP τ i = true by simp [hp]), ← ih' (a + 1) (by omega), gp_s]
      unfold gp_st
      rw [if_pos (show gp_eP τ i = true by simp [hp])]
      cases b with
      | none =>
        rw [if_pos (by decide)]
        rfl
      | some x =>
        have := hb x rfl
        rw [if_neg (show ¬ gp_dz (some x) < 0 from gp_nI0 (by omega)), gp_of12 (by omega), gp_bd]
        show gx_bd (fn_Mo_of N (nI x) 12 τ) _ = _
        rw [gp_of12 (by omega), gp_bd]
        by_cases hl : τ 729 (13 * x + 12) ≤ τ 729 (13 * i + 12)
        · rw [if_pos hl]
          dsimp only
          rw [if_neg (by simp only [decide_eq_true_eq]; rw [gp_nlt]; exact hl)]
        · rw [if_neg hl]
          dsimp only
          rw [if_pos (by simp only [decide_eq_true_eq]; exact gp_nle.mp hl)]
          rfl
    · rw [if_neg hp, if_neg (show ¬ gp_eP τ i = true by simp [hp]), ← ih' a (by omega)]
      unfold gp_st
      rw [if_neg (show ¬ gp_eP τ i = true by simp [hp])]
theorem gr_die {N n j : Nat} {τ : gx_M} (hV : gp_V τ n) (hN : 40 < N) (hj : j < 40) (hnd : ¬ τ 729 (13 * j + 9) = 5) : fn_Mo_die N (nI j) τ = (if gp_cn (gp_eP τ) n 0 0 < 8 then some (gr_em τ j 5) else gx_bv (fn_Mo_set N (gp_dz (gp_fm (gp_eP τ) (gp_eL τ) n 0 none)) 9 7 τ) (fun τ1 => some (gr_em τ1 j 5))) := by
  unfold fn_Mo_die
  exact gr_die_L hV hj hnd n 0 N none 0 (by omega) (by have := hV.2; omega) (fun x h => by cases h) (Nat.le_refl _)
/-- one that is dead goes -/
theorem gr_gone {K : Int} {n x : Nat} {σ τ : gx_M} (h : gr_M K n σ τ) (hx : x < n) : gr_M K n (gx_up σ (682 + x) 10 7) (gx_up τ 729 (13 * x + 9) 7) := by
  obtain ⟨hW, hV, hT, hst, hod, hK⟩ := h
  have h40 := hW.2
  refine ⟨⟨by rw [gp_un (by omega)]; exact hW.1, hW.2⟩, ⟨by rw [gp_un (by omega)]; exact hV.1, hV.2⟩, ?_, by rw [gp_un (by omega)]; exact hst, by rw [gp_un (by omega)]; exact hod, hK⟩
  rw [gp_un (show ¬ (24 = 682 + x ∧ 2 = 10) by omega), gp_un (show ¬ (722 = 729 ∧ 10 = 13 * x + 9) by omega)]
  refine hT.set x (fun i hi hij k hk => ?_) (fun i hi hij f hf => ?_) (fun _ => ?_) (fun _ hl => ?_)
  · show gx_up σ (682 + x) 10 7 (682 + i) k = σ (682 + i) k
    rw [gp_un (by omega)]
  · show gx_up τ 729 (13 * x + 9) 7 729 (13 * i + f) = τ 729 (13 * i + f)
    rw [gp_un (by omega)]
  · refine (hT.1 x hx).st (s := 7) (fun k hk => ?_) (fun f hf => ?_) ?_ ?_ (by decide) (fun h => ?_) (fun h => absurd h (by decide))
    · show gx_up σ (682 + x) 10 7 (682 + x) k = σ (682 + x) k
      rw [gp_un (by omega)]
    · show gx_up τ 729 (13 * x + 9) 7 729 (13 * x + f) = τ 729 (13 * x + f)
      rw [gp_un (by omega)]
    · exact gp_us
    · exact gp_us
    · exact absurd h (by unfold gr_tm; decide)
  · have e : gr_c (gx_up σ (682 + x) 10 7) x 10 = 7 := gp_us
    rw [e] at hl
    exact absurd hl (by unfold gr_ln; decide)
theorem gr_dPe {K : Int} {n : Nat} {σ τ : gx_M} (h : gr_M K n σ τ) : ∀ i, i < n → gp_dP σ i = gp_eP τ i := fun i hi => by
  have e : σ (682 + i) 10 = τ 729 (13 * i + 9) := (h.2.2.1.1 i hi).1.2.2.2.2.2.2.2.2.2.2
  show decide _ = decide _
  rw [e]
/-- BECOMING DEAD -/
theorem gr_bury {N : Nat} {K : Int} {n j : Nat} {σ τ : gx_M} (h : gr_M K n σ τ) (hN : 40 < N) (hj : j < n) (hnd : ¬ σ (682 + j) 10 = 5) (hK : K < 999999999) : ∃ σ' τ', fn_Ro_bury N 24 (682 + j) σ = some σ' ∧ fn_Mo_die N (nI j) τ = some τ' ∧ gr_M (K + 1) n σ' τ' ∧ gr_Ac σ σ' ∧ gr_Am τ τ' ∧ σ' (682 + j) 10 = 5 ∧ (∀ i, i < n → i ≠ j → σ' (682 + i) 11 = σ (682 + i) 11 ∧ (σ' (682 + i) 10 = σ (682 + i) 10 ∨ (σ (682 + i) 10 = 5 ∧ σ' (682 + i) 10 = 7))) ∧ (∀ i, i < 40 → τ' 732 i = τ 732 i) := by
  obtain ⟨hW, hV, hT, hst, hod, hK0, hK1⟩ := id h
  have h40 := hW.2
  have eJ : ∀ i, i < n → σ (682 + i) 10 = τ 729 (13 * i + 9) := fun i hi => (hT.1 i hi).1.2.2.2.2.2.2.2.2.2.2
  have hnd' : ¬ τ 729 (13 * j + 9) = 5 := by rw [← eJ j hj]; exact hnd
  have e1 : gp_cn (gp_dP σ) n 0 0 = gp_cn (gp_eP τ) n 0 0 := gp_cn_c (fun i _ hi => gr_dPe h i (by omega))
  have e2 : gp_fm (gp_dP σ) (gp_dL σ) n 0 none = gp_fm (gp_eP τ) (gp_eL τ) n 0 none := by
    refine gp_fm_c (fun i _ hi => gr_dPe h i (by omega)) (fun a c ha hc => ?_)
    rcases ha with ha | ⟨-, ha, pa⟩
    · cases ha
    rcases hc with hc | ⟨-, hc, pc⟩
    · cases hc
    have pa : σ (682 + a) 10 = 5 := by simpa using pa
    have pc : σ (682 + c) 10 = 5 := by simpa using pc
    have := (hT.2.2 a c (by omega) (by omega) (Or.inr pa) (Or.inr pc)).1
    show decide (σ (682 + a) 13 < σ (682 + c) 13) = decide (τ 729 (13 * a + 12) < τ 729 (13 * c + 12))
    rw [decide_eq_decide, gp_lt, gp_lt]
    exact this
  unfold fn_Ro_bury
  rw [if_pos (by decide), if_pos (by omega), gp_oldest hW hN, gp_bd, gr_die hV hN (by omega) hnd', ← e1, ← e2]
  have simple : ∃ σ' τ', some (gr_ec σ j 5) = some σ' ∧ some (gr_em τ j 5) = some τ' ∧ gr_M (K + 1) n σ' τ' ∧ gr_Ac σ σ' ∧ gr_Am τ τ' ∧ σ' (682 + j) 10 = 5 ∧ (∀ i, i < n → i ≠ j → σ' (682 + i) 11 = σ (682 + i) 11 ∧ (σ' (682 + i) 10 = σ (682 + i) 10 ∨ (σ (682 + i) 10 = 5 ∧ σ' (682 + i) 10 = 7))) ∧ (∀ i, i < 40 → τ' 732 i = τ 732 i) := by
    obtain ⟨q1, q2, q3⟩ := gr_enter h hj (Or.inr rfl) hK
    exact ⟨_, _, rfl, rfl, q1, q2, q3, gr_ec_10, fun i hi hij => ⟨gr_ec_n (by omega), Or.inl (gr_ec_n (by omega))⟩, fun i _ => gr_em_n (by omega)⟩
  cases hf : gp_fm (gp_dP σ) (gp_dL σ) n 0 none with
  | none =>
    have h0 : gp_cn (gp_dP σ) n 0 0 = 0 := by
      have hall := (gp_fm_n hf).2
      have : gp_cn (gp_dP σ) n 0 0 = gp_cn (fun _ => false) n 0 0 := gp_cn_c (fun i _ hi => hall i (by omega) (by omega))
      rw [this]
      have hz : ∀ k i, gp_cn (fun _ => false) k i 0 = 0 := by
        intro k
        induction k with
        | zero => intro i; rfl
        | succ k ih => intro i; rw [gp_cn_e]; exact ih (i + 1)
      exact hz n 0
    rw [gp_mn', gr_enter_c (by omega), gp_bv, h0, if_pos (by decide)]
    exact simple
  | some x =>
    have hx : x < n ∧ σ (682 + x) 10 = 5 := by
      rcases gp_fm_s hf with hh | ⟨-, hh, px⟩
      · cases hh
      · exact ⟨by omega, by simpa using px⟩
    have hxj : x ≠ j := fun e => hnd (by rw [← e]; exact hx.2)
    have hcI : fn_Ro_countIn N 24 5 σ = some (nI (gp_cn (gp_dP σ) n 0 0), σ) := gp_countIn hW hN
    rw [gp_ms', if_pos (by omega), hcI, gp_bd]
    have hle : gp_cn (gp_dP σ) n 0 0 ≤ 0 + n := gp_cn_le.2
    by_cases h8 : gp_cn (gp_dP σ) n 0 0 < 8
    · rw [if_pos (by rw [gp_lt, gp_nI (by omega)]; show ((gp_cn (gp_dP σ) n 0 0 : Nat) : Int) < 8; omega), gr_enter_c (by omega), gp_bv, if_pos h8]
      exact simple
    · rw [if_neg (by rw [gp_lt, gp_nI (by omega)]; show ¬ ((gp_cn (gp_dP σ) n 0 0 : Nat) : Int) < 8; omega), gp_lt', gr_enter_c (by omega), gp_bv, if_neg h8]
      show ∃ σ' τ', _ ∧ gx_bv (fn_Mo_set N (nI x) 9 7 τ) _ = some τ' ∧ _
      rw [gp_se9 (by omega), gp_bv]
      obtain ⟨q1, q2, q3⟩ := gr_enter (gr_gone h hx.1) hj (Or.inr rfl) hK
      refine ⟨_, _, rfl, rfl, q1, (gr_Ac.up (by omega) (by decide)).tr q2, gr_Am.up.tr q3, gr_ec_10, fun i hi hij => ⟨?_, ?_⟩, fun i _ => ?_⟩
      · rw [gr_ec_n (by omega), gp_un (by omega)]
      · by_cases hix : i = x
        · subst hix
          exact Or.inr ⟨hx.2, by rw [gr_ec_n (by omega), gp_us]⟩
        · exact Or.inl (by rw [gr_ec_n (by omega), gp_un (by omega)])
      · rw [gr_em_n (by omega), gp_un (by omega)]

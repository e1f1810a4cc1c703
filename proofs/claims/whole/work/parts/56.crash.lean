/-! CRASH: back to a page -/
def gc_S (τ : gx_M) (p k : Nat) : gx_M := fun a b => if a = 729 ∧ b < k then τ 730 (520 * p + b) else τ a b
theorem gc_S_n {τ : gx_M} {p k a b : Nat} (h : ¬ (a = 729 ∧ b < k)) : gc_S τ p k a b = τ a b := if_neg h
theorem gc_Ss {τ : gx_M} {p k : Nat} : gx_up (gc_S τ p k) 729 k (gc_S τ p k 730 (520 * p + k)) = gc_S τ p (k + 1) := by
  funext a b
  rw [gc_S_n (show ¬ (730 = 729 ∧ _) by omega)]
  by_cases h : a = 729 ∧ b = k
  · obtain ⟨rfl, rfl⟩ := h
    rw [gp_us]
    unfold gc_S
    rw [if_pos (by omega)]
  · rw [gp_un h]
    unfold gc_S
    by_cases h2 : a = 729 ∧ b < k
    · rw [if_pos h2, if_pos (by omega)]
    · rw [if_neg h2, if_neg (by omega)]
theorem gc_load {N p : Nat} {τ : gx_M} {u3 : Int32} (hp : p < 16) : ∀ (k i f : Nat), i + k = 520 → k < f → fn_Mo_crash_L39 N u3 (nI p) f (nI i) (gc_S τ p i) = fn_Mo_crash_L86 N u3 N 0 (gx_up (gc_S τ p 520) 722 9 (τ 731 p)) := by
  intro k
  induction k with
  | zero =>
    intro i f hi hf
    obtain ⟨f, rfl⟩ : ∃ z, f = z + 1 := ⟨f - 1, by omega⟩
    obtain rfl : i = 520 := by omega
    rw [fn_Mo_crash_L39, if_pos (show (520 : Int32) ≤ nI 520 by decide), if_pos (gp_in (n := 16) hp (by decide) (by decide)), gp_lt', gp_cl (by omega), gc_S_n (show ¬ (731 = 729 ∧ _) by omega)]
  | succ k ih =>
    intro i f hi hf
    obtain ⟨f, rfl⟩ : ∃ z, f = z + 1 := ⟨f - 1, by omega⟩
    have e : nI p * 520 + nI i = nI (520 * p + i) := by
      rw [show (520 : Int32) = nI 520 from rfl, pk_mul, nI_add, Nat.mul_comm]
    have h1 := gp_in (i := 520 * p + i) (n := 8320) (M := 8320) (by omega) (by decide) (by decide)
    have h2 := gp_in (i := i) (n := 520) (M := 520) (by omega) (by decide) (by decide)
    rw [fn_Mo_crash_L39, if_neg (by rw [show (520 : Int32) = nI 520 from rfl, gp_ge (by omega) (by omega)]; omega), e, if_pos h1, if_pos h2, gp_lt', gp_cl (by omega), gp_cl (by omega), gc_Ss, gp_s]
    exact ih (i + 1) f (by omega) (by omega)
/-- the page k comes back, in both -/
theorem gc_back {K T : Int} {σ0 τ0 σ τ : gx_M} {n u k m : Nat} (hH : gr_H K T σ0 τ0 n u σ τ) (hk : k ≤ u) (hm : m ≤ 40) (hsz : σ (8 + k) 1 = nI m) (hsz2 : τ 731 k = nI m) (hT : gr_T K m (gr_pc σ k) (gr_pm τ k) (σ (8 + k) 2) (τ 722 10)) (hst : 0 ≤ (σ (8 + k) 2).toInt ∧ (σ (8 + k) 2).toInt ≤ K) : gr_H K T σ0 τ0 m u (gj_R σ 24 (8 + k) m) (gx_up (gc_S τ k 520) 722 9 (τ 731 k)) := by
  obtain ⟨hB, hM, ⟨hu, hu1, hu2⟩, hP, hNn, hQ, hS⟩ := id hH
  have c1 : ∀ a b, ¬ (682 ≤ a ∧ a < 722 ∧ 1 ≤ b) → ¬ (a = 24 ∧ (b = 1 ∨ b = 2)) → gj_R σ 24 (8 + k) m a b = σ a b := fun a b g1 g2 => gj_R_n (by omega) g2
  have m1 : ∀ a b, ¬ (a = 729) → ¬ (a = 722 ∧ b = 9) → gx_up (gc_S τ k 520) 722 9 (τ 731 k) a b = τ a b := fun a b g1 g2 => by rw [gp_un g2, gc_S_n (by omega)]
  have e1 : gj_R σ 24 (8 + k) m 24 1 = σ (8 + k) 1 := gj_R_1 (by omega)
  have e2 : gj_R σ 24 (8 + k) m 24 2 = σ (8 + k) 2 := gj_R_2 (by omega)
  have f9 : gx_up (gc_S τ k 520) 722 9 (τ 731 k) 722 9 = τ 731 k := gp_us
  have f10 : gx_up (gc_S τ k 520) 722 9 (τ 731 k) 722 10 = τ 722 10 := m1 _ _ (by omega) (by omega)
  refine hH.gen (T' := T) ⟨⟨e1.trans hsz, hm⟩, ⟨f9.trans hsz2, hm⟩, ?_, by rw [e2]; exact hst, by rw [f10]; exact hM.2.2.2.2.1, hM.2.2.2.2.2⟩ (Int.le_refl _) (fun o b g1 g2 g3 => c1 _ _ (by omega) (by omega)) (fun o g1 g2 => c1 _ _ (by omega) (by omega)) (fun o b g1 => m1 _ _ (by omega) (by omega)) (m1 _ _ (by omega) (by omega)) (by rw [f10]; exact Int.le_refl _) (hQ.keep (fun q hq b => c1 _ _ (by omega) (by omega)) (c1 _ _ (by omega) (by omega)) (fun o b g1 g2 => m1 _ _ (by omega) (by omega))) ?_
  · rw [e2, f10]
    refine hT.congr (fun i hi b hb => ?_) (fun i hi f hf => ?_)
    · show gj_R σ 24 (8 + k) m (682 + i) b = σ (42 + 40 * k + i) b
      by_cases hb0 : b = 0
      · subst hb0
        rw [c1 _ _ (by omega) (by omega), hNn _ (by omega) (by omega), hNn (42 + 40 * k + i) (by omega) (by omega)]
        congr 1
        omega
      · have := gj_R_j (σ := σ) (r := 24) (s := 8 + k) (n := m) (i := i) (k := b) (by omega) (by omega) hi hm ⟨by omega, by omega⟩
        rw [show 42 + 40 * (24 - 8) + i = 682 + i by omega, show 42 + 40 * (8 + k - 8) + i = 42 + 40 * k + i by omega] at this
        exact this
    · show gx_up (gc_S τ k 520) 722 9 (τ 731 k) 729 (13 * i + f) = τ 730 (520 * k + (13 * i + f))
      rw [gp_un (by omega)]
      unfold gc_S
      rw [if_pos (by omega)]
  · unfold gr_S
    rw [c1 0 0 (by omega) (by omega), c1 0 4 (by omega) (by omega), c1 0 5 (by omega) (by omega), m1 722 0 (by omega) (by omega), m1 722 1 (by omega) (by omega), m1 722 8 (by omega) (by omega)]
    exact hS
/-- the newest page comes back: nothing changes -/
theorem gc_stay {σ : gx_M} {n u : Nat} (hE : gr_E σ u n) (hu : u ≤ 15) (hn : n ≤ 40) : gj_R σ 24 (8 + u) n = σ := by
  obtain ⟨h1, h2, h3⟩ := hE
  funext a b
  by_cases g1 : 682 ≤ a ∧ a < 682 + n ∧ 1 ≤ b ∧ b ≤ 13
  · obtain ⟨i, rfl⟩ : ∃ i, a = 682 + i := ⟨a - 682, by omega⟩
    have := gj_R_j (σ := σ) (r := 24) (s := 8 + u) (n := n) (i := i) (k := b) (by omega) (by omega) (by omega) hn ⟨by omega, by omega⟩
    rw [show 42 + 40 * (24 - 8) + i = 682 + i by omega, show 42 + 40 * (8 + u - 8) + i = 42 + 40 * u + i by omega] at this
    rw [this]
    exact h3 i (by omega) b (by omega) (by omega)
  · by_cases g2 : a = 24 ∧ b = 1
    · obtain ⟨rfl, rfl⟩ := g2
      rw [gj_R_1 (by omega)]
      exact h1
    · by_cases g3 : a = 24 ∧ b = 2
      · obtain ⟨rfl, rfl⟩ := g3
        rw [gj_R_2 (by omega)]
        exact h2
      · exact gj_R_n (by omega) (by omega)
/-- what was RESERVED is READY -/
theorem gc_free {N : Nat} {T : Int} {σ0 τ0 : gx_M} {n u : Nat} {u3 : Int32} : ∀ (k i f g : Nat) (K : Int) (σ τ : gx_M), i + k = n → k < f → k < g → K + k ≤ 300000 → gr_H K T σ0 τ0 n u σ τ → (∀ j, j < i → ¬ σ (682 + j) 10 = 2) → ∃ (σ' τ' : gx_M), fn_Ro_releaseReserved_L2 N 24 f (nI i) σ = some σ' ∧ fn_Mo_crash_L86 N u3 g (nI i) τ = gx_bd (fn_Mo_wake N ((1 : Int32)) τ') (fun r_7 σ_5 => fn_Mo_crash_L137 N u3 N ((0 : Int32)) σ_5) ∧ gr_H (K + k) T σ0 τ0 n u σ' τ' ∧ (∀ j, j < n → ¬ σ' (682 + j) 10 = 2) := by
  intro k
  induction k with
  | zero =>
    intro i f g K σ τ hi hf hg hK hH hnr
    obtain ⟨f, rfl⟩ : ∃ z, f = z + 1 := ⟨f - 1, by omega⟩
    obtain ⟨g, rfl⟩ : ∃ z, g = z + 1 := ⟨g - 1, by omega⟩
    have h40 := hH.2.1.1.2
    obtain rfl : i = n := by omega
    rw [fn_Ro_releaseReserved_L2, fn_Mo_crash_L86, hH.2.1.1.1, hH.2.1.2.1.1, if_pos (gp_le.mpr (Int.le_refl _)), if_pos (gp_le.mpr (Int.le_refl _))]
    exact ⟨_, _, rfl, rfl, hH.mono (by omega) (by omega) (Int.le_refl _), hnr⟩
  | succ k ih =>
    intro i f g K σ τ hi hf hg hK hH hnr
    obtain ⟨f, rfl⟩ : ∃ z, f = z + 1 := ⟨f - 1, by omega⟩
    obtain ⟨g, rfl⟩ : ∃ z, g = z + 1 := ⟨g - 1, by omega⟩
    have hM := hH.2.1
    have h40 := hM.1.2
    have hin : i < n := by omega
    have hI := gp_in (i := i) (n := 40) (M := 40) (by omega) (by decide) (by decide)
    have hni : ¬ nI n ≤ nI i := by rw [gp_ge (by omega) (by omega)]; omega
    rw [fn_Ro_releaseReserved_L2, fn_Mo_crash_L86, hM.1.1, hM.2.1.1, if_neg hni, if_neg hni, if_pos hI, if_pos hI, gp_el (by omega), gp_se11 (by omega), gp_bv, gp_of9 (by omega), gp_bd, gp_un (show ¬ (729 = 729 ∧ 13 * i + 9 = 13 * i + 11) by omega), ← gr_10 hM hin, gp_s]
    by_cases c : σ (682 + i) 10 = 2
    · have h1 := gr_enter (s := 1) hM hin (Or.inl rfl) (by omega)
      have h2 := gr_wk (j := i) (v := -1) h1.1 (fun _ => by rw [gr_ec_10]; decide)
      have hH2 := hH.step h2 (by omega) h1.2.1 (h1.2.2.tr gr_Am.up)
      rw [if_pos c, if_pos c, gr_enter_c (by omega), gp_bv, gr_enter_m (by omega), gp_bv, gr_emc]
      obtain ⟨σ', τ', e1, e2, e3, e4⟩ := ih (i + 1) f g (K + 1) _ _ (by omega) (by omega) (by omega) (by omega) hH2 (fun j hj => by
        by_cases hji : j = i
        · subst hji
          rw [gr_ec_10]
          decide
        · rw [gr_ec_n (by omega)]
          exact hnr j (by omega))
      exact ⟨σ', τ', e1, e2, e3.mono (by omega) (by omega) (Int.le_refl _), e4⟩
    · have h2 := gr_wk (j := i) (v := -1) hM (fun _ => c)
      have hH2 := hH.step h2 (Int.le_refl _) gr_Ac.rf gr_Am.up
      rw [if_neg c, if_neg c]
      obtain ⟨σ', τ', e1, e2, e3, e4⟩ := ih (i + 1) f g K _ _ (by omega) (by omega) (by omega) (by omega) hH2 (fun j hj => by
        by_cases hji : j = i
        · subst hji
          exact c
        · exact hnr j (by omega))
      exact ⟨σ', τ', e1, e2, e3.mono (by omega) (by omega) (Int.le_refl _), e4⟩
/-- the queues begin again -/
theorem gc_again {N : Nat} {K T : Int} {σ0 τ0 : gx_M} {n u : Nat} {u3 : Int32} (hN : 520 < N) : ∀ (k v f g : Nat) (σ τ : gx_M), v + k = 4 → k < f → k < g → gr_H K T σ0 τ0 n u σ τ → ∃ (σ' τ' : gx_M), fn_Bo_crash_L34 N u3 f (nI v) σ = some (u3, σ') ∧ fn_Mo_crash_L137 N u3 g (nI v) τ = some (u3, τ') ∧ gr_R K T σ0 τ0 σ' τ' := by
  intro k
  induction k with
  | zero =>
    intro v f g σ τ hv hf hg hH
    obtain ⟨f, rfl⟩ : ∃ z, f = z + 1 := ⟨f - 1, by omega⟩
    obtain ⟨g, rfl⟩ : ∃ z, g = z + 1 := ⟨g - 1, by omega⟩
    obtain rfl : v = 4 := by omega
    obtain ⟨s1, s2, s3, s4, s5⟩ := id hH.2.2.2.2.2.2
    have hH1 : gr_H K T σ0 τ0 n u (gx_up σ 0 5 (-1)) (gx_up τ 722 8 (-1)) := by
      refine hH.side (T' := T) (fun o k ho => gp_un (by omega)) (fun o k ho => gp_un (by omega)) (hH.2.2.2.2.2.1.keep (fun q hq b => gp_un (by omega)) (gp_un (by omega)) (fun o b g1 g2 => gp_un (by omega))) ⟨?_, ?_, ?_, ?_, ?_⟩
      · rw [gp_un (by omega), gp_un (by omega)]; exact s1
      · rw [gp_un (by omega), gp_un (by omega)]; exact s2
      · rw [gp_un (by omega)]; exact s3
      · rw [gp_us, gp_us]
      · rw [gp_us]; decide
    have e1 := gr_snap hH1 (v := 0) (by omega) (by omega)
    rw [fn_Bo_crash_L34, fn_Mo_crash_L137, if_pos (show (4 : Int32) ≤ nI 4 by decide), if_pos (show (4 : Int32) ≤ nI 4 by decide), gp_lt', gr_flush_c hH1 hN, gp_bd, gp_lt', gp_lt', show fn_Mo_store N 0 (gx_up (gx_up τ 722 8 (-1)) 722 11 0) = _ from gj_store (p := 0) (by omega) hN, gp_bv]
    exact ⟨_, _, rfl, rfl, n, 0, e1.1, e1.2⟩
  | succ k ih =>
    intro v f g σ τ hv hf hg hH
    obtain ⟨f, rfl⟩ : ∃ z, f = z + 1 := ⟨f - 1, by omega⟩
    obtain ⟨g, rfl⟩ : ∃ z, g = z + 1 := ⟨g - 1, by omega⟩
    have hv4 : v < 4 := by omega
    have hin := gp_in (i := v) (n := 4) (M := 4) hv4 (by decide) (by decide)
    have h4 : ¬ (4 : Int32) ≤ nI v := by rw [gp_le, gp_t4, gp_nI (by omega)]; omega
    obtain ⟨⟨a0, a1, a2, a3, a4, a5⟩, b0, b2, b3, b4, b5⟩ := hH.2.2.2.2.2.1 v hv4
    rw [fn_Bo_crash_L34, fn_Mo_crash_L137, if_neg h4, if_neg h4, if_pos hin, if_pos hin, gp_elq hv4, gp_cl (by omega), gp_lt', if_pos hin, if_pos hin, gp_lt']
    unfold fn_Qu_restart
    rw [if_pos (show 2 ≤ 2 + v ∧ 2 + v < 6 by omega), gp_lt', gp_lt', gp_bv, gp_un (show ¬ (2 + v = 2 + v ∧ 2 = 1) by omega), gp_un (show ¬ (725 = 724 ∧ v = v) by omega), ← a2, gp_s]
    refine ih (v + 1) f g _ _ (by omega) (by omega) (by omega) (hH.side (T' := T) (fun o k ho => ?_) (fun o k ho => ?_) (hH.2.2.2.2.2.1.set v (fun x k hx hxq _ => ?_) (fun x k hx hxq _ => ?_) ?_ ?_) ?_)
    · rw [gp_un (by omega), gp_un (by omega)]
    · rw [gp_un (by omega), gp_un (by omega)]
    · rw [gp_un (by omega), gp_un (by omega)]
    · rw [gp_un (by omega), gp_un (by omega)]
    · rw [gp_un (by omega), gp_un (by omega)]
    · exact gr_V.of ((gp_un (by omega)).trans (gp_un (by omega))) ((gp_un (by omega)).trans gp_us) ((gp_un (by omega)).trans (gp_un (by omega))) gp_us ((gp_un (by omega)).trans (gp_un (by omega))) ((gp_un (by omega)).trans (gp_un (by omega))) (((gp_un (by omega)).trans (gp_un (by omega))).trans a0.symm) ((gp_un (by omega)).trans gp_us) (((gp_un (by omega)).trans (gp_un (by omega))).trans a2.symm) gp_us (((gp_un (by omega)).trans (gp_un (by omega))).trans a4.symm) (((gp_un (by omega)).trans (gp_un (by omega))).trans a5.symm) ⟨b0, b2, ⟨b2.1, Int.le_refl _⟩, b4, b5⟩
    · unfold gr_S
      rw [gp_un (by omega), gp_un (by omega), gp_un (by omega), gp_un (by omega), gp_un (by omega), gp_un (by omega), gp_un (by omega), gp_un (by omega), gp_un (by omega), gp_un (by omega), gp_un (by omega), gp_un (by omega)]
      exact hH.2.2.2.2.2.2

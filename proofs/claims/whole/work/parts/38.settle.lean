theorem gp_k40 {v : Nat} (hv : v ≤ 1000000) : ((40 : Int32) ≤ nI v) ↔ 40 ≤ v := gp_ge (i := v) (n := 40) hv (by decide)
theorem gr_M.up {K K' : Int} {n : Nat} {σ τ : gx_M} (h : gr_M K n σ τ) (hK : K ≤ K') (h2 : K' < 1000000000) : gr_M K' n σ τ := by
  obtain ⟨q1, q2, q3, q4, q5, q6, q7⟩ := h
  exact ⟨q1, q2, q3.mono hK (Int.le_refl _) (Int.le_refl _), by omega, by omega, by omega, by omega⟩
theorem gr_seen {K : Int} {n k : Nat} {σ τ : gx_M} {v : Int32} (h : gr_M K n σ τ) : gr_M K n σ (gx_up τ 732 k v) := by
  obtain ⟨q1, q2, q3, q4, q5, q6⟩ := h
  refine ⟨q1, ⟨by rw [gp_un (by omega)]; exact q2.1, q2.2⟩, ?_, q4, by rw [gp_un (by omega)]; exact q5, q6⟩
  rw [gp_un (show ¬ (722 = 732 ∧ 10 = k) by omega)]
  refine q3.congr (fun _ _ _ _ => rfl) (fun i hi f hf => ?_)
  show gx_up τ 732 k v 729 (13 * i + f) = τ 729 (13 * i + f)
  rw [gp_un (by omega)]
/-- one settled: the class and the reference in step -/
theorem gr_one {N : Nat} {K : Int} {n x : Nat} {σ τ : gx_M} {t : Int32} (h : gr_M K n σ τ) (hN : 40 < N) (hx : x < n) (hd : gp_tP σ t x = true) (ht : τ 722 1 = t) (htt : 0 ≤ t.toInt ∧ t.toInt ≤ 1000000) (hK : K < 999999990) : ∃ σ' τ', (if σ (682 + x) 10 = 2 then fn_Ro_failReserved N 24 (682 + x) t σ else fn_Ro_enter N 24 (682 + x) 1 σ) = some σ' ∧ (if τ 729 (13 * x + 9) = 2 then fn_Mo_failing N (nI x) (gx_up τ 732 x 1) else fn_Mo_ready N (nI x) (gx_up τ 732 x 1)) = some τ' ∧ gr_M (K + 2) n σ' τ' ∧ gr_Ac σ σ' ∧ gr_Am τ τ' ∧ gp_tP σ' t x = false ∧ (∀ i, i < n → i ≠ x → gp_tP σ' t i = gp_tP σ t i) ∧ (∀ i, i < 40 → τ' 732 i = if i = x then 1 else τ 732 i) ∧ (∀ i, i < n → σ' (682 + i) 10 = 2 → σ (682 + i) 10 = 2) := by
  have h40 := h.1.2
  have e10 : σ (682 + x) 10 = τ 729 (13 * x + 9) := (h.2.2.1.1 x hx).1.2.2.2.2.2.2.2.2.2.2
  have h0 := gr_seen (k := x) (v := 1) h
  have z0 : ∀ i, i < 40 → gx_up τ 732 x 1 732 i = if i = x then 1 else τ 732 i := by
    intro i hi
    by_cases hix : i = x
    · subst hix; rw [gp_us, if_pos rfl]
    · rw [gp_un (by omega), if_neg hix]
  have others : ∀ σ' : gx_M, (∀ i, i < n → i ≠ x → σ' (682 + i) 11 = σ (682 + i) 11 ∧ (σ' (682 + i) 10 = σ (682 + i) 10 ∨ (σ (682 + i) 10 = 5 ∧ σ' (682 + i) 10 = 7))) → ∀ i, i < n → i ≠ x → gp_tP σ' t i = gp_tP σ t i := by
    intro σ' ho i hi hix
    obtain ⟨o1, o2⟩ := ho i hi hix
    show decide _ = decide _
    rw [o1]
    rcases o2 with o2 | ⟨o2, o3⟩
    · rw [o2]
    · rw [o2, o3, decide_eq_decide]
      constructor
      · rintro ⟨hh, -⟩
        rcases hh with hh | hh | hh <;> exact absurd hh (by decide)
      · rintro ⟨hh, -⟩
        rcases hh with hh | hh | hh <;> exact absurd hh (by decide)
  by_cases hs : σ (682 + x) 10 = 2
  · rw [if_pos hs, if_pos (by rw [← e10]; exact hs)]
    obtain ⟨σ', τ', q1, q2, q3, q4, q5, q6, q7, q8⟩ := gr_fail (t := t) h0 hN hx hs (by rw [gp_un (by omega)]; exact ht) hK
    refine ⟨σ', τ', q1, q2, q3, q4, gr_Am.uz.tr q5, ?_, others σ' q7, fun i hi => (q8 i hi).trans (z0 i hi), fun i hi hh => ?_⟩
    · cases hp : gp_tP σ' t x with
      | false => rfl
      | true =>
        have hp : (σ' (682 + x) 10 = 0 ∨ σ' (682 + x) 10 = 3 ∨ σ' (682 + x) 10 = 2) ∧ σ' (682 + x) 11 ≤ t := by simpa using hp
        obtain ⟨d, d1, d2, d3⟩ := q6 (by unfold gr_tm; rcases hp.1 with g | g | g; exact Or.inl g; exact Or.inr (Or.inr g); exact Or.inr (Or.inl g))
        have hle := gp_le.mp hp.2
        rw [d3, gp_add (by rw [gp_nI (by omega)]; omega) (by rw [gp_nI (by omega)]; omega), gp_nI (by omega)] at hle
        omega
    · by_cases hix : i = x
      · subst hix; exact hs
      · rcases (q7 i hi hix).2 with g | ⟨g1, g2⟩
        · rw [← g]; exact hh
        · rw [g2] at hh
          exact absurd hh (by decide)
  · rw [if_neg hs, if_neg (by rw [← e10]; exact hs), gr_enter_c (by omega), gr_enter_m (by omega)]
    obtain ⟨q1, q2, q3⟩ := gr_enter (s := 1) h0 hx (Or.inl rfl) (by omega)
    refine ⟨_, _, rfl, rfl, q1.up (by omega) (by omega), q2, gr_Am.uz.tr q3, ?_, others _ (fun i hi hix => ⟨gr_ec_n (by omega), Or.inl (gr_ec_n (by omega))⟩), fun i hi => by rw [gr_em_n (by omega)]; exact z0 i hi, fun i hi hh => ?_⟩
    · have e : gr_ec σ x 1 (682 + x) 10 = 1 := gr_ec_10
      show decide ((gr_ec σ x 1 (682 + x) 10 = 0 ∨ gr_ec σ x 1 (682 + x) 10 = 3 ∨ gr_ec σ x 1 (682 + x) 10 = 2) ∧ _) = false
      rw [e]
      exact decide_eq_false (fun hh => by rcases hh.1 with g | g | g <;> exact absurd g (by decide))
    · by_cases hix : i = x
      · subst hix
        have e : gr_ec σ i 1 (682 + i) 10 = 1 := gr_ec_10
        rw [e] at hh
        exact absurd hh (by decide)
      · rw [gr_ec_n (by omega)] at hh
        exact hh
theorem gr_settle {N : Nat} {n : Nat} {t u : Int32} (hN : 40 < N) (htt : 0 ≤ t.toInt ∧ t.toInt ≤ 1000000) : ∀ (d : Nat) (K : Int) (σ τ : gx_M) (v f g : Nat), gr_M K n σ τ → τ 722 1 = t → K + 2 * d < 999999990 → gp_cn (gp_tP σ t) n 0 0 = d → v + d ≤ n → d < f → d < g → (∀ i, i < n → τ 732 i = 0 ∨ (τ 732 i = 1 ∧ gp_tP σ t i = false)) → (u = 0 ∨ ∀ i, i < n → ¬ σ (682 + i) 10 = 2) → ∃ (σ' τ' : gx_M), fn_Ro_settleDue_L2 N 24 t f (nI v) σ = some (nI (v + d), σ') ∧ fn_Mo_wake_L25 N u g (nI v) (nI v) τ = some (nI (v + d), τ') ∧ gr_M (K + 2 * d) n σ' τ' ∧ gr_Ac σ σ' ∧ gr_Am τ τ' ∧ (d = 0 → σ' = σ ∧ τ' = τ) := by
  intro d
  induction d with
  | zero =>
    intro K σ τ v f g h ht hK hd hv hf hg hz hu
    have h40 := h.1.2
    obtain ⟨f, rfl⟩ : ∃ q, f = q + 1 := ⟨f - 1, by omega⟩
    obtain ⟨g, rfl⟩ : ∃ q, g = q + 1 := ⟨g - 1, by omega⟩
    have hno := gp_cn_0 hd
    refine ⟨σ, τ, ?_, ?_, h.up (by omega) (by omega), gr_Ac.rf, gr_Am.rf, fun _ => ⟨rfl, rfl⟩⟩
    · rw [fn_Ro_settleDue_L2, h.1.1]
      by_cases hvn : n ≤ v
      · rw [if_pos (by rw [gp_ge (by omega) (by omega)]; exact hvn), show v + 0 = n by omega]
      · rw [if_neg (by rw [gp_ge (by omega) (by omega)]; exact hvn), gp_nextDue h.1 hN, gp_bd]
        have e : gp_fm (gp_tP σ t) (gp_tL σ) n 0 none = none := by
          cases hf : gp_fm (gp_tP σ t) (gp_tL σ) n 0 none with
          | none => rfl
          | some x =>
            rcases gp_fm_s hf with hh | ⟨-, h1, h2⟩
            · cases hh
            · rw [hno x (by omega) h1] at h2
              cases h2
        rw [e]
        rfl
    · rw [fn_Mo_wake_L25]
      by_cases hv40 : 40 ≤ v
      · rw [if_pos ((gp_k40 (by omega)).mpr hv40)]
        rfl
      · rw [if_neg (fun hh => hv40 ((gp_k40 (by omega)).mp hh))]
        have e := gp_wscan (N := N) (u3 := nI v) (u2 := nI v) (u1 := u) (k25 := fn_Mo_wake_L25 N u g) h.2.1 n 0 N none (by omega) (by omega) (fun x h => by cases h)
        rw [show fn_Mo_wake_L37 N (nI v) (nI v) u (fn_Mo_wake_L25 N u g) N 0 (-1) τ = _ from e]
        have e2 : gp_fm (gp_wP τ u) (gp_wL τ) n 0 none = none := by
          cases hf : gp_fm (gp_wP τ u) (gp_wL τ) n 0 none with
          | none => rfl
          | some x =>
            rcases gp_fm_s hf with hh | ⟨-, h1, h2⟩
            · cases hh
            · exfalso
              have hJ := h.2.2.1.1 x (by omega)
              have e10 : σ (682 + x) 10 = τ 729 (13 * x + 9) := hJ.1.2.2.2.2.2.2.2.2.2.2
              have h2 : (τ 729 (13 * x + 9) = 0 ∨ τ 729 (13 * x + 9) = 3 ∨ (τ 729 (13 * x + 9) = 2 ∧ u = 0)) ∧ τ 729 (13 * x + 10) ≤ τ 722 1 ∧ τ 732 x = 0 := by simpa using h2
              have h3 : ¬ ((σ (682 + x) 10 = 0 ∨ σ (682 + x) 10 = 3 ∨ σ (682 + x) 10 = 2) ∧ σ (682 + x) 11 ≤ t) := by simpa using hno x (by omega) h1
              have htm : gr_tm (σ (682 + x) 10) := by
                unfold gr_tm
                rw [e10]
                rcases h2.1 with q | q | q
                · exact Or.inl q
                · exact Or.inr (Or.inr q)
                · exact Or.inr (Or.inl q.1)
              have e11 : σ (682 + x) 11 = τ 729 (13 * x + 10) := hJ.2.1 htm
              refine h3 ⟨?_, by rw [e11, ← ht]; exact h2.2.1⟩
              rcases htm with q | q | q
              · exact Or.inl q
              · exact Or.inr (Or.inr q)
              · exact Or.inr (Or.inl q)
        rw [e2]
        rfl
  | succ d ih =>
    intro K σ τ v f g h ht hK hd hv hf hg hz hu
    have h40 := h.1.2
    obtain ⟨f, rfl⟩ : ∃ q, f = q + 1 := ⟨f - 1, by omega⟩
    obtain ⟨g, rfl⟩ : ∃ q, g = q + 1 := ⟨g - 1, by omega⟩
    have eP : ∀ i, i < n → gp_tP σ t i = gp_wP τ u i := by
      intro i hi
      have hJ := h.2.2.1.1 i hi
      have e10 : σ (682 + i) 10 = τ 729 (13 * i + 9) := hJ.1.2.2.2.2.2.2.2.2.2.2
      show decide _ = decide _
      rw [decide_eq_decide]
      constructor
      · rintro ⟨h1, h2⟩
        have htm : gr_tm (σ (682 + i) 10) := by
          unfold gr_tm
          rcases h1 with q | q | q
          · exact Or.inl q
          · exact Or.inr (Or.inr q)
          · exact Or.inr (Or.inl q)
        have e11 : σ (682 + i) 11 = τ 729 (13 * i + 10) := hJ.2.1 htm
        refine ⟨?_, by rw [← e11, ht]; exact h2, ?_⟩
        · rw [← e10]
          rcases h1 with q | q | q
          · exact Or.inl q
          · exact Or.inr (Or.inl q)
          · rcases hu with hu | hu
            · exact Or.inr (Or.inr ⟨q, hu⟩)
            · exact absurd q (hu i hi)
        · rcases hz i hi with q | ⟨-, q⟩
          · exact q
          · have : gp_tP σ t i = true := by simp only [decide_eq_true_eq]; exact ⟨h1, h2⟩
            rw [q] at this
            cases this
      · rintro ⟨h1, h2, h3⟩
        have htm : gr_tm (σ (682 + i) 10) := by
          unfold gr_tm
          rw [e10]
          rcases h1 with q | q | q
          · exact Or.inl q
          · exact Or.inr (Or.inr q)
          · exact Or.inr (Or.inl q.1)
        have e11 : σ (682 + i) 11 = τ 729 (13 * i + 10) := hJ.2.1 htm
        refine ⟨?_, by rw [e11, ← ht]; exact h2⟩
        rcases htm with q | q | q
        · exact Or.inl q
        · exact Or.inr (Or.inr q)
        · exact Or.inr (Or.inl q)
    have eF : gp_fm (gp_tP σ t) (gp_tL σ) n 0 none = gp_fm (gp_wP τ u) (gp_wL τ) n 0 none := by
      refine gp_fm_c (fun i _ hi => eP i (by omega)) (fun a c ha hc => ?_)
      rcases ha with ha | ⟨-, ha, pa⟩
      · cases ha
      rcases hc with hc | ⟨-, hc, pc⟩
      · cases hc
      have tm : ∀ i, i < n → gp_tP σ t i = true → σ (682 + i) 11 = τ 729 (13 * i + 10) := by
        intro i hi hp
        have hp : (σ (682 + i) 10 = 0 ∨ σ (682 + i) 10 = 3 ∨ σ (682 + i) 10 = 2) ∧ σ (682 + i) 11 ≤ t := by simpa using hp
        refine (h.2.2.1.1 i hi).2.1 ?_
        unfold gr_tm
        rcases hp.1 with q | q | q
        · exact Or.inl q
        · exact Or.inr (Or.inr q)
        · exact Or.inr (Or.inl q)
      show decide _ = decide _
      rw [tm a (by omega) pa, tm c (by omega) pc]
    cases hx : gp_fm (gp_tP σ t) (gp_tL σ) n 0 none with
    | none =>
      exfalso
      have hall := (gp_fm_n hx).2
      have e0 : gp_cn (gp_tP σ t) n 0 0 = gp_cn (fun _ => false) n 0 0 := gp_cn_c (fun i _ hi => hall i (by omega) (by omega))
      have hzz : ∀ k i, gp_cn (fun _ => false) k i 0 = 0 := by
        intro k
        induction k with
        | zero => intro i; rfl
        | succ k ih => intro i; rw [gp_cn_e]; exact ih (i + 1)
      rw [e0, hzz n 0] at hd
      omega
    | some x =>
      have hxn : x < n ∧ gp_tP σ t x = true := by
        rcases gp_fm_s hx with hh | ⟨-, h1, h2⟩
        · cases hh
        · exact ⟨by omega, h2⟩
      obtain ⟨σ1, τ1, q1, q2, q3, q4, q5, q6, q7, q8, q9⟩ := gr_one h hN hxn.1 hxn.2 ht htt (by omega)
      have hd1 : gp_cn (gp_tP σ1 t) n 0 0 = d := by
        have := gp_cn_sub hxn.2 q6 (k := n) (i := 0) (by omega) (by omega) (fun j _ hj hjx => q7 j (by omega) hjx)
        omega
      obtain ⟨σ', τ', r1, r2, r3, r4, r5, r6⟩ := ih (K + 2) σ1 τ1 (v + 1) f g q3 (by rw [q5.1 722 1 (by omega) (by omega) (by omega)]; exact ht) (by omega) hd1 (by omega) (by omega) (by omega) (fun i hi => by
        rw [q8 i (by omega)]
        by_cases hix : i = x
        · subst hix
          rw [if_pos rfl]
          exact Or.inr ⟨rfl, q6⟩
        · rw [if_neg hix, q7 i hi hix]
          exact hz i hi) (by
        rcases hu with hu | hu
        · exact Or.inl hu
        · exact Or.inr (fun i hi hh => hu i hi (q9 i hi hh)))
      refine ⟨σ', τ', ?_, ?_, by rw [show K + 2 * ((d + 1 : Nat) : Int) = K + 2 + 2 * (d : Int) by omega]; exact r3, q4.tr r4, q5.tr r5, fun hh => by omega⟩
      · rw [fn_Ro_settleDue_L2, h.1.1, if_neg (by rw [gp_ge (by omega) (by omega)]; omega), gp_nextDue h.1 hN, gp_bd, hx, gp_ms', if_pos (by omega), gp_s, show v + (d + 1) = v + 1 + d by omega, ← r1]
        by_cases hs : σ (682 + x) 10 = 2
        · rw [if_pos hs] at q1 ⊢
          rw [q1, gp_bv]
        · rw [if_neg hs] at q1 ⊢
          rw [q1, gp_bv]
      · rw [fn_Mo_wake_L25, if_neg (fun hh => by have := (gp_k40 (by omega)).mp hh; omega)]
        have e := gp_wscan (N := N) (u3 := nI v) (u2 := nI v) (u1 := u) (k25 := fn_Mo_wake_L25 N u g) h.2.1 n 0 N none (by omega) (by omega) (fun x h => by cases h)
        rw [show fn_Mo_wake_L37 N (nI v) (nI v) u (fn_Mo_wake_L25 N u g) N 0 (-1) τ = _ from e, ← eF, hx, show v + (d + 1) = v + 1 + d by omega, ← r2]
        unfold gp_wt
        dsimp only
        rw [gp_s]
        by_cases hs : τ 729 (13 * x + 9) = 2
        · rw [if_pos hs] at q2 ⊢
          rw [q2, gp_bv]
        · rw [if_neg hs] at q2 ⊢
          rw [q2, gp_bv]

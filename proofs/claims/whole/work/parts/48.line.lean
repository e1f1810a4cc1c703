/-! THE LINE: a strict order of the READY ones of a queue -/
def gq_or (P : Nat → Bool) (lt : Nat → Nat → Bool) (n : Nat) : Prop := (∀ a, a < n → P a = true → lt a a = false) ∧ (∀ a b c, a < n → b < n → c < n → P a = true → P b = true → P c = true → lt a b = true → lt b c = true → lt a c = true) ∧ ∀ a b, a < n → b < n → P a = true → P b = true → a = b ∨ lt a b = true ∨ lt b a = true
theorem gq_min {Q : Nat → Bool} {lt : Nat → Nat → Bool} {n : Nat} (ho : gq_or Q lt n) : ∀ (k i : Nat) (b : Option Nat) (x : Nat), i + k ≤ n → (∀ y, b = some y → y < n ∧ Q y = true) → gp_fm Q lt k i b = some x → ∀ y, (b = some y ∨ (i ≤ y ∧ y < i + k ∧ Q y = true)) → y = x ∨ lt x y = true := by
  intro k
  induction k with
  | zero =>
    intro i b x hi hb h y hy
    have h : b = some x := h
    rcases hy with hy | hy
    · rw [h] at hy
      cases hy
      exact Or.inl rfl
    · omega
  | succ k ih =>
    intro i b x hi hb h y hy
    rw [gp_fm_e] at h
    have hb' : ∀ y, gp_st Q lt i b = some y → y < n ∧ Q y = true := by
      intro z hz
      rcases gp_st_in hz with ⟨rfl, hq⟩ | hz
      · exact ⟨by omega, hq⟩
      · exact hb z hz
    have IH := ih (i + 1) _ x (by omega) hb' h
    by_cases hy2 : gp_st Q lt i b = some y ∨ (i + 1 ≤ y ∧ y < i + 1 + k ∧ Q y = true)
    · exact IH y hy2
    · -- y was set aside at i
      have hyn : y < n ∧ Q y = true := by
        rcases hy with hy | ⟨h1, h2, h3⟩
        · exact hb y hy
        · exact ⟨by omega, h3⟩
      have key : ∃ z, gp_st Q lt i b = some z ∧ lt z y = true := by
        rcases hy with hy | ⟨h1, h2, h3⟩
        · subst hy
          unfold gp_st at hy2 ⊢
          by_cases hq : Q i = true
          · rw [if_pos hq] at hy2 ⊢
            dsimp only at hy2 ⊢
            by_cases hl : lt i y = true
            · rw [if_pos hl]
              exact ⟨i, rfl, hl⟩
            · rw [if_neg hl] at hy2
              exact absurd (Or.inl rfl) hy2
          · rw [if_neg hq] at hy2
            exact absurd (Or.inl rfl) hy2
        · have hyi : y = i := by
            rcases Nat.lt_or_ge i y with g | g
            · exact absurd (Or.inr ⟨by omega, by omega, h3⟩) hy2
            · omega
          subst hyi
          unfold gp_st at hy2 ⊢
          rw [if_pos h3] at hy2 ⊢
          cases b with
          | none => exact absurd (Or.inl rfl) hy2
          | some z =>
            dsimp only at hy2 ⊢
            have hz := hb z rfl
            by_cases hl : lt y z = true
            · rw [if_pos hl] at hy2
              exact absurd (Or.inl rfl) hy2
            · rw [if_neg hl]
              refine ⟨z, rfl, ?_⟩
              rcases ho.2.2 y z (by omega) hz.1 h3 hz.2 with e | e | e
              · subst e
                rw [if_neg hl] at hy2
                exact absurd (Or.inl rfl) hy2
              · exact absurd e hl
              · exact e
      obtain ⟨z, hz, hzy⟩ := key
      have hz' := hb' z hz
      have hx : x < n ∧ Q x = true := by
        rcases gp_fm_s h with hh | ⟨h1, h2, h3⟩
        · exact hb' x hh
        · exact ⟨by omega, h3⟩
      rcases IH z (Or.inl hz) with e | e
      · subst e
        exact Or.inr hzy
      · exact Or.inr (ho.2.1 x z y hx.1 hz'.1 hyn.1 hx.2 hz'.2 hyn.2 e hzy)
/-- how many stand before j -/
abbrev gq_B (P : Nat → Bool) (lt : Nat → Nat → Bool) (n j : Nat) : Nat := gp_cn (fun i => P i && lt i j) n 0 0
/-- the k-th -/
def gq_X (P : Nat → Bool) (lt : Nat → Nat → Bool) (n : Nat) : Nat → Option Nat
  | 0 => gp_fm P lt n 0 none
  | k + 1 => match gq_X P lt n k with
    | none => none
    | some x => gp_fm (fun j => P j && lt x j) lt n 0 none
theorem gp_cn_mono {P Q : Nat → Bool} : ∀ {k i : Nat}, (∀ j, i ≤ j → j < i + k → P j = true → Q j = true) → gp_cn P k i 0 ≤ gp_cn Q k i 0
  | 0, _, _ => Nat.le_refl _
  | k + 1, i, h => by
    rw [gp_cn_e, gp_cn_e, gp_cn_a (P := P), gp_cn_a (P := Q)]
    have ih := gp_cn_mono (P := P) (Q := Q) (k := k) (i := i + 1) (fun j h1 h2 => h j (by omega) (by omega))
    by_cases hp : P i = true
    · rw [if_pos hp, if_pos (h i (by omega) (by omega) hp)]; omega
    · rw [if_neg hp]
      split <;> omega
theorem gq_or.sub {P : Nat → Bool} {lt : Nat → Nat → Bool} {n : Nat} (h : gq_or P lt n) (x : Nat) : gq_or (fun j => P j && lt x j) lt n := by
  have e : ∀ j, (P j && lt x j) = true → P j = true := fun j hj => by
    rw [Bool.and_eq_true] at hj
    exact hj.1
  exact ⟨fun a ha pa => h.1 a ha (e a pa), fun a b c ha hb hc pa pb pc => h.2.1 a b c ha hb hc (e a pa) (e b pb) (e c pc), fun a b ha hb pa pb => h.2.2 a b ha hb (e a pa) (e b pb)⟩
theorem gq_lt {P : Nat → Bool} {lt : Nat → Nat → Bool} {n x y : Nat} (ho : gq_or P lt n) (hx : x < n) (hy : y < n) (px : P x = true) (py : P y = true) (h : lt x y = true) : gq_B P lt n x < gq_B P lt n y := by
  have : gp_cn (fun i => if i = x then true else (P i && lt i x)) n 0 0 = gq_B P lt n x + 1 := by
    refine gp_cn_sub (x := x) (by simp) (by simp [ho.1 x hx px]) (by omega) (by omega) (fun j _ _ hjx => by simp [hjx])
  have h2 : gp_cn (fun i => if i = x then true else (P i && lt i x)) n 0 0 ≤ gq_B P lt n y := by
    refine gp_cn_mono (fun j _ hj hp => ?_)
    by_cases hjx : j = x
    · subst hjx
      simp [px, h]
    · simp only [hjx, if_false, Bool.and_eq_true] at hp
      rw [Bool.and_eq_true]
      exact ⟨hp.1, ho.2.1 j x y (by omega) hx hy hp.1 px py hp.2 h⟩
  omega
theorem gq_spec {P : Nat → Bool} {lt : Nat → Nat → Bool} {n : Nat} (ho : gq_or P lt n) : ∀ k, (∀ x, gq_X P lt n k = some x → x < n ∧ P x = true ∧ gq_B P lt n x = k) ∧ (gq_X P lt n k = none → ∀ j, j < n → P j = true → gq_B P lt n j < k) := by
  intro k
  induction k with
  | zero =>
    refine ⟨fun x hx => ?_, fun hx j hj hp => ?_⟩
    · have hx : gp_fm P lt n 0 none = some x := hx
      have hm := gq_min ho n 0 none x (by omega) (fun y hy => by cases hy) hx
      have hxp : x < n ∧ P x = true := by
        rcases gp_fm_s hx with hh | ⟨-, h1, h2⟩
        · cases hh
        · exact ⟨by omega, h2⟩
      refine ⟨hxp.1, hxp.2, ?_⟩
      have e : gq_B P lt n x = gp_cn (fun _ => false) n 0 0 := by
        refine gp_cn_c (fun i _ hi => ?_)
        cases hp : P i with
        | false => rfl
        | true =>
          cases hl : lt i x with
          | false => rfl
          | true =>
            exfalso
            rcases hm i (Or.inr ⟨by omega, hi, hp⟩) with e | e
            · subst e
              rw [ho.1 i (by omega) hp] at hl
              cases hl
            · have := ho.2.1 i x i (by omega) hxp.1 (by omega) hp hxp.2 hp hl e
              rw [ho.1 i (by omega) hp] at this
              cases this
      rw [e]
      have hz : ∀ k i, gp_cn (fun _ => false) k i 0 = 0 := by
        intro k
        induction k with
        | zero => intro i; rfl
        | succ k ih => intro i; rw [gp_cn_e]; exact ih (i + 1)
      exact hz n 0
    · have hx : gp_fm P lt n 0 none = none := hx
      rw [(gp_fm_n hx).2 j (by omega) (by omega)] at hp
      cases hp
  | succ k ih =>
    cases hk : gq_X P lt n k with
    | none =>
      have e : gq_X P lt n (k + 1) = none := by
        unfold gq_X
        rw [hk]
      rw [e]
      exact ⟨(fun x hx => by cases hx), fun _ j hj hp => (by have := ih.2 hk j hj hp; omega)⟩
    | some z =>
      have e : gq_X P lt n (k + 1) = gp_fm (fun j => P j && lt z j) lt n 0 none := by
        conv => lhs; unfold gq_X
        rw [hk]
      obtain ⟨hz, pz, bz⟩ := ih.1 z hk
      rw [e]
      refine ⟨fun x hx => ?_, fun hx j hj hp => ?_⟩
      · have hm := gq_min (ho.sub z) n 0 none x (by omega) (fun y hy => by cases hy) hx
        have hxp : x < n ∧ P x = true ∧ lt z x = true := by
          rcases gp_fm_s hx with hh | ⟨-, h1, h2⟩
          · cases hh
          · rw [Bool.and_eq_true] at h2
            exact ⟨by omega, h2.1, h2.2⟩
        refine ⟨hxp.1, hxp.2.1, ?_⟩
        have : gq_B P lt n x = gq_B P lt n z + 1 := by
          refine gp_cn_sub (x := z) (by simp [pz, hxp.2.2]) (by simp [ho.1 z hz pz]) (by omega) (by omega) (fun j _ hj hjz => ?_)
          cases hp : P j with
          | false => rfl
          | true =>
            simp only [Bool.true_and]
            cases h1 : lt j z with
            | true => rw [ho.2.1 j z x (by omega) hz hxp.1 hp pz hxp.2.1 h1 hxp.2.2]
            | false =>
              cases h2 : lt j x with
              | false => rfl
              | true =>
                exfalso
                rcases ho.2.2 j z (by omega) hz hp pz with e | e | e
                · exact hjz e
                · rw [e] at h1; cases h1
                · rcases hm j (Or.inr ⟨by omega, hj, by simp [hp, e]⟩) with g | g
                  · subst g
                    rw [ho.1 j (by omega) hp] at h2
                    cases h2
                  · have := ho.2.1 j x j (by omega) hxp.1 (by omega) hp hxp.2.1 hp h2 g
                    rw [ho.1 j (by omega) hp] at this
                    cases this
        omega
      · have hno := (gp_fm_n hx).2 j (by omega) (by omega)
        have hl : lt z j = false := by simpa [hp] using hno
        rcases ho.2.2 j z hj hz hp pz with g | g | g
        · subst g; omega
        · have := gq_lt ho hj hz hp pz g
          omega
        · rw [hl] at g; cases g
/-- the reference's way to the k-th -/
theorem gq_ff {P : Nat → Bool} {lt : Nat → Nat → Bool} {n : Nat} (ho : gq_or P lt n) (k : Nat) : gp_ff (fun j => P j && decide (gq_B P lt n j = k)) n 0 = gq_X P lt n k := by
  obtain ⟨h1, h2⟩ := gq_spec ho k
  cases hX : gq_X P lt n k with
  | none =>
    cases hf : gp_ff (fun j => P j && decide (gq_B P lt n j = k)) n 0 with
    | none => rfl
    | some y =>
      obtain ⟨-, g1, g2⟩ := gp_ff_s hf
      rw [Bool.and_eq_true, decide_eq_true_eq] at g2
      have := h2 hX y (by omega) g2.1
      omega
  | some x =>
    obtain ⟨a1, a2, a3⟩ := h1 x hX
    cases hf : gp_ff (fun j => P j && decide (gq_B P lt n j = k)) n 0 with
    | none =>
      have := gp_ff_n hf x (by omega) (by omega)
      simp [a2, a3] at this
    | some y =>
      obtain ⟨-, g1, g2⟩ := gp_ff_s hf
      rw [Bool.and_eq_true, decide_eq_true_eq] at g2
      rcases ho.2.2 x y a1 (by omega) a2 g2.1 with e | e | e
      · rw [e]
      · have := gq_lt ho a1 (by omega) a2 g2.1 e
        omega
      · have := gq_lt ho (by omega) a1 g2.1 a2 e
        omega
theorem gq_none {P : Nat → Bool} {lt : Nat → Nat → Bool} {n : Nat} : ∀ (k m : Nat), gq_X P lt n k = none → gq_X P lt n (k + m) = none
  | k, 0, h => h
  | k, m + 1, h => by
    have := gq_none k m h
    show gq_X P lt n (k + m + 1) = none
    unfold gq_X
    rw [this]

/-! THE RELATION of two tables of jobs: x, y a job's row in the class and in the reference -/
def gr_ln (s : Int32) : Prop := s = 1 ∨ s = 5
def gr_tm (s : Int32) : Prop := s = 0 ∨ s = 2 ∨ s = 3
def gr_J (K : Int) (n i : Nat) (x y : Nat → Int32) : Prop :=
  (x 0 = nI i ∧ x 1 = y 0 ∧ x 2 = y 1 ∧ x 3 = y 2 ∧ x 4 = y 3 ∧ x 5 = y 5 ∧ x 6 = y 4 ∧ x 7 = y 6 ∧ x 8 = y 7 ∧ x 9 = y 8 ∧ x 10 = y 9) ∧
  (gr_tm (x 10) → x 11 = y 10) ∧ (x 10 = 2 → x 12 = y 11 ∧ 0 ≤ x 12 ∧ x 12 ≤ 5) ∧
  (0 ≤ (x 3).toInt ∧ (x 3).toInt ≤ 5) ∧ (1 ≤ (x 4).toInt ∧ (x 4).toInt ≤ 50) ∧ (0 ≤ (x 6).toInt ∧ (x 6).toInt ≤ K) ∧
  (x 7 = -1 ∨ ∃ j, j < n ∧ x 7 = nI j) ∧ (x 9 = 0 ∨ x 9 = 1) ∧ (0 ≤ (x 10).toInt ∧ (x 10).toInt ≤ 7) ∧ -1 ≤ (x 5).toInt
/-- the order in which they came: by numbers of each side's own -/
def gr_O (n : Nat) (c m : Nat → Nat → Int32) (st od : Int32) : Prop :=
  (∀ i, i < n → gr_ln (c i 10) → 0 ≤ (c i 13).toInt ∧ (c i 13).toInt < st.toInt ∧ 0 ≤ (m i 12).toInt ∧ (m i 12).toInt < od.toInt) ∧
  ∀ i j, i < n → j < n → gr_ln (c i 10) → gr_ln (c j 10) → ((c i 13).toInt < (c j 13).toInt ↔ (m i 12).toInt < (m j 12).toInt) ∧ ((c i 13).toInt = (c j 13).toInt → i = j)
def gr_T (K : Int) (n : Nat) (c m : Nat → Nat → Int32) (st od : Int32) : Prop := (∀ i, i < n → gr_J K n i (c i) (m i)) ∧ gr_O n c m st od
theorem gr_J.congr {K : Int} {n i : Nat} {x y x' y' : Nat → Int32} (h : gr_J K n i x y) (hx : ∀ k, k < 14 → x' k = x k) (hy : ∀ f, f < 13 → y' f = y f) : gr_J K n i x' y' := by
  unfold gr_J at h ⊢
  rw [hx 0 (by decide), hx 1 (by decide), hx 2 (by decide), hx 3 (by decide), hx 4 (by decide), hx 5 (by decide), hx 6 (by decide), hx 7 (by decide), hx 8 (by decide), hx 9 (by decide), hx 10 (by decide), hx 11 (by decide), hx 12 (by decide), hy 0 (by decide), hy 1 (by decide), hy 2 (by decide), hy 3 (by decide), hy 4 (by decide), hy 5 (by decide), hy 6 (by decide), hy 7 (by decide), hy 8 (by decide), hy 9 (by decide), hy 10 (by decide), hy 11 (by decide)]
  exact h
theorem gr_J.mono {K K' : Int} {n n' i : Nat} {x y : Nat → Int32} (h : gr_J K n i x y) (hK : K ≤ K') (hn : n ≤ n') : gr_J K' n' i x y := by
  obtain ⟨h1, h2, h3, h4, h5, h6, h7, h8⟩ := h
  refine ⟨h1, h2, h3, h4, h5, ⟨h6.1, by omega⟩, ?_, h8⟩
  rcases h7 with h7 | ⟨j, hj, h7⟩
  · exact Or.inl h7
  · exact Or.inr ⟨j, by omega, h7⟩
theorem gr_T.congr {K : Int} {n : Nat} {c m c' m' : Nat → Nat → Int32} {st od : Int32} (h : gr_T K n c m st od) (hc : ∀ i, i < n → ∀ k, k < 14 → c' i k = c i k) (hm : ∀ i, i < n → ∀ f, f < 13 → m' i f = m i f) : gr_T K n c' m' st od := by
  refine ⟨fun i hi => (h.1 i hi).congr (hc i hi) (hm i hi), fun i hi hl => ?_, fun i j hi hj hl hl2 => ?_⟩
  · rw [hc i hi 10 (by decide)] at hl
    rw [hc i hi 13 (by decide), hm i hi 12 (by decide)]
    exact h.2.1 i hi hl
  · rw [hc i hi 10 (by decide)] at hl
    rw [hc j hj 10 (by decide)] at hl2
    rw [hc i hi 13 (by decide), hc j hj 13 (by decide), hm i hi 12 (by decide), hm j hj 12 (by decide)]
    exact h.2.2 i j hi hj hl hl2
theorem gr_T.mono {K K' : Int} {n : Nat} {c m : Nat → Nat → Int32} {st od st' od' : Int32} (h : gr_T K n c m st od) (hK : K ≤ K') (hs : st.toInt ≤ st'.toInt) (ho : od.toInt ≤ od'.toInt) : gr_T K' n c m st' od' := by
  refine ⟨fun i hi => (h.1 i hi).mono hK (Nat.le_refl _), fun i hi hl => ?_, h.2.2⟩
  have := h.2.1 i hi hl
  omega
/-- a job's row changes; its place in an order doesn't -/
theorem gr_T.set {K : Int} {n : Nat} {c m c' m' : Nat → Nat → Int32} {st od : Int32} (h : gr_T K n c m st od) (j : Nat) (hc : ∀ i, i < n → i ≠ j → ∀ k, k < 14 → c' i k = c i k) (hm : ∀ i, i < n → i ≠ j → ∀ f, f < 13 → m' i f = m i f) (hj : j < n → gr_J K n j (c' j) (m' j)) (hl : j < n → gr_ln (c' j 10) → gr_ln (c j 10) ∧ c' j 13 = c j 13 ∧ m' j 12 = m j 12) : gr_T K n c' m' st od := by
  have key : ∀ i, i < n → gr_ln (c' i 10) → gr_ln (c i 10) ∧ c' i 13 = c i 13 ∧ m' i 12 = m i 12 := by
    intro i hi h1
    by_cases hij : i = j
    · subst hij
      exact hl hi h1
    · rw [hc i hi hij 10 (by decide)] at h1
      exact ⟨h1, hc i hi hij 13 (by decide), hm i hi hij 12 (by decide)⟩
  refine ⟨fun i hi => ?_, fun i hi h1 => ?_, fun i k hi hk h1 h2 => ?_⟩
  · by_cases hij : i = j
    · subst hij
      exact hj hi
    · exact (h.1 i hi).congr (hc i hi hij) (hm i hi hij)
  · obtain ⟨q1, q2, q3⟩ := key i hi h1
    rw [q2, q3]
    exact h.2.1 i hi q1
  · obtain ⟨q1, q2, q3⟩ := key i hi h1
    obtain ⟨r1, r2, r3⟩ := key k hk h2
    rw [q2, q3, r2, r3]
    exact h.2.2 i k hi hk q1 r1
/-- a job comes into an order as the last -/
theorem gr_T.come {K : Int} {n : Nat} {c m c' m' : Nat → Nat → Int32} {st od st' od' : Int32} (h : gr_T K n c m st od) (j : Nat) (hc : ∀ i, i < n → i ≠ j → ∀ k, k < 14 → c' i k = c i k) (hm : ∀ i, i < n → i ≠ j → ∀ f, f < 13 → m' i f = m i f) (hj : j < n → gr_J K n j (c' j) (m' j)) (hcj : c' j 13 = st) (hmj : m' j 12 = od) (h0 : 0 ≤ st.toInt) (h1 : 0 ≤ od.toInt) (hs : st'.toInt = st.toInt + 1) (ho : od'.toInt = od.toInt + 1) : gr_T K n c' m' st' od' := by
  have key : ∀ i, i < n → i ≠ j → gr_ln (c' i 10) → gr_ln (c i 10) ∧ c' i 13 = c i 13 ∧ m' i 12 = m i 12 := by
    intro i hi hij h1
    rw [hc i hi hij 10 (by decide)] at h1
    exact ⟨h1, hc i hi hij 13 (by decide), hm i hi hij 12 (by decide)⟩
  refine ⟨fun i hi => ?_, fun i hi g1 => ?_, fun i k hi hk g1 g2 => ?_⟩
  · by_cases hij : i = j
    · subst hij
      exact hj hi
    · exact (h.1 i hi).congr (hc i hi hij) (hm i hi hij)
  · by_cases hij : i = j
    · subst hij
      rw [hcj, hmj]
      omega
    · obtain ⟨q1, q2, q3⟩ := key i hi hij g1
      rw [q2, q3]
      have := h.2.1 i hi q1
      omega
  · by_cases hij : i = j
    · subst hij
      by_cases hkj : k = i
      · subst hkj
        exact ⟨by omega, fun _ => rfl⟩
      · obtain ⟨r1, r2, r3⟩ := key k hk hkj g2
        rw [hcj, hmj, r2, r3]
        have := h.2.1 k hk r1
        exact ⟨by omega, fun _ => by omega⟩
    · obtain ⟨q1, q2, q3⟩ := key i hi hij g1
      by_cases hkj : k = j
      · subst hkj
        rw [hcj, hmj, q2, q3]
        have := h.2.1 i hi q1
        exact ⟨by omega, fun _ => by omega⟩
      · obtain ⟨r1, r2, r3⟩ := key k hk hkj g2
        rw [q2, q3, r2, r3]
        exact h.2.2 i k hi hk q1 r1
/-- a job more, in no order -/
theorem gr_T.push {K : Int} {n : Nat} {c m c' m' : Nat → Nat → Int32} {st od : Int32} (h : gr_T K n c m st od) (hc : ∀ i, i < n → ∀ k, k < 14 → c' i k = c i k) (hm : ∀ i, i < n → ∀ f, f < 13 → m' i f = m i f) (hj : gr_J K (n + 1) n (c' n) (m' n)) (hl : ¬ gr_ln (c' n 10)) : gr_T K (n + 1) c' m' st od := by
  have h2 := h.congr hc hm
  have key : ∀ i, i < n + 1 → gr_ln (c' i 10) → i < n := by
    intro i hi hli
    rcases Nat.lt_or_ge i n with hh | hh
    · exact hh
    · obtain rfl : i = n := by omega
      exact absurd hli hl
  refine ⟨fun i hi => ?_, fun i hi g1 => h2.2.1 i (key i hi g1) g1, fun i k hi hk g1 g2 => h2.2.2 i k (key i hi g1) (key k hk g2) g1 g2⟩
  by_cases hin : i = n
  · subst hin
    exact hj
  · exact (h2.1 i (by omega)).mono (Int.le_refl _) (by omega)

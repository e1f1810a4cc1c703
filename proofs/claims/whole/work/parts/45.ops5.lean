theorem gr_ack (N : Nat) (p : Int32) (hN : 520 < N) : gr_op (fn_Bo_ack N p) (fn_Mo_ack N p) := by
  intro K T σ0 τ0 σ τ h hK hT
  obtain ⟨n, u, hH, hE⟩ := id h
  have hM := hH.2.1
  have h40 := hM.1.2
  have hR := h.mono (K' := K + 200) (T' := T + 1000) (by omega) (by omega) (by omega)
  unfold fn_Bo_ack fn_Mo_ack
  rw [gp_rby hM.1 (by omega), gp_bd, gp_mout, gp_bd, gp_i01]
  cases hf : gp_ff (fun j => decide (σ (682 + j) 10 = 2 ∧ σ (682 + j) 12 = p)) n 0 with
  | none =>
    rw [gp_mn']
    have hf2 := (gr_ff hM p).symm.trans hf
    by_cases hp : 0 ≤ p ∧ p ≤ 5
    · rw [if_pos hp, gp_mholdN hM.2.1 (by omega) hp hf2, gp_bd, if_neg (by decide)]
      exact ⟨_, _, _, rfl, rfl, hR⟩
    · rw [if_neg hp]
      exact ⟨_, _, _, rfl, rfl, hR⟩
  | some j =>
    obtain ⟨hj, hs, hp⟩ := gr_ffw hM hf
    have hf2 := (gr_ff hM p).symm.trans hf
    have hin := gp_in (i := j) (n := 40) (M := 40) (by omega) (by decide) (by decide)
    have hJ := hM.2.2.1.1 j hj
    have e7 : σ (682 + j) 7 = τ 729 (13 * j + 6) := hJ.1.2.2.2.2.2.2.2.1
    have c7 : σ (682 + j) 7 = -1 ∨ ∃ y, y < n ∧ σ (682 + j) 7 = nI y := hJ.2.2.2.2.2.2.1
    rw [gp_ms', if_pos (by omega), gp_lt', gp_un (show ¬ (682 + j = 682 + j ∧ 7 = 10) by omega), if_pos hp, gp_mholdY hM.2.1 (by omega) hp hf2, gp_bd, if_pos hin.1, gp_mholdY hM.2.1 (by omega) hp hf2, gp_bd, gp_of6 (by omega), gp_bd, gp_se9 (by omega), gp_bv, gp_se11 (by omega), gp_bv, ← e7]
    have h1 := gr_wk (j := j) (v := -1) (gr_still (s := 4) hM hj (Or.inl rfl)) (fun _ => by rw [gp_us]; decide)
    have a1 : gr_Ac σ (gx_up σ (682 + j) 10 4) := gr_Ac.up (by omega) (by decide)
    have m1 : gr_Am τ (gx_up (gx_up τ 729 (13 * j + 9) 4) 729 (13 * j + 11) (-1)) := gr_Am.up.tr gr_Am.up
    generalize gx_up σ (682 + j) 10 4 = σ1 at h1 a1 ⊢
    generalize gx_up (gx_up τ 729 (13 * j + 9) 4) 729 (13 * j + 11) (-1) = τ1 at h1 m1 ⊢
    rcases c7 with q | ⟨x, hx, q⟩
    · obtain ⟨σ2, τ2, w1, w2, w3, w4⟩ := gr_write (hH.step h1 (Int.le_refl _) a1 m1) hN
      have e0 : σ2 (682 + j) 0 = nI j := by rw [w4 j (by omega)]; exact (h1.2.2.1.1 j hj).1.1
      rw [q, gp_findN h1.1 (by rw [gp_tm1]; omega), gp_bd, gp_mn', w1, gp_bv, e0, if_pos (by decide), w2, gp_bv]
      exact ⟨_, _, _, rfl, rfl, w3.mono (by omega) (by omega) (by omega)⟩
    · have e8 : σ1 (682 + x) 8 = τ1 729 (13 * x + 7) := (h1.2.2.1.1 x hx).1.2.2.2.2.2.2.2.2.1
      have h2 := h1.mb (v := σ1 (682 + x) 8 - 1) hx trivial
      have a2 : gr_Ac σ (gx_up σ1 (682 + x) 8 (σ1 (682 + x) 8 - 1)) := a1.tr (gr_Ac.up (by omega) (by decide))
      have m2 : gr_Am τ (gx_up τ1 729 (13 * x + 7) (σ1 (682 + x) 8 - 1)) := m1.tr gr_Am.up
      rw [q, gp_findY h1.1 hx, gp_bd, gp_ms', if_pos (by omega), gp_lt', if_neg (gp_nI0 (by omega)), gp_of7 (by omega), gp_bd, ← e8, gp_se7 (by omega), gp_bv]
      generalize gx_up σ1 (682 + x) 8 (σ1 (682 + x) 8 - 1) = σ2 at h2 a2 ⊢
      generalize gx_up τ1 729 (13 * x + 7) (σ1 (682 + x) 8 - 1) = τ2 at h2 m2 ⊢
      have hJ2 := h2.2.2.1.1 x hx
      have f9 : σ2 (682 + x) 9 = τ2 729 (13 * x + 8) := hJ2.1.2.2.2.2.2.2.2.2.2.1
      have f8 : σ2 (682 + x) 8 = τ2 729 (13 * x + 7) := hJ2.1.2.2.2.2.2.2.2.2.1
      have s9 : σ2 (682 + x) 9 = 0 ∨ σ2 (682 + x) 9 = 1 := hJ2.2.2.2.2.2.2.2.1
      unfold fn_Ro_releaseIfComplete
      rw [if_pos (by decide), if_pos (by omega), gp_of9 (by omega), gp_bd, gp_of8 (by omega), gp_bd, gp_of7 (by omega), gp_bd, ← gr_10 h2 hx, ← f9, ← f8]
      have stay : ∃ (r : Int32) (σ' τ' : gx_M), gx_bv (some σ2) (fun σ_15 => gx_bv (fn_Jn_write N 24 σ_15) (fun σ_17 => some (σ_17 (682 + j) 0, σ_17))) = some (r, σ') ∧ gx_bv (fn_Mo_note N τ2) (fun σ_31 => some (nI j, σ_31)) = some (r, τ') ∧ gr_R (K + 200) (T + 1000) σ0 τ0 σ' τ' := by
        obtain ⟨σ3, τ3, w1, w2, w3, w4⟩ := gr_write (hH.step h2 (Int.le_refl _) a2 m2) hN
        have e0 : σ3 (682 + j) 0 = nI j := by rw [w4 j (by omega)]; exact (h2.2.2.1.1 j hj).1.1
        rw [gp_bv, w1, gp_bv, e0, w2, gp_bv]
        exact ⟨_, _, _, rfl, rfl, w3.mono (by omega) (by omega) (by omega)⟩
      by_cases c6 : σ2 (682 + x) 10 = 6
      · rw [if_pos c6, if_pos c6]
        rcases s9 with g | g
        · rw [g, if_pos rfl, if_neg (by decide)]
          exact stay
        · rw [g, if_neg (by decide), if_pos rfl]
          by_cases c8 : σ2 (682 + x) 8 = 0
          · rw [if_pos c8, if_pos c8, gr_enter_c (by omega), gp_bv, gp_bv, gr_enter_m (by omega), gp_bv]
            obtain ⟨q1, q2, q3⟩ := gr_enter (s := 1) h2 hx (Or.inl rfl) (by omega)
            obtain ⟨σ3, τ3, w1, w2, w3, w4⟩ := gr_write (hH.step q1 (by omega) (a2.tr q2) (m2.tr q3)) hN
            have e0 : σ3 (682 + j) 0 = nI j := by rw [w4 j (by omega)]; exact (q1.2.2.1.1 j hj).1.1
            rw [w1, gp_bv, e0, w2, gp_bv]
            exact ⟨_, _, _, rfl, rfl, w3.mono (by omega) (by omega) (by omega)⟩
          · rw [if_neg c8, if_neg c8]
            exact stay
      · rw [if_neg c6, if_neg c6]
        exact stay
/-! a job more -/
def gb_row (q r : Int32) (k : Nat) : Int32 := if k = 1 then q else if k = 2 then r else if k = 4 then 1 else if k = 5 then -1 else if k = 7 then -1 else if k = 10 then 6 else 0
def gb_c (σ : gx_M) (o : Nat) (q r : Int32) : gx_M := fun a b => if a = o ∧ 1 ≤ b ∧ b ≤ 13 then gb_row q r b else σ a b
theorem gb_begin {N o : Nat} {σ : gx_M} {q r : Int32} (ho : 42 ≤ o ∧ o < 722) : fn_Jb_begin N o q r σ = some (gb_c σ o q r) := by
  unfold fn_Jb_begin
  rw [if_pos ho]
  simp only [gp_lt']
  congr 1
  funext a b
  by_cases ha : a = o
  · subst ha
    rcases (show b = 0 ∨ b = 1 ∨ b = 2 ∨ b = 3 ∨ b = 4 ∨ b = 5 ∨ b = 6 ∨ b = 7 ∨ b = 8 ∨ b = 9 ∨ b = 10 ∨ b = 11 ∨ b = 12 ∨ b = 13 ∨ 14 ≤ b by omega) with rfl | rfl | rfl | rfl | rfl | rfl | rfl | rfl | rfl | rfl | rfl | rfl | rfl | rfl | hb
    all_goals first
      | (simp [gx_up, gb_c, gb_row]; done)
      | (unfold gb_c; rw [if_neg (by omega)]; repeat rw [gp_un (by omega)])
  · unfold gb_c
    rw [if_neg (by omega)]
    repeat rw [gp_un (by omega)]
def gm_z (τ : gx_M) (n v : Nat) : gx_M := fun a b => if a = 729 ∧ 13 * n ≤ b ∧ b < 13 * n + v then 0 else τ a b
def gm_row (q r l b k : Int32) (f : Nat) : Int32 := if f = 0 then q else if f = 1 then r else if f = 2 then l else if f = 3 then b else if f = 5 then k else if f = 6 then -1 else if f = 11 then -1 else 0
def gm_r (τ : gx_M) (n : Nat) (q r l b k : Int32) : gx_M := fun a c => if a = 729 ∧ 13 * n ≤ c ∧ c < 13 * n + 13 then gm_row q r l b k (c - 13 * n) else τ a c
theorem gp_k13 {v : Nat} (hv : v ≤ 1000000) : ((13 : Int32) ≤ nI v) ↔ 13 ≤ v := gp_ge (i := v) (n := 13) hv (by decide)
theorem gm_make_L {N n : Nat} {τ : gx_M} {q r l b k : Int32} (hn : n < 40) : ∀ (w v f : Nat), v + w = 13 → w < f → fn_Mo_make_L19 N (nI n) q r l b k f (nI v) (gm_z τ n v) = some (nI n, gm_r τ n q r l b k) := by
  intro w
  induction w with
  | zero =>
    intro v f hv hf
    obtain ⟨f, rfl⟩ : ∃ g, f = g + 1 := ⟨f - 1, by omega⟩
    obtain rfl : v = 13 := by omega
    rw [fn_Mo_make_L19, if_pos ((gp_k13 (by omega)).mpr (Nat.le_refl _)), gp_se0 hn, gp_bv, gp_se1 hn, gp_bv, gp_se2 hn, gp_bv, gp_se3 hn, gp_bv, gp_se5 hn, gp_bv, gp_se6 hn, gp_bv, gp_se11 hn, gp_bv]
    congr 2
    funext a c
    by_cases ha : a = 729 ∧ 13 * n ≤ c ∧ c < 13 * n + 13
    · obtain ⟨rfl, h1, h2⟩ := ha
      obtain ⟨f, rfl⟩ : ∃ f, c = 13 * n + f := ⟨c - 13 * n, by omega⟩
      unfold gm_r
      rw [if_pos (by omega), show 13 * n + f - 13 * n = f by omega]
      rcases (show f = 0 ∨ f = 1 ∨ f = 2 ∨ f = 3 ∨ f = 4 ∨ f = 5 ∨ f = 6 ∨ f = 7 ∨ f = 8 ∨ f = 9 ∨ f = 10 ∨ f = 11 ∨ f = 12 by omega) with rfl | rfl | rfl | rfl | rfl | rfl | rfl | rfl | rfl | rfl | rfl | rfl | rfl
      all_goals (simp [gx_up, gm_z, gm_row]; try omega)
    · unfold gm_r
      rw [if_neg ha]
      repeat rw [gp_un (by omega)]
      unfold gm_z
      rw [if_neg (by omega)]
  | succ w ih =>
    intro v f hv hf
    obtain ⟨f, rfl⟩ : ∃ g, f = g + 1 := ⟨f - 1, by omega⟩
    rw [fn_Mo_make_L19, if_neg (fun hh => by have := (gp_k13 (by omega)).mp hh; omega), gp_mset (f := v) hn (by omega) rfl, gp_bv, gp_s]
    have e2 : gx_up (gm_z τ n v) 729 (13 * n + v) 0 = gm_z τ n (v + 1) := by
      funext a c
      unfold gx_up gm_z
      by_cases h1 : a = 729 ∧ c = 13 * n + v
      · rw [if_pos h1, if_pos (by omega)]
      · rw [if_neg h1]
        by_cases h2 : a = 729 ∧ 13 * n ≤ c ∧ c < 13 * n + v
        · rw [if_pos h2, if_pos (by omega)]
        · rw [if_neg h2, if_neg (by omega)]
    rw [e2]
    exact ih (v + 1) f (by omega) (by omega)
theorem gm_make {N n : Nat} {τ : gx_M} {q r l b k : Int32} (hV : τ 722 9 = nI n) (hn : n < 40) (hN : 40 < N) : fn_Mo_make N q r l b k τ = some (nI n, gm_r (gx_up τ 722 9 (nI (n + 1))) n q r l b k) := by
  unfold fn_Mo_make
  rw [gp_lt', hV, gp_s]
  have e0 : gm_z (gx_up τ 722 9 (nI (n + 1))) n 0 = gx_up τ 722 9 (nI (n + 1)) := by
    funext a c
    unfold gm_z
    rw [if_neg (by omega)]
  have := gm_make_L (N := N) (n := n) (τ := gx_up τ 722 9 (nI (n + 1))) (q := q) (r := r) (l := l) (b := b) (k := k) hn 13 0 N (by omega) (by omega)
  rw [e0] at this
  exact this
theorem gb_make {N n : Nat} {σ : gx_M} {q r : Int32} (hW : σ 24 1 = nI n) (hn : n < 40) : fn_Ro_make N 24 q r σ = some (gp_id (some n), gb_c (gx_up σ 24 1 (nI (n + 1))) (682 + n) q r) := by
  unfold fn_Ro_make
  rw [if_pos (by decide), hW, if_pos (by rw [gp_lt, gp_nI (by omega)]; show (n : Int) < 40; omega), if_pos (gp_in (n := 40) hn (by decide) (by decide)), gp_lt', gp_el hn, gp_s, gb_begin (by omega), gp_bv]
  rfl
theorem gb_full {N : Nat} {σ : gx_M} {q r : Int32} (hW : σ 24 1 = nI 40) : fn_Ro_make N 24 q r σ = some (gp_id none, σ) := by
  unfold fn_Ro_make
  rw [if_pos (by decide), hW, if_neg (by decide)]
  rfl

/-- the first of a queue's line -/
def gt_X (n : Nat) (σ : gx_M) (q : Nat) : Option Nat := gq_X (gq_P σ (nI q)) (gp_qL σ) n 0
/-- a queue that can give -/
def gt_O (n : Nat) (σ : gx_M) (q : Nat) : Prop := (∃ x, gt_X n σ q = some x) ∧ ((σ (2 + q) 2).toInt = 0 ∨ 0 < (σ (2 + q) 3).toInt)
theorem gt_Xc {n q : Nat} {σ σ' : gx_M} (hc : ∀ o k, 6 ≤ o → σ' o k = σ o k) : gt_X n σ' q = gt_X n σ q := by
  have e1 : gq_P σ' (nI q) = gq_P σ (nI q) := by
    funext j
    show decide _ = decide _
    rw [hc _ _ (by omega), hc _ _ (by omega)]
  have e2 : gp_qL σ' = gp_qL σ := by
    funext i j
    show decide _ = decide _
    rw [hc _ _ (by omega), hc _ _ (by omega), hc _ _ (by omega), hc _ _ (by omega)]
  unfold gt_X
  rw [e1, e2]
theorem gt_isOpen {N : Nat} {K T : Int} {σ0 τ0 σ τ : gx_M} {n u q : Nat} (hH : gr_H K T σ0 τ0 n u σ τ) (hN : 50 < N) (hq : q < 4) : ∃ b : Int32, fn_Bo_isOpen N (nI q) σ = some (b, σ) ∧ fn_Mo_isOpen N (nI q) τ = some (b, τ) ∧ (b = 0 ∨ (b = 1 ∧ gt_O n σ q)) := by
  have hM := hH.2.1
  have h40 := hM.1.2
  have hin := gp_in (i := q) (n := 4) (M := 4) hq (by decide) (by decide)
  obtain ⟨⟨a0, a1, a2, a3, a4, a5⟩, b0, b2, b3, b4, b5⟩ := hH.2.2.2.2.2.1 q hq
  have hml : fn_Mo_inLine N (nI q) 0 τ = some (gp_dz (gt_X n σ q), τ) := gq_minLine (pl := 0) hM (by omega) (by decide)
  have hcl : fn_Ro_nextInLine N 24 (nI q) none σ = some (gp_id (gt_X n σ q), σ) := gq_next0 hM.1 (by omega)
  unfold fn_Bo_isOpen fn_Mo_isOpen fn_Qu_canGive
  simp only [gp_elq hq]
  simp only [if_pos hin, gp_cl (show q < 2147483648 by omega), if_pos (show 2 ≤ 2 + q ∧ 2 + q < 6 by omega), hml, ← a0, ← a2, ← a3, gp_bd]
  by_cases w0 : σ (2 + q) 0 = 0
  · rw [if_pos w0, gp_bd, if_pos rfl, if_pos (by rw [w0]; decide)]
    exact ⟨_, rfl, rfl, Or.inl rfl⟩
  · have w1 : ¬ (σ (2 + q) 0).toInt = 0 := fun h => w0 (gp_eq.mpr h)
    rw [if_neg w0, if_neg (show ¬ σ (2 + q) 0 ≤ 0 by rw [gp_le, gp_t0]; omega)]
    have fin : gt_X n σ q = none ∨ ((σ (2 + q) 2).toInt = 0 ∨ 0 < (σ (2 + q) 3).toInt) → ∃ b : Int32, gx_bd (fn_Ro_nextInLine N 24 (nI q) none σ) (fun x_8 σ_6 => gx_mt x_8 (some ((0 : Int32), σ_6)) (fun o_9 => if 42 ≤ o_9 ∧ o_9 < 722 then (some ((1 : Int32), σ_6)) else none)) = some (b, σ) ∧ (if gp_dz (gt_X n σ q) < 0 then some ((0 : Int32), τ) else some ((1 : Int32), τ)) = some (b, τ) ∧ (b = 0 ∨ (b = 1 ∧ gt_O n σ q)) := by
      intro hor
      rw [hcl, gp_bd]
      cases hX : gt_X n σ q with
      | none =>
        rw [gp_mn', if_pos (by decide)]
        exact ⟨_, rfl, rfl, Or.inl rfl⟩
      | some x =>
        have hx := gq_Xb h40 0 x hX
        rw [gp_ms', if_pos (by omega), if_neg (show ¬ gp_dz (some x) < 0 from gp_nI0 (by omega))]
        refine ⟨_, rfl, rfl, Or.inr ⟨rfl, ⟨x, hX⟩, ?_⟩⟩
        rcases hor with g | g
        · rw [hX] at g
          cases g
        · exact g
    by_cases c0 : σ (2 + q) 2 = 0
    · have c1 : (σ (2 + q) 2).toInt = 0 := by rw [c0]; rfl
      rw [if_pos c0, gp_bd, if_neg (by decide), if_pos c0]
      exact fin (Or.inr (Or.inl c1))
    · rw [if_neg c0, if_neg c0]
      by_cases t0 : σ (2 + q) 3 ≤ 0
      · rw [if_pos t0, gp_bd, if_pos rfl, if_pos t0]
        exact ⟨_, rfl, rfl, Or.inl rfl⟩
      · rw [if_neg t0, gp_bd, if_neg (by decide), if_neg t0]
        rw [gp_le, gp_t0] at t0
        exact fin (Or.inr (Or.inr (by omega)))
/-- what a queue has earned changes alike -/
theorem gt_cred {K T : Int} {σ0 τ0 σ τ : gx_M} {n u q : Nat} {v : Int32} (hH : gr_H K T σ0 τ0 n u σ τ) (hE : gr_E σ u n) (hq : q < 4) : gr_H K T σ0 τ0 n u (gx_up σ (2 + q) 1 v) (gx_up τ 724 q v) ∧ gr_E (gx_up σ (2 + q) 1 v) u n := by
  refine ⟨hH.side (T' := T) (fun o k ho => gp_un (by omega)) (fun o k ho => gp_un (by omega)) (hH.2.2.2.2.2.1.set q (fun x k hx hxq _ => gp_un (by omega)) (fun x k hx hxq _ => gp_un (by omega)) (gp_un (by omega)) ?_) ?_, hE.side (fun o k ho => gp_un (by omega))⟩
  · obtain ⟨⟨a0, a1, a2, a3, a4, a5⟩, hb⟩ := hH.2.2.2.2.2.1 q hq
    exact gr_V.of (gp_un (by omega)) gp_us (gp_un (by omega)) (gp_un (by omega)) (gp_un (by omega)) (gp_un (by omega)) ((gp_un (by omega)).trans a0.symm) gp_us ((gp_un (by omega)).trans a2.symm) ((gp_un (by omega)).trans a3.symm) ((gp_un (by omega)).trans a4.symm) ((gp_un (by omega)).trans a5.symm) hb
  · unfold gr_S
    rw [gp_un (by omega), gp_un (by omega), gp_un (by omega), gp_un (by omega), gp_un (by omega), gp_un (by omega)]
    exact hH.2.2.2.2.2.2
theorem gt_Oc {n q r : Nat} {σ : gx_M} {v : Int32} (h : gt_O n σ r) (hq : q < 4) (hr : r < 4) : gt_O n (gx_up σ (2 + q) 1 v) r := by
  obtain ⟨⟨x, hx⟩, h2⟩ := h
  refine ⟨⟨x, ?_⟩, ?_⟩
  · rw [gt_Xc (σ := σ) (fun o k ho => gp_un (by omega))]
    exact hx
  · rw [gp_un (by omega), gp_un (by omega)]
    exact h2
theorem gt_ne {q : Nat} (hq : q < 4) : ¬ nI q = -4 := by
  rw [gp_eq, gp_nI (by omega), gp_tm4]
  omega
theorem gt_credit {N : Nat} {K T : Int} {σ0 τ0 : gx_M} {n u : Nat} (hN : 50 < N) : ∀ (k v f g : Nat) (w b b' : Int32) (σ τ : gx_M), v + k = 4 → k < f → k < g → gr_H K T σ0 τ0 n u σ τ → gr_E σ u n → σ 0 0 = 0 → ((b = -4 ∧ b' = -1) ∨ ∃ q, q < 4 ∧ b = nI q ∧ b' = nI q ∧ gt_O n σ q) → ∃ (r r' : Int32) (σ' τ' : gx_M), fn_Bo_openQueueByCredit_L7 N f (nI v) w b σ = some (r, σ') ∧ fn_Mo_choose_L6 N g (nI v) w b' τ = some (r', τ') ∧ gr_H K T σ0 τ0 n u σ' τ' ∧ gr_E σ' u n ∧ ((r = -4 ∧ r' = -1) ∨ ∃ q, q < 4 ∧ r = nI q ∧ r' = nI q ∧ gt_O n σ' q) := by
  intro k
  induction k with
  | zero =>
    intro v f g w b b' σ τ hv hf hg hH hE h00 hb
    obtain ⟨f, rfl⟩ : ∃ z, f = z + 1 := ⟨f - 1, by omega⟩
    obtain ⟨g, rfl⟩ : ∃ z, g = z + 1 := ⟨g - 1, by omega⟩
    obtain rfl : v = 4 := by omega
    rw [fn_Bo_openQueueByCredit_L7, fn_Mo_choose_L6, if_pos (show (4 : Int32) ≤ nI 4 by decide), if_pos (show (4 : Int32) ≤ nI 4 by decide)]
    rcases hb with ⟨rfl, rfl⟩ | ⟨q, hq, rfl, rfl, hO⟩
    · rw [if_pos rfl, if_pos (by decide)]
      exact ⟨_, _, _, _, rfl, rfl, hH, hE, Or.inl ⟨rfl, rfl⟩⟩
    · have hin := gp_in (i := q) (n := 4) (M := 4) hq (by decide) (by decide)
      obtain ⟨⟨a0, a1, a2, a3, a4, a5⟩, -⟩ := hH.2.2.2.2.2.1 q hq
      have h1 := gt_cred (v := σ (2 + q) 1 - w) hH hE hq
      rw [if_neg (gt_ne hq), if_pos hin, gp_elq hq, gp_lt', if_neg (gp_nI0 (by omega)), if_pos hin, if_pos hin, gp_cl (by omega), gp_lt', ← a1]
      exact ⟨_, _, _, _, rfl, rfl, h1.1, h1.2, Or.inr ⟨q, hq, rfl, rfl, gt_Oc hO hq hq⟩⟩
  | succ k ih =>
    intro v f g w b b' σ τ hv hf hg hH hE h00 hb
    obtain ⟨f, rfl⟩ : ∃ z, f = z + 1 := ⟨f - 1, by omega⟩
    obtain ⟨g, rfl⟩ : ∃ z, g = z + 1 := ⟨g - 1, by omega⟩
    have hv4 : v < 4 := by omega
    have hin := gp_in (i := v) (n := 4) (M := 4) hv4 (by decide) (by decide)
    have h4 : ¬ (4 : Int32) ≤ nI v := by rw [gp_le, gp_t4, gp_nI (by omega)]; omega
    obtain ⟨b0, e1, e2, hb0⟩ := gt_isOpen hH hN hv4
    rw [fn_Bo_openQueueByCredit_L7, fn_Mo_choose_L6, if_neg h4, if_neg h4, e1, gp_bd, e2, gp_bd]
    rcases hb0 with rfl | ⟨rfl, hO⟩
    · rw [if_pos rfl, if_pos rfl, gp_s]
      exact ih (v + 1) f g w b b' σ τ (by omega) (by omega) (by omega) hH hE h00 hb
    · obtain ⟨⟨a0, a1, a2, a3, a4, a5⟩, -⟩ := hH.2.2.2.2.2.1 v hv4
      have hz : τ 722 0 = 0 := hH.2.2.2.2.2.2.1.symm.trans h00
      have h1 := gt_cred (v := σ (2 + v) 1 + σ (2 + v) 0) hH hE hv4
      have hO1 : gt_O n (gx_up σ (2 + v) 1 (σ (2 + v) 1 + σ (2 + v) 0)) v := gt_Oc hO hv4 hv4
      have z1 : (gx_up σ (2 + v) 1 (σ (2 + v) 1 + σ (2 + v) 0)) 0 0 = 0 := by rw [gp_un (by omega)]; exact h00
      have hb1 : (b = -4 ∧ b' = -1) ∨ ∃ q, q < 4 ∧ b = nI q ∧ b' = nI q ∧ gt_O n (gx_up σ (2 + v) 1 (σ (2 + v) 1 + σ (2 + v) 0)) q := by
        rcases hb with g | ⟨q, hq, g1, g2, g3⟩
        · exact Or.inl g
        · exact Or.inr ⟨q, hq, g1, g2, gt_Oc g3 hv4 hq⟩
      rw [if_neg (show ¬ (1 : Int32) = 0 by decide), if_neg (show ¬ (1 : Int32) = 0 by decide), if_pos hz]
      simp only [gp_elq hv4]
      simp only [if_pos hin, gp_lt', gp_cl (show v < 2147483648 by omega), ← a0, ← a1]
      generalize gx_up σ (2 + v) 1 (σ (2 + v) 1 + σ (2 + v) 0) = σ1 at h1 hO1 z1 hb1 ⊢
      generalize gx_up τ 724 v (σ (2 + v) 1 + σ (2 + v) 0) = τ1 at h1 ⊢
      obtain ⟨⟨c0, c1, -⟩, -⟩ := h1.1.2.2.2.2.2.1 v hv4
      rw [← c0, ← c1, gp_s]
      rcases hb1 with ⟨rfl, rfl⟩ | ⟨q, hq, rfl, rfl, hOq⟩
      · rw [if_pos rfl, if_pos (by decide)]
        exact ih (v + 1) f g _ _ _ σ1 τ1 (by omega) (by omega) (by omega) h1.1 h1.2 z1 (Or.inr ⟨v, hv4, rfl, rfl, hO1⟩)
      · have hiq := gp_in (i := q) (n := 4) (M := 4) hq (by decide) (by decide)
        obtain ⟨⟨d0, d1, -⟩, -⟩ := h1.1.2.2.2.2.2.1 q hq
        rw [if_neg (gt_ne hq), if_pos hiq, gp_elq hq, if_neg (gp_nI0 (by omega)), if_pos hiq, gp_cl (by omega), ← d1]
        by_cases hle : σ1 (2 + v) 1 ≤ σ1 (2 + q) 1
        · rw [if_pos hle, if_pos hle]
          exact ih (v + 1) f g _ _ _ σ1 τ1 (by omega) (by omega) (by omega) h1.1 h1.2 z1 (Or.inr ⟨q, hq, rfl, rfl, hOq⟩)
        · rw [if_neg hle, if_neg hle]
          exact ih (v + 1) f g _ _ _ σ1 τ1 (by omega) (by omega) (by omega) h1.1 h1.2 z1 (Or.inr ⟨v, hv4, rfl, rfl, hO1⟩)
theorem gt_first {N : Nat} {K T : Int} {σ0 τ0 σ τ : gx_M} {n u : Nat} (hN : 50 < N) (hH : gr_H K T σ0 τ0 n u σ τ) (h00 : ¬ σ 0 0 = 0) : ∀ (k v f g : Nat) (w : Int32), v + k = 4 → k < f → k < g → ∃ (r r' : Int32), fn_Bo_firstOpenQueue_L2 N f (nI v) σ = some (r, σ) ∧ fn_Mo_choose_L6 N g (nI v) w (-1) τ = some (r', τ) ∧ ((r = -4 ∧ r' = -1) ∨ ∃ q, q < 4 ∧ r = nI q ∧ r' = nI q ∧ gt_O n σ q) := by
  intro k
  induction k with
  | zero =>
    intro v f g w hv hf hg
    obtain ⟨f, rfl⟩ : ∃ z, f = z + 1 := ⟨f - 1, by omega⟩
    obtain ⟨g, rfl⟩ : ∃ z, g = z + 1 := ⟨g - 1, by omega⟩
    obtain rfl : v = 4 := by omega
    rw [fn_Bo_firstOpenQueue_L2, fn_Mo_choose_L6, if_pos (show (4 : Int32) ≤ nI 4 by decide), if_pos (show (4 : Int32) ≤ nI 4 by decide), if_pos (show (-1 : Int32) < 0 by decide)]
    exact ⟨_, _, rfl, rfl, Or.inl ⟨rfl, rfl⟩⟩
  | succ k ih =>
    intro v f g w hv hf hg
    obtain ⟨f, rfl⟩ : ∃ z, f = z + 1 := ⟨f - 1, by omega⟩
    obtain ⟨g, rfl⟩ : ∃ z, g = z + 1 := ⟨g - 1, by omega⟩
    have hv4 : v < 4 := by omega
    have h4 : ¬ (4 : Int32) ≤ nI v := by rw [gp_le, gp_t4, gp_nI (by omega)]; omega
    obtain ⟨b0, e1, e2, hb0⟩ := gt_isOpen hH hN hv4
    rw [fn_Bo_firstOpenQueue_L2, fn_Mo_choose_L6, if_neg h4, if_neg h4, e1, gp_bd, e2, gp_bd]
    rcases hb0 with rfl | ⟨rfl, hO⟩
    · rw [if_pos rfl, if_pos rfl, gp_s]
      exact ih (v + 1) f g w (by omega) (by omega) (by omega)
    · have hz : ¬ τ 722 0 = 0 := fun h => h00 (hH.2.2.2.2.2.2.1.trans h)
      rw [if_neg (show ¬ (1 : Int32) = 0 by decide), if_neg (show ¬ (1 : Int32) = 0 by decide), if_neg hz]
      exact ⟨_, _, rfl, rfl, Or.inr ⟨v, hv4, rfl, rfl, hO⟩⟩
/-- becomes RESERVED -/
theorem gt_res {K : Int} {n j : Nat} {σ τ : gx_M} {w v : Int32} (h : gr_M K n σ τ) (hj : j < n) (hw : 0 ≤ w ∧ w ≤ 5) : gr_M K n (gx_up (gx_up (gx_up σ (682 + j) 12 w) (682 + j) 10 2) (682 + j) 11 v) (gx_up (gx_up (gx_up τ 729 (13 * j + 9) 2) 729 (13 * j + 10) v) 729 (13 * j + 11) w) := by
  obtain ⟨hW, hV, hT, hst, hod, hK⟩ := h
  have h40 := hW.2
  refine ⟨⟨by rw [gp_un (by omega), gp_un (by omega), gp_un (by omega)]; exact hW.1, hW.2⟩, ⟨by rw [gp_un (by omega), gp_un (by omega), gp_un (by omega)]; exact hV.1, hV.2⟩, ?_, by rw [gp_un (by omega), gp_un (by omega), gp_un (by omega)]; exact hst, by rw [gp_un (by omega), gp_un (by omega), gp_un (by omega)]; exact hod, hK⟩
  rw [gp_un (show ¬ (24 = 682 + j ∧ 2 = 11) by omega), gp_un (show ¬ (24 = 682 + j ∧ 2 = 10) by omega), gp_un (show ¬ (24 = 682 + j ∧ 2 = 12) by omega), gp_un (show ¬ (722 = 729 ∧ 10 = 13 * j + 11) by omega), gp_un (show ¬ (722 = 729 ∧ 10 = 13 * j + 10) by omega), gp_un (show ¬ (722 = 729 ∧ 10 = 13 * j + 9) by omega)]
  have e10 : gr_c (gx_up (gx_up (gx_up σ (682 + j) 12 w) (682 + j) 10 2) (682 + j) 11 v) j 10 = 2 := by
    show gx_up _ _ _ _ (682 + j) 10 = 2
    rw [gp_un (by omega), gp_us]
  refine hT.set j (fun i hi hij k hk => ?_) (fun i hi hij f hf => ?_) (fun _ => ?_) (fun _ hl => ?_)
  · show gx_up _ _ _ _ (682 + i) k = σ (682 + i) k
    rw [gp_un (by omega), gp_un (by omega), gp_un (by omega)]
  · show gx_up _ _ _ _ 729 (13 * i + f) = τ 729 (13 * i + f)
    rw [gp_un (by omega), gp_un (by omega), gp_un (by omega)]
  · refine (hT.1 j hj).st (s := 2) (fun k hk => ?_) (fun f hf => ?_) e10 ?_ (by decide) (fun _ => ?_) (fun _ => ?_)
    · show gx_up _ _ _ _ (682 + j) k = σ (682 + j) k
      rw [gp_un (by omega), gp_un (by omega), gp_un (by omega)]
    · show gx_up _ _ _ _ 729 (13 * j + f) = τ 729 (13 * j + f)
      rw [gp_un (by omega), gp_un (by omega), gp_un (by omega)]
    · show gx_up _ _ _ _ 729 (13 * j + 9) = 2
      rw [gp_un (by omega), gp_un (by omega), gp_us]
    · show gx_up _ _ _ _ (682 + j) 11 = gx_up _ _ _ _ 729 (13 * j + 10)
      rw [gp_us, gp_un (by omega), gp_us]
    · have f12 : gr_c (gx_up (gx_up (gx_up σ (682 + j) 12 w) (682 + j) 10 2) (682 + j) 11 v) j 12 = w := by
        show gx_up _ _ _ _ (682 + j) 12 = w
        rw [gp_un (by omega), gp_un (by omega), gp_us]
      have f11 : gr_m (gx_up (gx_up (gx_up τ 729 (13 * j + 9) 2) 729 (13 * j + 10) v) 729 (13 * j + 11) w) j 11 = w := gp_us
      rw [f12, f11]
      exact ⟨rfl, hw⟩
  · rw [e10] at hl
    exact absurd hl (by unfold gr_ln; decide)

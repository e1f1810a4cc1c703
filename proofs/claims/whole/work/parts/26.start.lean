theorem gl_board {dA : Nat → ClassId} {B : Nat} {x : Int32} : gl_S dA B x B = some (.inr (0, [.int x, .ref (B + 1), .ref (B + 1 + 5), .ref (B + 1 + 47), .int 0, .int (-1)])) := by
  rw [gl_lo (by omega)]
  unfold gz_bo
  simp only [gz_st, if_true]
theorem gl_qarr {dA : Nat → ClassId} {B : Nat} {x : Int32} : gl_S dA B x (B + 1) = some (gz_ra (dA 2) 4 (gz_af (B + 1 + 1) 1 4)) := by
  rw [gl_lo (by omega)]
  unfold gz_bo
  simp only [gz_st, gz_jn, gz_ro, gz_qs]
  repeat rw [if_neg (by omega)]
  simp
theorem gl_queue {dA : Nat → ClassId} {B : Nat} {x : Int32} {o : Nat} (h : 2 ≤ o ∧ o < 6) : gl_S dA B x (B + o) = some (.inr (1, gz_q)) := by
  rw [gl_lo (by omega)]
  unfold gz_bo
  simp only [gz_st, gz_jn, gz_ro, gz_qs]
  repeat rw [if_neg (by omega)]
  rw [if_pos (by omega)]
theorem gl_journal {dA : Nat → ClassId} {B : Nat} {x : Int32} : gl_S dA B x (B + 48) = some (.inr (2, [.ref (B + 1 + 48), .int 0])) := by
  rw [gl_lo (by omega)]
  unfold gz_bo
  simp only [gz_st, gz_jn]
  rw [if_neg (by omega)]
  exact if_pos (by first | trivial | omega)
theorem gl_parr {dA : Nat → ClassId} {B : Nat} {x : Int32} : gl_S dA B x (B + 49) = some (gz_ra (dA 3) 16 (gz_af (B + 1 + 48 + 1) 42 16)) := by
  rw [gl_lo (by omega)]
  unfold gz_bo
  simp only [gz_st, gz_jn]
  rw [if_neg (by omega), if_neg (by omega)]
  exact if_pos (by first | trivial | omega)
theorem gl_page {dA : Nat → ClassId} {B : Nat} {x : Int32} {k : Nat} (h : k < 16) : gl_S dA B x (B + (50 + 42 * k)) = some (.inr (3, [.ref (B + (51 + 42 * k)), .int 0, .int 0])) := by
  rw [gl_lo (by omega)]
  unfold gz_bo
  simp only [gz_st, gz_jn]
  rw [if_neg (by omega), if_neg (by omega), if_neg (by omega), if_pos (by omega)]
  have hd : (B + (50 + 42 * k) - (B + 1 + 48 + 1)) / 42 = k := by omega
  rw [hd]
  unfold gz_rb
  rw [if_pos (by omega), show B + 1 + 48 + 1 + 42 * k + 1 = B + (51 + 42 * k) by omega]
theorem gl_pjobs {dA : Nat → ClassId} {B : Nat} {x : Int32} {k : Nat} (h : k < 16) : gl_S dA B x (B + (51 + 42 * k)) = some (gz_ra (dA 4) 40 (gz_af (B + (52 + 42 * k)) 1 40)) := by
  rw [gl_lo (by omega)]
  unfold gz_bo
  simp only [gz_st, gz_jn]
  rw [if_neg (by omega), if_neg (by omega), if_neg (by omega), if_pos (by omega)]
  have hd : (B + (51 + 42 * k) - (B + 1 + 48 + 1)) / 42 = k := by omega
  rw [hd]
  unfold gz_rb
  rw [if_neg (by omega), if_pos (by omega), show B + 1 + 48 + 1 + 42 * k + 1 + 1 = B + (52 + 42 * k) by omega]
theorem gl_roster {dA : Nat → ClassId} {B : Nat} {x : Int32} : gl_S dA B x (B + 6) = some (.inr (3, [.ref (B + 1 + 6), .int 0, .int 0])) := by
  rw [gl_lo (by omega)]
  unfold gz_bo
  simp only [gz_st, gz_jn, gz_ro]
  rw [if_neg (by omega), if_neg (by omega), if_neg (by omega), if_neg (by omega), if_neg (by omega)]
  exact if_pos (by first | trivial | omega)
theorem gl_jobs {dA : Nat → ClassId} {B : Nat} {x : Int32} : gl_S dA B x (B + 7) = some (gz_ra (dA 4) 40 (gz_af (B + 1 + 6 + 1) 1 40)) := by
  rw [gl_lo (by omega)]
  unfold gz_bo
  simp only [gz_st, gz_jn, gz_ro]
  rw [if_neg (by omega), if_neg (by omega), if_neg (by omega), if_neg (by omega), if_neg (by omega), if_neg (by omega)]
  exact if_pos (by first | trivial | omega)
theorem gl_model {dA : Nat → ClassId} {B : Nat} {x : Int32} : gl_S dA B x (B + 722) = some (.inr (5, gz_mf (B + 723) x)) := by
  unfold gl_S gz_mo
  simp only [gz_st]
  rw [if_neg (by omega), if_neg (by omega)]
  exact if_pos (by first | trivial | omega)
theorem gl_m723 {dA : Nat → ClassId} {B : Nat} {x : Int32} : gl_S dA B x (B + 723) = some (.inl (dA 0, 4, .inl (gz_ws1 4))) := by
  unfold gl_S gz_mo
  simp only [gz_st]
  rw [if_neg (by omega)]
  exact if_pos (by first | trivial | omega)
theorem gl_m727 {dA : Nat → ClassId} {B : Nat} {x : Int32} : gl_S dA B x (B + 727) = some (.inl (dA 0, 4, .inl (gz_ws1 4))) := by
  unfold gl_S gz_mo
  simp only [gz_st]
  exact if_pos (by first | trivial | omega)
theorem gl_mi {dA : Nat → ClassId} {B : Nat} {x : Int32} {o : Nat} (h : o = 724 ∨ o = 725 ∨ o = 726 ∨ o = 728 ∨ o = 729 ∨ o = 730 ∨ o = 731 ∨ o = 732) : gl_S dA B x (B + o) = some (.inl (dA (gx_ta o), gx_len o, .inl (fun _ => 0))) := by
  unfold gl_S gz_mo gz_ma
  simp only [gz_st]
  rcases h with rfl | rfl | rfl | rfl | rfl | rfl | rfl | rfl
  all_goals
    repeat rw [if_neg (by omega)]
    first
      | exact if_pos (by first | trivial | omega)
      | rfl
theorem gl_af {b w n j : Nat} (h : j < n) : gz_af b w n j = some (b + w * j) := if_pos h
set_option maxHeartbeats 4000000 in
theorem gl_P {dA : Nat → ClassId} {B : Nat} {x : Int32} {D : va_G} {H : Heap} (h : gz_P D (gl_S dA B x) H) : va_P D gx_cl (gx_ws dA (fun o => B + gl_ad o) (gl_s0 x)) H := by
  intro k q hk
  obtain ⟨ho, rfl⟩ := gx_ws_in hk
  clear hk
  show va_at D gx_cl (B + gl_ad k, gx_cell dA (fun o => B + gl_ad o) k (gl_s0 x k)) H
  rcases (show k = 0 ∨ k = 1 ∨ (2 ≤ k ∧ k < 6) ∨ k = 6 ∨ k = 7 ∨ (8 ≤ k ∧ k < 24) ∨ k = 24 ∨ (25 ≤ k ∧ k < 41) ∨ k = 41 ∨ (42 ≤ k ∧ k < 722) ∨ k = 722 ∨ k = 723 ∨ k = 727 ∨ (k = 724 ∨ k = 725 ∨ k = 726 ∨ k = 728 ∨ k = 729 ∨ k = 730 ∨ k = 731 ∨ k = 732) by omega) with rfl | rfl | hk | rfl | rfl | hk | rfl | hk | rfl | hk | rfl | rfl | rfl | hk
  · exact gl_i h (q := B) gl_board
  · refine gl_arr (gl_i h gl_qarr) (fun j hj => ?_)
    have hj : j < 4 := hj
    rw [gl_af hj]
    show some _ = some (B + gl_ad (2 + j))
    rw [show gl_ad (2 + j) = 2 + j by unfold gl_ad; rw [if_pos (by omega)]]
    congr 1
    omega
  · have e : gl_ad k = k := by unfold gl_ad; rw [if_pos (by omega)]
    rw [e, gx_cell_o (gx_ci_q hk)]
    have h2 := gl_i h (gl_queue (dA := dA) (B := B) (x := x) hk)
    have hs : ∀ j, gl_s0 x k j = if j = 0 ∨ j = 4 then 1 else 0 := fun j => by unfold gl_s0; rw [if_neg (by omega), if_pos hk]
    show va_at D gx_cl (B + k, .inr (1, (List.range 6).map _)) H
    rw [gl_6]
    simp only [gx_fv, gx_rf_q hk, hs]
    exact h2
  · exact gl_i h (q := B + 48) gl_journal
  · refine gl_arr (gl_i h gl_parr) (fun j hj => ?_)
    have hj : j < 16 := hj
    rw [gl_af hj]
    show some _ = some (B + gl_ad (8 + j))
    rw [show gl_ad (8 + j) = 50 + 42 * j by
      unfold gl_ad
      rw [if_neg (by omega), if_neg (by omega), if_neg (by omega), if_pos (by omega)]
      omega]
    congr 1
    omega
  · have e : gl_ad k = 50 + 42 * (k - 8) := by
      unfold gl_ad
      rw [if_neg (by omega), if_neg (by omega), if_neg (by omega), if_pos (by omega)]
    have e2 : gl_ad (k + 17) = 51 + 42 * (k - 8) := by
      unfold gl_ad
      rw [if_neg (by omega), if_neg (by omega), if_neg (by omega), if_neg (by omega), if_neg (by omega), if_pos (by omega)]
      omega
    have h2 := gl_i h (gl_page (dA := dA) (B := B) (x := x) (k := k - 8) (by omega))
    have hs : ∀ j, gl_s0 x k j = 0 := fun j => by unfold gl_s0; rw [if_neg (by omega), if_neg (by omega), if_neg (by omega), if_neg (by omega), if_neg (by omega)]
    rw [gx_cell_o (gx_ci_r (by omega)), e]
    show va_at D gx_cl (_, .inr (3, [gx_fv _ k 0 _, gx_fv _ k 1 _, gx_fv _ k 2 _])) H
    simp only [gx_fv, gx_rf_r0 (show 8 ≤ k ∧ k < 25 by omega), gx_rf_r (show 8 ≤ k ∧ k < 25 by omega) (show 1 ≠ 0 by decide), gx_rf_r (show 8 ≤ k ∧ k < 25 by omega) (show 2 ≠ 0 by decide), hs, e2]
    exact h2
  · exact gl_i h (q := B + 6) gl_roster
  · have e : gl_ad k = 51 + 42 * (k - 25) := by
      unfold gl_ad
      rw [if_neg (by omega), if_neg (by omega), if_neg (by omega), if_neg (by omega), if_neg (by omega), if_pos (by omega)]
    have h2 := gl_i h (gl_pjobs (dA := dA) (B := B) (x := x) (k := k - 25) (by omega))
    have hta : gx_ta k = 4 := by
      unfold gx_ta
      rw [if_neg (by omega), if_neg (by omega), if_pos (by omega)]
    have hln : gx_len k = 40 := by
      unfold gx_len
      rw [if_neg (by omega), if_neg (by omega), if_pos (by omega)]
    rw [gx_cell_r (gx_ci_a (by omega)) (by omega), hta, hln, e]
    refine gl_arr h2 (fun j hj => ?_)
    rw [gl_af hj]
    have e3 : gl_ad (gx_el k j) = 52 + 42 * (k - 25) + j := by
      unfold gx_el
      rw [if_neg (by omega), if_neg (by omega)]
      unfold gl_ad
      rw [if_neg (by omega), if_neg (by omega), if_neg (by omega), if_neg (by omega), if_neg (by omega), if_neg (by omega), if_neg (by omega), if_pos (by omega)]
      omega
    show some _ = some (B + gl_ad (gx_el k j))
    rw [e3]
    congr 1
    omega
  · refine gl_arr (gl_i h gl_jobs) (fun j hj => ?_)
    have hj : j < 40 := hj
    rw [gl_af hj]
    show some _ = some (B + gl_ad (gx_el 41 j))
    rw [show gl_ad (gx_el 41 j) = 8 + j by
      unfold gx_el
      rw [if_neg (by omega), if_neg (by omega)]
      unfold gl_ad
      rw [if_neg (by omega), if_neg (by omega), if_neg (by omega), if_neg (by omega), if_neg (by omega), if_neg (by omega), if_neg (by omega), if_neg (by omega), if_pos (by omega)]
      omega]
    congr 1
    omega
  · have h2 := gl_i h (gl_job (dA := dA) (B := B) (x := x) hk)
    have hs : ∀ j, gl_s0 x k j = if j = 0 then nI ((k - 42) % 40) else 0 := fun j => by unfold gl_s0; rw [if_neg (by omega), if_neg (by omega), if_pos hk]
    rw [gx_cell_o (gx_ci_j hk)]
    show va_at D gx_cl (B + gl_ad k, .inr (4, (List.range 14).map _)) H
    rw [gl_14]
    simp only [gx_fv, gx_rf_j hk, hs]
    exact h2
  · exact gl_i h (q := B + 722) gl_model
  · exact gl_iarr (gl_i h gl_m723) (fun j hj => by simp [gz_ws1, gl_s0])
  · exact gl_iarr (gl_i h gl_m727) (fun j hj => by simp [gz_ws1, gl_s0])
  · have e : gl_ad k = k := by
      unfold gl_ad
      rw [if_neg (by omega), if_neg (by omega), if_neg (by omega), if_neg (by omega), if_neg (by omega), if_neg (by omega), if_neg (by omega), if_neg (by omega), if_neg (by omega)]
    have hs : ∀ j, gl_s0 x k j = 0 := fun j => by unfold gl_s0; rw [if_neg (by omega), if_neg (by omega), if_neg (by omega), if_neg (by omega), if_neg (by omega)]
    have hci : gx_ci k = none := by
      unfold gx_ci
      rw [if_neg (by omega), if_neg (by omega), if_neg (by omega), if_neg (by omega), if_neg (by omega), if_neg (by omega), if_neg (by omega), if_neg (by omega), if_neg (by omega)]
    rw [e, gx_cell_i hci (by omega)]
    exact gl_iarr (gl_i h (gl_mi hk)) (fun j hj => (hs j).symm)

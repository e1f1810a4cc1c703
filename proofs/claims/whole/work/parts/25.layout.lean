/-- the memory at the start -/
def gl_s0 (x : Int32) : gx_M := fun o k => if o = 0 then (if k = 0 then x else if k = 5 then -1 else 0) else if 2 ≤ o ∧ o < 6 then (if k = 0 ∨ k = 4 then 1 else 0) else if 42 ≤ o ∧ o < 722 then (if k = 0 then nI ((o - 42) % 40) else 0) else if o = 722 then (if k = 0 then x else if k = 8 then -1 else 0) else if o = 723 ∨ o = 727 then (if k < 4 then 1 else 0) else 0
theorem gl_inj {B : Nat} : gx_A (fun q : Nat => B ≤ q) (fun o => B + gl_ad o) := by
  refine ⟨fun i j hi hj h => ?_, fun o _ => Nat.le_add_right _ _⟩
  have h : gl_ad i = gl_ad j := by
    have h : B + gl_ad i = B + gl_ad j := h
    omega
  unfold gl_ad at h
  repeat' split at h
  all_goals omega
abbrev gl_b0 : va_E := .inr (0, [.int 0, .null, .null, .null, .int 0, .int 0])
abbrev gl_m0 : va_E := .inr (5, [.int 0, .int 0, .null, .null, .null, .null, .null, .null, .int 0, .int 0, .int 0, .int 0, .null, .null, .null, .null])
/-- the world behind the law's two 'new' -/
def gl_S (dA : Nat → ClassId) (B : Nat) (x : Int32) : Nat → Option va_E := gz_mo dA (gz_st (gz_bo dA (gz_st (fun _ => none) B gl_b0) B (B + 1) x) (B + 722) gl_m0) (B + 722) (B + 723) x 4
theorem gl_lo {dA : Nat → ClassId} {B : Nat} {x : Int32} {q : Nat} (h : q < B + 722) : gl_S dA B x q = gz_bo dA (gz_st (fun _ => none) B gl_b0) B (B + 1) x q := by
  unfold gl_S gz_mo gz_ma
  simp only [gz_st]
  repeat rw [if_neg (by omega)]
theorem gl_i {dA : Nat → ClassId} {B : Nat} {x : Int32} {q : Nat} {e : va_E} {D : va_G} {H : Heap} (h : gz_P D (gl_S dA B x) H) (hq : gl_S dA B x q = some e) : va_at D gx_cl (q, e) H := h q e hq
theorem gl_14 (f : Nat → Value) : (List.range 14).map f = [f 0, f 1, f 2, f 3, f 4, f 5, f 6, f 7, f 8, f 9, f 10, f 11, f 12, f 13] := rfl
theorem gl_6 (f : Nat → Value) : (List.range 6).map f = [f 0, f 1, f 2, f 3, f 4, f 5] := rfl
theorem gl_arr {D : va_G} {a n : Nat} {cA : ClassId} {f g : Nat → Option Nat} {H : Heap} (h : va_at D gx_cl (a, .inl (cA, n, .inr (.inr (.inr (.inr f))))) H) (hfg : ∀ j, j < n → f j = g j) : va_at D gx_cl (a, .inl (cA, n, .inr (.inr (.inr (.inr g))))) H := by
  have e : vp_cell cA (n, .inr (.inr (.inr (.inr f)))) = vp_cell cA (n, .inr (.inr (.inr (.inr g)))) := by
    rw [vp_cell_q, vp_cell_q]
    unfold arrV
    congr 1
    apply Array.ext
    · simp
    · intro i h1 h2
      simp at h1
      simp [hfg i h1]
  show H[a]? = some (vp_cell _ _)
  rw [← e]
  exact h
theorem gl_iarr {D : va_G} {a n : Nat} {cA : ClassId} {f g : Nat → Int32} {H : Heap} (h : va_at D gx_cl (a, .inl (cA, n, .inl f)) H) (hfg : ∀ j, j < n → f j = g j) : va_at D gx_cl (a, .inl (cA, n, .inl g)) H := by
  have e : vp_cell cA (n, .inl f) = vp_cell cA (n, .inl g) := by
    rw [vp_cell_i, vp_cell_i]
    unfold arrV
    congr 1
    apply Array.ext
    · simp
    · intro i h1 h2
      simp at h1
      simp [hfg i h1]
  show H[a]? = some (vp_cell _ _)
  rw [← e]
  exact h
theorem gl_job {dA : Nat → ClassId} {B : Nat} {x : Int32} {o : Nat} (h : 42 ≤ o ∧ o < 722) : gl_S dA B x (B + gl_ad o) = some (.inr (4, gz_j (nI ((o - 42) % 40)))) := by
  have ha : gl_ad o = if o < 682 then 52 + 42 * ((o - 42) / 40) + (o - 42) % 40 else 8 + (o - 682) := by
    unfold gl_ad
    repeat rw [if_neg (by omega)]
    by_cases h1 : o < 682
    · rw [if_pos h1, if_pos h1]
    · rw [if_neg h1, if_pos (by omega), if_neg h1]
  by_cases h1 : o < 682
  · rw [if_pos h1] at ha
    rw [ha, gl_lo (by omega)]
    unfold gz_bo
    simp only [gz_st, gz_jn]
    rw [if_neg (by omega), if_neg (by omega), if_neg (by omega), if_pos (by omega)]
    have hd : (B + (52 + 42 * ((o - 42) / 40) + (o - 42) % 40) - (B + 1 + 48 + 1)) / 42 = (o - 42) / 40 := by omega
    rw [hd]
    unfold gz_rb
    rw [if_neg (by omega), if_neg (by omega)]
    rw [show B + (52 + 42 * ((o - 42) / 40) + (o - 42) % 40) - (B + 1 + 48 + 1 + 42 * ((o - 42) / 40) + 1 + 1) = (o - 42) % 40 by omega]
  · rw [if_neg h1] at ha
    rw [ha, gl_lo (by omega)]
    unfold gz_bo
    simp only [gz_st, gz_jn, gz_ro]
    rw [if_neg (by omega), if_neg (by omega), if_neg (by omega), if_neg (by omega), if_neg (by omega), if_neg (by omega), if_neg (by omega), if_pos (by omega)]
    rw [show B + (8 + (o - 682)) - (B + 1 + 6 + 1) = (o - 42) % 40 by omega]

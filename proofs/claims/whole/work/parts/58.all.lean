theorem gr_R.swap {K T : Int} {σ0 τ0 σ τ σ1 τ1 : gx_M} (h : gr_R K T σ0 τ0 σ τ) (hc : ∀ o k, o < 722 → σ1 o k = σ o k) (hm : ∀ o k, 722 ≤ o → τ1 o k = τ o k) : gr_R K T σ1 τ1 σ1 τ1 := by
  obtain ⟨n, u, ⟨hB, ⟨hW, hV, hT, hst, hod, hK⟩, ⟨hu, hu1, hu2⟩, hP, hN, hQ, hS⟩, hE⟩ := h
  have h40 := hW.2
  have e2 := hc 24 2 (by omega)
  have e10 := hm 722 10 (by omega)
  refine ⟨n, u, ⟨⟨fun _ _ _ => rfl, fun _ _ _ => rfl⟩, ⟨⟨(hc _ _ (by omega)).trans hW.1, h40⟩, ⟨(hm _ _ (by omega)).trans hV.1, h40⟩, ?_, by rw [e2]; exact hst, by rw [e10]; exact hod, hK⟩, ⟨hu, (hc _ _ (by omega)).trans hu1, (hm _ _ (by omega)).trans hu2⟩, fun p hp => ?_, fun o g1 g2 => (hc _ _ (by omega)).trans (hN o g1 g2), hQ.keep (fun q hq k => hc _ _ (by omega)) (hc _ _ (by omega)) (fun o k g1 g2 => hm _ _ (by omega)), ?_⟩, ?_, ?_, fun i hi k g1 g2 => ?_⟩
  · rw [e2, e10]
    exact hT.congr (fun i hi k hk => hc _ _ (by omega)) (fun i hi f hf => hm _ _ (by omega))
  · exact (hP p hp).keep (by omega) (Int.le_refl _) (hc _ _ (by omega)) (hc _ _ (by omega)) (fun i hi k hk => hc _ _ (by omega)) (hm _ _ (by omega)) (fun b hb => hm _ _ (by omega)) (by rw [e10]; exact Int.le_refl _)
  · unfold gr_S
    rw [hc 0 0 (by omega), hc 0 4 (by omega), hc 0 5 (by omega), hm 722 0 (by omega), hm 722 1 (by omega), hm 722 8 (by omega)]
    exact hS
  · rw [hc _ _ (by omega), hc _ _ (by omega)]
    exact hE.1
  · rw [hc _ _ (by omega), hc _ _ (by omega)]
    exact hE.2.1
  · rw [hc _ _ (by omega), hc _ _ (by omega)]
    exact hE.2.2 i hi k g1 g2
def gf_R (n : Nat) (σ : gx_M) : Prop := gr_R (200 * ((min n 600 : Nat) : Int)) (1000 * ((min n 600 : Nat) : Int)) σ σ σ σ
theorem gf_op {f g : gx_M → Option (Int32 × gx_M)} (h : gr_op f g) : gs_op gf_R f g := by
  intro n σ hn hR
  unfold gf_R at hR ⊢
  rw [show min n 600 = n by omega] at hR
  obtain ⟨r, σ1, τ1, e1, -, h1⟩ := h _ _ σ σ σ σ hR (by omega) (by omega)
  obtain ⟨_, _, hH1, _⟩ := h1
  have hb := hH1.1.1
  obtain ⟨r', σ2, τ2, e2, e3, h2⟩ := h _ _ σ σ1 σ σ1 (by
    have hs := hR.swap (σ1 := σ) (τ1 := σ1) (fun _ _ _ => rfl) hb
    exact hs) (by omega) (by omega)
  rw [e1] at e2
  cases e2
  obtain ⟨_, _, hH2, _⟩ := id h2
  have hb2 := hH2.1.2
  refine ⟨r, σ1, τ2, e1, e3, ?_⟩
  rw [show min (n + 1) 600 = n + 1 by omega, show 200 * ((n + 1 : Nat) : Int) = 200 * (n : Int) + 200 by omega, show 1000 * ((n + 1 : Nat) : Int) = 1000 * (n : Int) + 1000 by omega]
  exact h2.swap hb2 (fun _ _ _ => rfl)
theorem gf_all : gs_all 2000 gf_R := ⟨fun a b c d => gf_op (gr_queue 2000 a b c d), fun a => gf_op (gr_key 2000 a), fun a b c d e => gf_op (gr_submit 2000 a b c d e (by decide)), fun a b => gf_op (gr_hold 2000 a b (by decide)), fun a b => gf_op (gr_join 2000 a b (by decide)), fun a => gf_op (gr_seal 2000 a (by decide)), fun a b => gf_op (gr_take 2000 a b (by decide)), fun a => gf_op (gr_ack 2000 a (by decide)), fun a => gf_op (gr_failop 2000 a (by decide)), fun a => gf_op (gr_tick 2000 a (by decide)), fun a => gf_op (gr_revive 2000 a (by decide)), fun a => gf_op (gr_kill 2000 a (by decide)), gf_op (gr_flush 2000 (by decide)), fun a => gf_op (gr_crash 2000 a (by decide)), fun a => gf_op (gr_state 2000 a), fun a => gf_op (gr_failures 2000 a), fun a => gf_op (gr_due 2000 a), fun a => gf_op (gr_holding 2000 a (by decide)), fun a b => gf_op (gr_line 2000 a b (by decide)), fun a => gf_op (gr_count 2000 a (by decide))⟩
theorem gf_mono (n : Nat) (σ : gx_M) (h : gf_R n σ) : gf_R (n + 1) σ := by
  unfold gf_R at h ⊢
  exact h.mono (by omega) (by omega) (by omega)
theorem gf_0 (x : Int32) : gf_R 0 (gl_s0 x) := by
  show gr_R 0 0 _ _ _ _
  have z : ∀ o k, 6 ≤ o → o < 42 → gl_s0 x o k = 0 := fun o k h1 h2 => by
    unfold gl_s0
    rw [if_neg (by omega), if_neg (by omega), if_neg (by omega), if_neg (by omega), if_neg (by omega)]
  have z2 : ∀ o k, 728 ≤ o → gl_s0 x o k = 0 := fun o k h1 => by
    unfold gl_s0
    rw [if_neg (by omega), if_neg (by omega), if_neg (by omega), if_neg (by omega), if_neg (by omega)]
  have m0 : ∀ k, gl_s0 x 722 k = if k = 0 then x else if k = 8 then -1 else 0 := fun k => rfl
  refine ⟨0, 0, ⟨⟨fun _ _ _ => rfl, fun _ _ _ => rfl⟩, ⟨⟨z _ _ (by decide) (by decide), by decide⟩, ⟨rfl, by decide⟩, ⟨fun i hi => by omega, fun i hi => by omega, fun i j hi => by omega⟩, by rw [z _ _ (by decide) (by decide)]; decide, by rw [show gl_s0 x 722 10 = 0 from rfl]; decide, by decide, by decide⟩, ⟨by decide, z _ _ (by decide) (by decide), rfl⟩, fun p hp => ?_, fun o h1 h2 => ?_, gr_Q.of (fun q hq => ?_), ?_⟩, ?_, ?_, fun i hi => by omega⟩
  · obtain rfl : p = 0 := by omega
    exact ⟨0, by decide, z _ _ (by decide) (by decide), z2 _ _ (by decide), ⟨fun i hi => by omega, fun i hi => by omega, fun i j hi => by omega⟩, by rw [z _ _ (by decide) (by decide)]; decide⟩
  · unfold gl_s0
    rw [if_neg (by omega), if_neg (by omega), if_pos ⟨h1, h2⟩, if_pos rfl]
  · have e : ∀ k, gl_s0 x (2 + q) k = if k = 0 ∨ k = 4 then 1 else 0 := fun k => by
      unfold gl_s0
      rw [if_neg (by omega), if_pos (by omega)]
    have m1 : gl_s0 x 723 q = 1 := by
      show (if q < 4 then (1 : Int32) else 0) = 1
      exact if_pos hq
    have m2 : gl_s0 x 727 q = 1 := by
      show (if q < 4 then (1 : Int32) else 0) = 1
      exact if_pos hq
    exact gr_V.of (v0 := 1) (v1 := 0) (v2 := 0) (v3 := 0) (v4 := 1) (v5 := 0) (e 0) (e 1) (e 2) (e 3) (e 4) (e 5) m1 rfl rfl rfl m2 rfl ⟨by decide, by decide, by decide, by decide, by show (0 : Int) ≤ 0 ∧ (0 : Int) ≤ (gl_s0 x 0 4).toInt; rw [show gl_s0 x 0 4 = 0 from rfl]; decide⟩
  · exact ⟨rfl, rfl, by rw [show gl_s0 x 0 4 = 0 from rfl]; decide, rfl, by rw [show gl_s0 x 0 5 = -1 from rfl]; decide⟩
  · rw [z _ _ (by decide) (by decide), z _ _ (by decide) (by decide)]
  · rw [z _ _ (by decide) (by decide), z _ _ (by decide) (by decide)]

/-! THE LAW ANSWERS 1 -/
def D00 : dD := (n00, fun _ => 0, T00, w0, fun _ => w0)
theorem d00_ok : DOk D00 := ⟨by decide, ⟨Nat.zero_le _, fun k hk => absurd hk (by show ¬ k < 0; omega)⟩, by decide, fun k => ⟨Nat.zero_le _, fun l hl => by cases hl⟩⟩
theorem d_first : ∃ t u, fX8_init 1 (wN mS0 8 16) = some ((), t) ∧ sZ t = 112 ∧ fX9_init 113 (wN t 9 33) = some ((), u) ∧ Tn 60000 0 u := by
  obtain ⟨t, e1, hz, hw, hS, hN, hT, hCW, h48, h16, h93, h95, h92⟩ := c_init8
  obtain ⟨u, e2, f1, f2, f3⟩ := x_init9 hz
  have hK := rlN_K hz
  have g : ∀ b, b ≤ 112 → sI u b = sI t b ∧ sL u b = sL t b ∧ sP u b = sP t b ∧ sH u b = sH t b := fun b hb => by
    obtain ⟨a1, a2, a3, a4⟩ := hK b hb
    refine ⟨(f1.1 b (by omega)).trans a1, ?_, ?_, ?_⟩
    · rw [f1.L]; exact a2
    · rw [f1.P]; exact a3
    · rw [f1.H]; exact a4
  have zu : sZ u = 124 := by rw [f1.Z]; exact rlN_z hz
  have wu : sW u ≤ 60000 := by
    rw [f1.W, rlN_w]
    omega
  have hRT : RT u := (rlN_T hz).mv f1.2
  have hb : ∀ b, b ≠ 118 → sI u b = sI (rlN t) b := fun b h => f1.1 b h
  have gz : ∀ i, i < 860 → cP i = false → sI u 118 i = nI 0 := fun i hi h => by
    have := f3 i hi
    rw [Nat.zero_add, h] at this
    exact this
  refine ⟨t, u, e1, hz, e2, D00, ?_, ?_, d00_ok, by omega, Nat.le_trans wu (Nat.le_add_right _ _)⟩
  · have e4 : sP u 4 16 = 0 := by rw [(g 4 (by decide)).2.2.1]; exact h16
    have e93 : sP u 93 5 = 95 := by rw [(g 93 (by decide)).2.2.1]; exact h93
    have e92 : ∀ i, sP u 92 i = 0 := fun i => by rw [(g 92 (by decide)).2.2.1]; exact h92 i
    refine ⟨hS.mv (fun b hb => (g b hb).2.2.2) (fun b j hb _ _ _ _ => by rw [(g b hb).2.2.1]), hN.mv (g 1 (by decide)).1 (g 1 (by decide)).2.1, fun k hk => absurd hk (by show ¬ k < 0; omega), fun k hk => ?_, ?_, h48.mvP2 (fun b hb => (g b (by have := hb.2; omega)).2.2.2) (fun b hb i _ => by rw [(g b (by have := hb.2; omega)).2.2.1]), ⟨by omega, ⟨1, ?_, by decide, by decide⟩, Or.inl e93, Or.inl e4, fun i _ h0 => absurd (e92 i) h0, fun i j _ _ h0 => absurd (e92 j) h0, fun i hi => absurd hi (by show ¬ i < 0; omega)⟩⟩
    · rw [(g (98 + 2 * k) (by omega)).1, (g (99 + 2 * k) (by omega)).2.1]
      exact hT k hk
    · exact hCW.mv (fun b hb => (g b (by have := hb.2; omega)).2.2.2) (fun b hb => ⟨(g b (by have := hb.2; omega)).1, (g b (by have := hb.2; omega)).2.2.1⟩) (fun h0 => absurd h16 h0)
    · show sH u (sP u 93 5) = (11, 1)
      rw [e93, (g 95 (by decide)).2.2.2]
      exact h95
  · refine ⟨⟨hRT, ?_⟩, ?_, fun k hk => absurd hk (by show ¬ k < 0; omega), fun k hk => ?_, fun i hi => absurd hi (by show ¬ i < 0; omega)⟩
    · exact ⟨gz 0 (by decide) (by decide), gz 1 (by decide) (by decide), gz 2 (by decide) (by decide), gz 3 (by decide) (by decide), gz 4 (by decide) (by decide), gz 5 (by decide) (by decide), gz 6 (by decide) (by decide), gz 7 (by decide) (by decide), gz 8 (by decide) (by decide), fun p hp => absurd hp (by show ¬ p < 0; omega), fun f hf => absurd hf (by show ¬ f < 0; omega), fun r hr => ⟨gz (85 + r) (by omega) (by unfold cP; exact decide_eq_false (by omega)), fun h0 => absurd h0 (by show ¬ 0 < 0; omega)⟩, w0_ok, ⟨gz 289 (by decide) (by decide), fun k hk => absurd hk (by show ¬ k < 0; omega), fun j hj => absurd hj (by show ¬ j < 0; omega)⟩⟩
    · exact (rlN_N hz).mv (hb 113 (by decide)) (by rw [f1.L])
    · have h := rlN_Tr hz k hk
      rw [hb 114 (by decide), hb 115 (by decide), f1.L]
      exact h
theorem law_ok (v : mE) (h : eN v ≤ 3072) : ∃ t : mS, fL_law v mS0 = some (1, t) ∧ sZ t ≤ 600000 ∧ sW t ≤ 7302250 := by
  obtain ⟨t, u, e1, hz, e2, hT⟩ := d_first
  have k9 : (sH (wN t 9 33) 113).1 = 9 := by rw [sH_wN, hz, if_pos rfl]
  obtain ⟨w, r1, r2, r3⟩ := lp_loop (v := v) h (W0 := 60000) (Zb := 600000) (Wb := 7302250) (by decide) (by decide) fu 0 u (by unfold fu; decide) (by decide) hT
  refine ⟨w, ?_, r2, r3⟩
  unfold fL_law
  refine Eq.trans (n_new (z := 1) rfl) ?_
  refine Eq.trans (e_callV (by rfl)) ?_
  refine Eq.trans (x_call e1) ?_
  refine Eq.trans (n_new (z := 113) (by omega)) ?_
  refine Eq.trans (e_callV (by exact k9)) ?_
  refine Eq.trans (x_call e2) ?_
  exact r1

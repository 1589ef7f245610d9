/-! THE CLASS'S OBJECT MADE -/
def a0N : mS := wI (wP (wN (wP (wN (wN mS0 8 16) 15 4) 1 0 2) 10 900) 1 1 3) 1 2 (nI 0)
theorem c_init8 : ∃ t, fX8_init 1 (wN mS0 8 16) = some ((), t) ∧ sZ t = 112 ∧ sW t ≤ 3000 ∧ CS t ∧ CN t n00 ∧ CT t T00 ∧ CW t 4 w0 ∧ WoS t 48 ∧ sP t 4 16 = 0 ∧ sP t 93 5 = 95 ∧ sH t 95 = (11, 1) ∧ ∀ i, sP t 92 i = 0 := by
  obtain ⟨u1, f1, g1, w1, q1⟩ := c_worldNew a0N
  have z1 : sZ u1 = 47 := g1.2.1
  have o1 := fun b (hb : b ≤ 3) => g1.1 b (by exact hb)
  have h11 : sH u1 1 = (8, 16) := (o1 1 (by decide)).2.2.2
  obtain ⟨u2, hu2⟩ : ∃ u2, u2 = wP u1 1 3 4 := ⟨_, rfl⟩
  have z2 : sZ u2 = 47 := by rw [hu2]; exact z1
  obtain ⟨u3, f3, g3, w3, q3⟩ := c_worldNew u2
  have z3 : sZ u3 = 91 := by rw [g3.2.1, z2]
  rw [z2] at f3 w3 q3
  obtain ⟨u4, hu4⟩ : ∃ u4, u4 = wP u3 1 4 48 := ⟨_, rfl⟩
  have z4 : sZ u4 = 91 := by rw [hu4]; exact z3
  have o3 := fun b (hb : b ≤ 47) => g3.1 b (by rw [z2]; exact hb)
  have h13 : sH u3 1 = (8, 16) := by
    rw [(o3 1 (by decide)).2.2.2, hu2]
    exact h11
  -- what the cells 1, 2, 3 hold
  have H1 : sH u4 1 = (8, 16) := by rw [hu4]; exact h13
  have H2 : sH u4 2 = (15, 4) := by
    rw [hu4]
    show sH u3 2 = _
    rw [(o3 2 (by decide)).2.2.2, hu2]
    show sH u1 2 = _
    rw [(o1 2 (by decide)).2.2.2]
    rfl
  have H3 : sH u4 3 = (10, 900) := by
    rw [hu4]
    show sH u3 3 = _
    rw [(o3 3 (by decide)).2.2.2, hu2]
    show sH u1 3 = _
    rw [(o1 3 (by decide)).2.2.2]
    rfl
  have hp : ∀ j, j ≠ 4 → j ≠ 3 → sP u4 1 j = sP a0N 1 j := fun j h4 h3 => by
    rw [hu4, sP_wP, if_neg (by omega), (o3 1 (by decide)).2.2.1, hu2, sP_wP, if_neg (by omega), (o1 1 (by decide)).2.2.1]
  have P0 : sP u4 1 0 = 2 := by rw [hp 0 (by decide) (by decide)]; rfl
  have P1 : sP u4 1 1 = 3 := by rw [hp 1 (by decide) (by decide)]; rfl
  have P3 : sP u4 1 3 = 4 := by
    rw [hu4, sP_wP, if_neg (by omega), (o3 1 (by decide)).2.2.1, hu2, sP_wP, if_pos ⟨rfl, rfl⟩]
  have P4 : sP u4 1 4 = 48 := by rw [hu4, sP_wP, if_pos ⟨rfl, rfl⟩]
  have I2 : sI u4 1 2 = nI 0 := by
    rw [hu4]
    show sI u3 1 2 = _
    rw [(o3 1 (by decide)).1, hu2]
    show sI u1 1 2 = _
    rw [(o1 1 (by decide)).1]
    rfl
  have hK := fiN_K z4
  have hcw4 : CW u4 4 w0 ∧ sP u4 4 16 = 0 := by
    have e : sZ a0N + 1 = 4 := rfl
    rw [e] at w1 q1
    have w2 : CW u2 4 w0 := by
      rw [hu2]
      refine w1.mv (fun _ _ => rfl) (fun b hb => ⟨rfl, ?_⟩) (fun h0 => absurd q1 h0)
      funext j
      rw [sP_wP, if_neg (by have := hb.1; omega)]
    have q2 : sP u2 4 16 = 0 := by rw [hu2, sP_wP, if_neg (by omega)]; exact q1
    have w3' : CW u3 4 w0 := w2.mv (fun b hb => (o3 b (by have := hb.2; omega)).2.2.2) (fun b hb => ⟨(o3 b (by have := hb.2; omega)).1, (o3 b (by have := hb.2; omega)).2.2.1⟩) (fun h0 => absurd q2 h0)
    have q3' : sP u3 4 16 = 0 := by rw [(o3 4 (by decide)).2.2.1]; exact q2
    refine ⟨?_, by rw [hu4, sP_wP, if_neg (by omega)]; exact q3'⟩
    rw [hu4]
    refine w3'.mv (fun _ _ => rfl) (fun b hb => ⟨rfl, ?_⟩) (fun h0 => absurd q3' h0)
    funext j
    rw [sP_wP, if_neg (by have := hb.1; omega)]
  have hw48 : WoS u4 48 := by
    rw [hu4]
    refine w3.1.mvP2 (fun _ _ => rfl) (fun b hb i _ => ?_)
    rw [sP_wP, if_neg (by have := hb.1; omega)]
  obtain ⟨m1, m2, m3⟩ := fiN_M z4 H1 H2 H3 P0 P1 P3 P4 I2
  refine ⟨fiN u4, ?_, fiN_z z4, ?_, fiN_S z4 H1 H2 H3 P0 P1 P3 P4 I2, fiN_N z4 H1 H2 H3 P0 P1 P3 P4 I2, fiN_T z4 H1 H2 H3 P0 P1 P3 P4 I2, ?_, ?_, ?_, m1, m2, m3⟩
  · unfold fX8_init
    rw [li_4, li_900, li_0]
    refine (i_obj (by decide)).trans ?_
    refine Eq.trans (n_na (z := 2) (by decide) rfl) ?_
    refine Eq.trans (xPR (by rfl)) ?_
    refine Eq.trans (n_na (z := 3) (by decide) rfl) ?_
    refine Eq.trans (xPR (by rfl)) ?_
    refine Eq.trans (xPI (by rfl)) ?_
    refine Eq.trans (f1 _) ?_
    refine Eq.trans (xPR (by rw [h11])) ?_
    show bNew 7 _ (wP u1 1 3 4) = _
    rw [← hu2]
    refine Eq.trans (f3 _) ?_
    refine Eq.trans (xPR (by rw [h13])) ?_
    show bNa 16 (3 : Int32) _ (wP u3 1 4 48) = _
    rw [← hu4]
    exact c_i5 z4 H1 H2 H3 P0 P1 P3 P4 I2
  · rw [fiN_w, hu4]
    show sW u3 + 662 ≤ 3000
    rw [g3.2.2, hu2]
    show sW u1 + 353 + 662 ≤ 3000
    rw [g1.2.2]
    decide
  · refine hcw4.1.mv (fun b hb => (hK b (by have := hb.1; omega) (by have := hb.2; omega)).2.2.2) (fun b hb => ⟨(hK b (by have := hb.1; omega) (by have := hb.2; omega)).1, (hK b (by have := hb.1; omega) (by have := hb.2; omega)).2.2.1⟩) (fun h0 => absurd hcw4.2 h0)
  · exact hw48.mvP2 (fun b hb => (hK b (by have := hb.1; omega) (by have := hb.2; omega)).2.2.2) (fun b hb i _ => by rw [(hK b (by have := hb.1; omega) (by have := hb.2; omega)).2.2.1])
  · rw [(hK 4 (by decide) (by decide)).2.2.1]; exact hcw4.2

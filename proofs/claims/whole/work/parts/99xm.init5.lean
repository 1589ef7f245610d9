/-! THE REFERENCE'S OBJECT MADE -/
def rcN (t : mS) : mS := wP (wN (wP (wN (wP (wN (wP (wN (wP (wN (wP (wN (wP (wN (wI (wI (wP (wN (wP (wN (wP (wN (wP (wN (wL (wN t 9 33) 113 3 (lN 1)) 11 4) 113 4 114) 11 4) 113 5 115) 12 240) 113 6 116) 10 900) 113 7 117) 113 10 mI) 113 11 mI) 11 4300) 113 24 118) 11 860) 113 25 119) 12 70) 113 26 120) 13 140) 113 27 121) 11 4096) 113 29 122) 11 36864) 113 30 123) 11 8) 113 32 124
def rlN (t : mS) : mS := wI (wI (wI (wI (rcN t) 115 0 mI) 115 1 mI) 115 2 mI) 115 3 mI
def KY (c t : mS) : Prop := ∀ b, b ≤ 112 → sI t b = sI c b ∧ sL t b = sL c b ∧ sP t b = sP c b ∧ sH t b = sH c b
section INM
variable {c t : mS}
theorem KY.rf : KY c c := fun _ _ => ⟨rfl, rfl, rfl, rfl⟩
theorem KY.i {a j : Nat} {x : Int32} (h : KY c t) (ha : 112 < a) : KY c (wI t a j x) := fun b h2 => ⟨by
  rw [← (h b h2).1]
  funext i
  exact sI_wI_ne (Or.inl (by omega)), (h b h2).2⟩
theorem KY.l {a j : Nat} {x : Int64} (h : KY c t) (ha : 112 < a) : KY c (wL t a j x) := fun b h2 => ⟨(h b h2).1, by
  rw [← (h b h2).2.1]
  funext i
  exact sL_ne (Or.inl (by omega)), (h b h2).2.2⟩
theorem KY.p {a j x : Nat} (h : KY c t) (ha : 112 < a) : KY c (wP t a j x) := fun b h2 => ⟨(h b h2).1, (h b h2).2.1, by
  rw [← (h b h2).2.2.1]
  funext i
  rw [sP_wP, if_neg (by omega)], (h b h2).2.2.2⟩
theorem KY.n {k n : Nat} (h : KY c t) (hz : 112 ≤ sZ t) : KY c (wN t k n) := fun b h2 => by
  obtain ⟨a1, a2, a3, a4⟩ := h b h2
  refine ⟨?_, ?_, ?_, ?_⟩
  · rw [← a1]
    funext i
    rw [sI_wN, if_neg (by omega)]
  · rw [← a2]
    funext i
    rw [sL_wN, if_neg (by omega)]
  · rw [← a3]
    funext i
    rw [sP_wN, if_neg (by omega)]
  · rw [← a4, sH_wN, if_neg (by omega)]
theorem rlN_K (hz : sZ c = 112) : KY c (rlN c) := by
  unfold rlN rcN
  repeat (first | refine KY.i ?_ (by decide) | refine KY.p ?_ (by decide) | refine KY.l ?_ (by decide) | refine KY.n ?_ (by simp [sZ_wN, sZ_wI, sZ_wP, sZ_wL, hz]))
  exact KY.rf
theorem rlN_z (hz : sZ c = 112) : sZ (rlN c) = 124 := by
  have e : sZ (rlN c) = sZ c + 12 := rfl
  omega
theorem rlN_w : sW (rlN c) = sW c + (33 + 4 + 4 + 240 + 900 + 4300 + 860 + 70 + 140 + 4096 + 36864 + 8) := by
  simp only [rlN, rcN, sW_wI, sW_wP, sW_wN, sW_wL, Nat.add_assoc]
theorem rlN_T (hz : sZ c = 112) : RT (rlN c) := by
  refine ⟨?_, ?_, ?_, ?_, ?_, ?_, ?_, ?_, ?_, ?_, ?_, ?_, ?_, ?_, ?_, ?_, ?_, ?_, ?_, ?_, ?_, ?_, ?_⟩
  all_goals simp [rlN, rcN, sP_wP, sP_wN, sP_wI, sP_wL, sH_wN, sH_wI, sH_wP, sH_wL, sI_wI, sI_wN, sI_wP, sI_wL, sL_wL, sL_wN, sL_wI, sL_wP, sZ_wN, sZ_wI, sZ_wP, sZ_wL, hz]
theorem rlN_N (hz : sZ c = 112) : RN (rlN c) n00 := by
  refine ⟨?_, ?_, ?_, ?_, ?_, ?_, ?_⟩
  · show sI (rlN c) 113 0 = (0 : Int32)
    simp [rlN, rcN, sP_wP, sP_wN, sP_wI, sP_wL, sH_wN, sH_wI, sH_wP, sH_wL, sI_wI, sI_wN, sI_wP, sI_wL, sL_wL, sL_wN, sL_wI, sL_wP, sZ_wN, sZ_wI, sZ_wP, sZ_wL, hz]
  · show sL (rlN c) 113 2 = (0 : Int64)
    simp [rlN, rcN, sP_wP, sP_wN, sP_wI, sP_wL, sH_wN, sH_wI, sH_wP, sH_wL, sI_wI, sI_wN, sI_wP, sI_wL, sL_wL, sL_wN, sL_wI, sL_wP, sZ_wN, sZ_wI, sZ_wP, sZ_wL, hz]
  · show sL (rlN c) 113 3 = lN 1
    simp [rlN, rcN, sP_wP, sP_wN, sP_wI, sP_wL, sH_wN, sH_wI, sH_wP, sH_wL, sI_wI, sI_wN, sI_wP, sI_wL, sL_wL, sL_wN, sL_wI, sL_wP, sZ_wN, sZ_wI, sZ_wP, sZ_wL, hz]
  · show sI (rlN c) 113 10 = mI
    simp [rlN, rcN, sP_wP, sP_wN, sP_wI, sP_wL, sH_wN, sH_wI, sH_wP, sH_wL, sI_wI, sI_wN, sI_wP, sI_wL, sL_wL, sL_wN, sL_wI, sL_wP, sZ_wN, sZ_wI, sZ_wP, sZ_wL, hz]
  · show sI (rlN c) 113 11 = mI
    simp [rlN, rcN, sP_wP, sP_wN, sP_wI, sP_wL, sH_wN, sH_wI, sH_wP, sH_wL, sI_wI, sI_wN, sI_wP, sI_wL, sL_wL, sL_wN, sL_wI, sL_wP, sZ_wN, sZ_wI, sZ_wP, sZ_wL, hz]
  · show sI (rlN c) 113 8 = (0 : Int32)
    simp [rlN, rcN, sP_wP, sP_wN, sP_wI, sP_wL, sH_wN, sH_wI, sH_wP, sH_wL, sI_wI, sI_wN, sI_wP, sI_wL, sL_wL, sL_wN, sL_wI, sL_wP, sZ_wN, sZ_wI, sZ_wP, sZ_wL, hz]
  · show sI (rlN c) 113 28 = (0 : Int32)
    simp [rlN, rcN, sP_wP, sP_wN, sP_wI, sP_wL, sH_wN, sH_wI, sH_wP, sH_wL, sI_wI, sI_wN, sI_wP, sI_wL, sL_wL, sL_wN, sL_wI, sL_wP, sZ_wN, sZ_wI, sZ_wP, sZ_wL, hz]
theorem rlN_Tr (hz : sZ c = 112) : RTr (rlN c) T00 := by
  intro k hk
  have hk4 : k = 0 ∨ k = 1 ∨ k = 2 ∨ k = 3 := by omega
  refine ⟨?_, ?_, fun l hl => by cases hl⟩
  · show sI (rlN c) 114 k = (0 : Int32)
    simp [rlN, rcN, sP_wP, sP_wN, sP_wI, sP_wL, sH_wN, sH_wI, sH_wP, sH_wL, sI_wI, sI_wN, sI_wP, sI_wL, sL_wL, sL_wN, sL_wI, sL_wP, sZ_wN, sZ_wI, sZ_wP, sZ_wL, hz]
  · show sI (rlN c) 115 k = mI
    rcases hk4 with h | h | h | h <;> subst h <;> simp [rlN, rcN, sP_wP, sP_wN, sP_wI, sP_wL, sH_wN, sH_wI, sH_wP, sH_wL, sI_wI, sI_wN, sI_wP, sI_wL, sL_wL, sL_wN, sL_wI, sL_wP, sZ_wN, sZ_wI, sZ_wP, sZ_wL, hz]
theorem x_i113 {s : mS} (hT : RT s) {k : Nat} (hk : k < 4) (n : Nat) : fX9_init_113 (n + 1) 113 (nI k) s = fX9_init_113 n 113 (nI (k + 1)) (wI s 115 k mI) := by
  have h5 : sP s 113 5 = 115 := hT.2.2.1
  have h115 : sH s 115 = (11, 4) := hT.2.2.2.2.2.2.2.2.2.2.2.2.2.1
  rw [qX9_init_113, e_if, if_neg (by rw [li_4, le_i (by omega) (by omega)]; omega), xGR hT.k h5, show (-1 : Int32) = mI from rfl, xSI h115 hk (by decide), nI_succ1]
theorem x_init9 (hz : sZ c = 112) : ∃ u, fX9_init 113 (wN c 9 33) = some ((), u) ∧ Cb (rlN c) u 0 cP := by
  have k0 : (sH (wN c 9 33) 113).1 = 9 := by rw [sH_wN, hz, if_pos rfl]
  have hT : RT (rlN c) := rlN_T hz
  obtain ⟨u, e1, e2⟩ := x_clear (b := 0) hT (by decide)
  refine ⟨u, ?_, e2⟩
  unfold fX9_init
  rw [li_4, li_240, li_900, show (-1 : Int32) = mI from rfl, li_4300, li_860, li_70, li_140, li_4096, li_36864, li_8, li_0]
  refine (i_obj (by rw [k0]; decide)).trans ?_
  refine Eq.trans (xPL (by exact k0)) ?_
  refine Eq.trans (n_na (z := 114) (by decide) (by simp [sZ_wN, sZ_wI, sZ_wP, sZ_wL, hz])) ?_
  refine Eq.trans (xPR (by simp [sH_wN, sH_wI, sH_wP, sH_wL, sZ_wN, sZ_wI, sZ_wP, sZ_wL, hz])) ?_
  refine Eq.trans (n_na (z := 115) (by decide) (by simp [sZ_wN, sZ_wI, sZ_wP, sZ_wL, hz])) ?_
  refine Eq.trans (xPR (by simp [sH_wN, sH_wI, sH_wP, sH_wL, sZ_wN, sZ_wI, sZ_wP, sZ_wL, hz])) ?_
  refine Eq.trans (n_na (z := 116) (by decide) (by simp [sZ_wN, sZ_wI, sZ_wP, sZ_wL, hz])) ?_
  refine Eq.trans (xPR (by simp [sH_wN, sH_wI, sH_wP, sH_wL, sZ_wN, sZ_wI, sZ_wP, sZ_wL, hz])) ?_
  refine Eq.trans (n_na (z := 117) (by decide) (by simp [sZ_wN, sZ_wI, sZ_wP, sZ_wL, hz])) ?_
  refine Eq.trans (xPR (by simp [sH_wN, sH_wI, sH_wP, sH_wL, sZ_wN, sZ_wI, sZ_wP, sZ_wL, hz])) ?_
  refine Eq.trans (xPI (by simp [sH_wN, sH_wI, sH_wP, sH_wL, sZ_wN, sZ_wI, sZ_wP, sZ_wL, hz])) ?_
  refine Eq.trans (xPI (by simp [sH_wN, sH_wI, sH_wP, sH_wL, sZ_wN, sZ_wI, sZ_wP, sZ_wL, hz])) ?_
  refine Eq.trans (n_na (z := 118) (by decide) (by simp [sZ_wN, sZ_wI, sZ_wP, sZ_wL, hz])) ?_
  refine Eq.trans (xPR (by simp [sH_wN, sH_wI, sH_wP, sH_wL, sZ_wN, sZ_wI, sZ_wP, sZ_wL, hz])) ?_
  refine Eq.trans (n_na (z := 119) (by decide) (by simp [sZ_wN, sZ_wI, sZ_wP, sZ_wL, hz])) ?_
  refine Eq.trans (xPR (by simp [sH_wN, sH_wI, sH_wP, sH_wL, sZ_wN, sZ_wI, sZ_wP, sZ_wL, hz])) ?_
  refine Eq.trans (n_na (z := 120) (by decide) (by simp [sZ_wN, sZ_wI, sZ_wP, sZ_wL, hz])) ?_
  refine Eq.trans (xPR (by simp [sH_wN, sH_wI, sH_wP, sH_wL, sZ_wN, sZ_wI, sZ_wP, sZ_wL, hz])) ?_
  refine Eq.trans (n_na (z := 121) (by decide) (by simp [sZ_wN, sZ_wI, sZ_wP, sZ_wL, hz])) ?_
  refine Eq.trans (xPR (by simp [sH_wN, sH_wI, sH_wP, sH_wL, sZ_wN, sZ_wI, sZ_wP, sZ_wL, hz])) ?_
  refine Eq.trans (n_na (z := 122) (by decide) (by simp [sZ_wN, sZ_wI, sZ_wP, sZ_wL, hz])) ?_
  refine Eq.trans (xPR (by simp [sH_wN, sH_wI, sH_wP, sH_wL, sZ_wN, sZ_wI, sZ_wP, sZ_wL, hz])) ?_
  refine Eq.trans (n_na (z := 123) (by decide) (by simp [sZ_wN, sZ_wI, sZ_wP, sZ_wL, hz])) ?_
  refine Eq.trans (xPR (by simp [sH_wN, sH_wI, sH_wP, sH_wL, sZ_wN, sZ_wI, sZ_wP, sZ_wL, hz])) ?_
  refine Eq.trans (n_na (z := 124) (by decide) (by simp [sZ_wN, sZ_wI, sZ_wP, sZ_wL, hz])) ?_
  refine Eq.trans (xPR (by simp [sH_wN, sH_wI, sH_wP, sH_wL, sZ_wN, sZ_wI, sZ_wP, sZ_wL, hz])) ?_
  have hT0 : RT (rcN c) := hT
  have hT1 : RT (wI (rcN c) 115 0 mI) := hT
  have hT2 : RT (wI (wI (rcN c) 115 0 mI) 115 1 mI) := hT
  have hT3 : RT (wI (wI (wI (rcN c) 115 0 mI) 115 1 mI) 115 2 mI) := hT
  show fX9_init_113 (4995 + 1 + 1 + 1 + 1 + 1) 113 (nI 0) (rcN c) = _
  rw [x_i113 hT0 (k := 0) (by decide), x_i113 hT1 (k := 1) (by decide), x_i113 hT2 (k := 2) (by decide), x_i113 hT3 (k := 3) (by decide), qX9_init_113, e_if, if_pos (by decide)]
  show fX9_init_131 113 (rlN c) = _
  unfold fX9_init_131
  rw [li_0, e_callV hT.k, x_call e1]
  rfl
end INM

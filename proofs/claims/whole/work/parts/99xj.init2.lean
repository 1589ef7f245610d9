/-! THE FIRST OBJECT OF THE CLASS -/
def u5N (c : mS) : mS := wI (wP (wN c 16 3) 1 5 92) 1 6 (nI 0)
def u6N (c : mS) : mS := wI (wI (wL (wL (wI (wP (wN (wP (plN (u5N c)) 1 9 93) 11 8) 1 10 97) 1 11 (nI 0)) 1 12 (lN 0)) 1 13 (lN 1)) 1 14 mI) 1 15 mI
def u7N (c : mS) : mS := trS (trS (trS (trS (u6N c) 0) 1) 2) 3
def fiN (c : mS) : mS := rdN (u7N c)
/-- the worlds' cells as they were -/
def KX (c t : mS) : Prop := ∀ b, 2 < b → b ≤ 91 → sI t b = sI c b ∧ sL t b = sL c b ∧ sP t b = sP c b ∧ sH t b = sH c b
section INJ
variable {c t : mS}
theorem KX.rf : KX c c := fun _ _ _ => ⟨rfl, rfl, rfl, rfl⟩
theorem KX.i {a j : Nat} {x : Int32} (h : KX c t) (ha : a ≤ 2 ∨ 91 < a) : KX c (wI t a j x) := fun b h1 h2 => ⟨by
  rw [← (h b h1 h2).1]
  funext i
  exact sI_wI_ne (Or.inl (by omega)), (h b h1 h2).2⟩
theorem KX.l {a j : Nat} {x : Int64} (h : KX c t) (ha : a ≤ 2 ∨ 91 < a) : KX c (wL t a j x) := fun b h1 h2 => ⟨(h b h1 h2).1, by
  rw [← (h b h1 h2).2.1]
  funext i
  exact sL_ne (Or.inl (by omega)), (h b h1 h2).2.2⟩
theorem KX.p {a j x : Nat} (h : KX c t) (ha : a ≤ 2 ∨ 91 < a) : KX c (wP t a j x) := fun b h1 h2 => ⟨(h b h1 h2).1, (h b h1 h2).2.1, by
  rw [← (h b h1 h2).2.2.1]
  funext i
  rw [sP_wP, if_neg (by omega)], (h b h1 h2).2.2.2⟩
theorem KX.n {k n : Nat} (h : KX c t) (hz : 91 ≤ sZ t) : KX c (wN t k n) := fun b h1 h2 => by
  obtain ⟨a1, a2, a3, a4⟩ := h b h1 h2
  refine ⟨?_, ?_, ?_, ?_⟩
  · rw [← a1]
    funext i
    rw [sI_wN, if_neg (by omega)]
  · rw [← a2]
    funext i
    rw [sL_wN, if_neg (by omega)]
  · rw [← a3]
    funext i
    rw [sP_wN, if_neg (by omega)]
  · rw [← a4, sH_wN, if_neg (by omega)]
theorem fiN_K (hz : sZ c = 91) : KX c (fiN c) := by
  unfold fiN u7N u6N u5N rdN lrN wrN tkN trS trN plN
  repeat (first | refine KX.i ?_ (by decide) | refine KX.p ?_ (by decide) | refine KX.l ?_ (by decide) | refine KX.n ?_ (by simp [sZ_wN, sZ_wI, sZ_wP, sZ_wL, hz]))
  exact KX.rf
theorem fiN_z (hz : sZ c = 91) : sZ (fiN c) = 112 := by
  have e : sZ (fiN c) = sZ c + 21 := rfl
  omega
theorem fiN_w : sW (fiN c) = sW c + 662 := by
  have e : sW (fiN c) = sW c + 3 + 7 + 12 + 1 + 13 + 8 + 3 + 60 + 3 + 60 + 3 + 60 + 3 + 60 + 9 + 10 + 14 + 14 + 14 + 5 + 300 := rfl
  omega
theorem fiN_S (hz : sZ c = 91) (H1 : sH c 1 = (8, 16)) (H2 : sH c 2 = (15, 4)) (H3 : sH c 3 = (10, 900)) (P0 : sP c 1 0 = 2) (P1 : sP c 1 1 = 3) (P3 : sP c 1 3 = 4) (P4 : sP c 1 4 = 48) (I2 : sI c 1 2 = nI 0) : CS (fiN c) := by
  refine ⟨⟨?_, ?_, ?_, ?_, ?_, ?_, ?_, ?_, ?_, ?_⟩, ⟨?_, ?_, ?_, ?_⟩, fun k hk => ?_, ⟨?_, ?_, ?_, ?_, ?_⟩, ⟨?_, ?_⟩, ⟨?_, ?_, ?_, ?_, ?_, ?_, ?_, ?_, ?_⟩, ⟨?_, ?_, ?_, ?_⟩⟩
  case refine_15 =>
    have hk4 : k = 0 ∨ k = 1 ∨ k = 2 ∨ k = 3 := by omega
    rcases hk4 with h | h | h | h <;> subst h <;> simp [fiN, u7N, u6N, u5N, trS, trN, plN, rdN, lrN, wrN, tkN, sP_wP, sP_wN, sP_wI, sP_wL, sH_wN, sH_wI, sH_wP, sH_wL, sI_wI, sI_wN, sI_wP, sI_wL, sL_wL, sL_wN, sL_wI, sL_wP, sZ_wN, sZ_wI, sZ_wP, sZ_wL, hz, H1, H2, H3, P0, P1, P3, P4, I2]
  all_goals simp [fiN, u7N, u6N, u5N, trS, trN, plN, rdN, lrN, wrN, tkN, sP_wP, sP_wN, sP_wI, sP_wL, sH_wN, sH_wI, sH_wP, sH_wL, sI_wI, sI_wN, sI_wP, sI_wL, sL_wL, sL_wN, sL_wI, sL_wP, sZ_wN, sZ_wI, sZ_wP, sZ_wL, hz, H1, H2, H3, P0, P1, P3, P4, I2]
end INJ

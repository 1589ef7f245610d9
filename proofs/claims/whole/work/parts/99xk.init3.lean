/-! THE FIRST OBJECT: numbers, trays; the class's init -/
def n00 : dN := (0, lN 0, lN 1, mI, mI, 0, 0)
def T00 : Nat → Nat × Option Nat × (Nat → Int64) := fun _ => (0, none, fun _ => 0)
section INK
variable {c : mS}
theorem fiN_N (hz : sZ c = 91) (H1 : sH c 1 = (8, 16)) (H2 : sH c 2 = (15, 4)) (H3 : sH c 3 = (10, 900)) (P0 : sP c 1 0 = 2) (P1 : sP c 1 1 = 3) (P3 : sP c 1 3 = 4) (P4 : sP c 1 4 = 48) (I2 : sI c 1 2 = nI 0) : CN (fiN c) n00 := by
  refine ⟨?_, ?_, ?_, ?_, ?_, ?_, ?_⟩
  · show sI (fiN c) 1 11 = nI 0
    simp [fiN, u7N, u6N, u5N, trS, trN, plN, rdN, lrN, wrN, tkN, sP_wP, sP_wN, sP_wI, sP_wL, sH_wN, sH_wI, sH_wP, sH_wL, sI_wI, sI_wN, sI_wP, sI_wL, sL_wL, sL_wN, sL_wI, sL_wP, sZ_wN, sZ_wI, sZ_wP, sZ_wL, hz, H1, H2, H3, P0, P1, P3, P4, I2]
  · show sL (fiN c) 1 12 = lN 0
    simp [fiN, u7N, u6N, u5N, trS, trN, plN, rdN, lrN, wrN, tkN, sP_wP, sP_wN, sP_wI, sP_wL, sH_wN, sH_wI, sH_wP, sH_wL, sI_wI, sI_wN, sI_wP, sI_wL, sL_wL, sL_wN, sL_wI, sL_wP, sZ_wN, sZ_wI, sZ_wP, sZ_wL, hz, H1, H2, H3, P0, P1, P3, P4, I2]
  · show sL (fiN c) 1 13 = lN 1
    simp [fiN, u7N, u6N, u5N, trS, trN, plN, rdN, lrN, wrN, tkN, sP_wP, sP_wN, sP_wI, sP_wL, sH_wN, sH_wI, sH_wP, sH_wL, sI_wI, sI_wN, sI_wP, sI_wL, sL_wL, sL_wN, sL_wI, sL_wP, sZ_wN, sZ_wI, sZ_wP, sZ_wL, hz, H1, H2, H3, P0, P1, P3, P4, I2]
  · show sI (fiN c) 1 14 = mI
    simp [fiN, u7N, u6N, u5N, trS, trN, plN, rdN, lrN, wrN, tkN, sP_wP, sP_wN, sP_wI, sP_wL, sH_wN, sH_wI, sH_wP, sH_wL, sI_wI, sI_wN, sI_wP, sI_wL, sL_wL, sL_wN, sL_wI, sL_wP, sZ_wN, sZ_wI, sZ_wP, sZ_wL, hz, H1, H2, H3, P0, P1, P3, P4, I2]
  · show sI (fiN c) 1 15 = mI
    simp [fiN, u7N, u6N, u5N, trS, trN, plN, rdN, lrN, wrN, tkN, sP_wP, sP_wN, sP_wI, sP_wL, sH_wN, sH_wI, sH_wP, sH_wL, sI_wI, sI_wN, sI_wP, sI_wL, sL_wL, sL_wN, sL_wI, sL_wP, sZ_wN, sZ_wI, sZ_wP, sZ_wL, hz, H1, H2, H3, P0, P1, P3, P4, I2]
  · show sI (fiN c) 1 2 = nI 0
    simp [fiN, u7N, u6N, u5N, trS, trN, plN, rdN, lrN, wrN, tkN, sP_wP, sP_wN, sP_wI, sP_wL, sH_wN, sH_wI, sH_wP, sH_wL, sI_wI, sI_wN, sI_wP, sI_wL, sL_wL, sL_wN, sL_wI, sL_wP, sZ_wN, sZ_wI, sZ_wP, sZ_wL, hz, H1, H2, H3, P0, P1, P3, P4, I2]
  · show sI (fiN c) 1 6 = nI 0
    simp [fiN, u7N, u6N, u5N, trS, trN, plN, rdN, lrN, wrN, tkN, sP_wP, sP_wN, sP_wI, sP_wL, sH_wN, sH_wI, sH_wP, sH_wL, sI_wI, sI_wN, sI_wP, sI_wL, sL_wL, sL_wN, sL_wI, sL_wP, sZ_wN, sZ_wI, sZ_wP, sZ_wL, hz, H1, H2, H3, P0, P1, P3, P4, I2]
theorem fiN_T (hz : sZ c = 91) (H1 : sH c 1 = (8, 16)) (H2 : sH c 2 = (15, 4)) (H3 : sH c 3 = (10, 900)) (P0 : sP c 1 0 = 2) (P1 : sP c 1 1 = 3) (P3 : sP c 1 3 = 4) (P4 : sP c 1 4 = 48) (I2 : sI c 1 2 = nI 0) : CT (fiN c) T00 := by
  intro k hk
  have hk4 : k = 0 ∨ k = 1 ∨ k = 2 ∨ k = 3 := by omega
  refine ⟨?_, ?_, fun l hl => by cases hl⟩
  · show sI (fiN c) (98 + 2 * k) 1 = nI 0
    rcases hk4 with h | h | h | h <;> subst h <;> simp [fiN, u7N, u6N, u5N, trS, trN, plN, rdN, lrN, wrN, tkN, sP_wP, sP_wN, sP_wI, sP_wL, sH_wN, sH_wI, sH_wP, sH_wL, sI_wI, sI_wN, sI_wP, sI_wL, sL_wL, sL_wN, sL_wI, sL_wP, sZ_wN, sZ_wI, sZ_wP, sZ_wL, hz, H1, H2, H3, P0, P1, P3, P4, I2]
  · show sI (fiN c) (98 + 2 * k) 2 = mI
    rcases hk4 with h | h | h | h <;> subst h <;> simp [fiN, u7N, u6N, u5N, trS, trN, plN, rdN, lrN, wrN, tkN, sP_wP, sP_wN, sP_wI, sP_wL, sH_wN, sH_wI, sH_wP, sH_wL, sI_wI, sI_wN, sI_wP, sI_wL, sL_wL, sL_wN, sL_wI, sL_wP, sZ_wN, sZ_wI, sZ_wP, sZ_wL, hz, H1, H2, H3, P0, P1, P3, P4, I2]
theorem fiN_M (hz : sZ c = 91) (H1 : sH c 1 = (8, 16)) (H2 : sH c 2 = (15, 4)) (H3 : sH c 3 = (10, 900)) (P0 : sP c 1 0 = 2) (P1 : sP c 1 1 = 3) (P3 : sP c 1 3 = 4) (P4 : sP c 1 4 = 48) (I2 : sI c 1 2 = nI 0) : sP (fiN c) 93 5 = 95 ∧ sH (fiN c) 95 = (11, 1) ∧ ∀ i, sP (fiN c) 92 i = 0 := by
  refine ⟨?_, ?_, fun i => ?_⟩
  · simp [fiN, u7N, u6N, u5N, trS, trN, plN, rdN, lrN, wrN, tkN, sP_wP, sP_wN, sP_wI, sP_wL, sH_wN, sH_wI, sH_wP, sH_wL, sI_wI, sI_wN, sI_wP, sI_wL, sL_wL, sL_wN, sL_wI, sL_wP, sZ_wN, sZ_wI, sZ_wP, sZ_wL, hz, H1, H2, H3, P0, P1, P3, P4, I2]
  · simp [fiN, u7N, u6N, u5N, trS, trN, plN, rdN, lrN, wrN, tkN, sP_wP, sP_wN, sP_wI, sP_wL, sH_wN, sH_wI, sH_wP, sH_wL, sI_wI, sI_wN, sI_wP, sI_wL, sL_wL, sL_wN, sL_wI, sL_wP, sZ_wN, sZ_wI, sZ_wP, sZ_wL, hz, H1, H2, H3, P0, P1, P3, P4, I2]
  · simp [fiN, u7N, u6N, u5N, trS, trN, plN, rdN, lrN, wrN, tkN, sP_wP, sP_wN, sP_wI, sP_wL, sH_wN, sH_wI, sH_wP, sH_wL, sI_wI, sI_wN, sI_wP, sI_wL, sL_wL, sL_wN, sL_wI, sL_wP, sZ_wN, sZ_wI, sZ_wP, sZ_wL, hz, H1, H2, H3, P0, P1, P3, P4, I2]
/-- from the two worlds on -/
theorem c_i5 (hz : sZ c = 91) (H1 : sH c 1 = (8, 16)) (H2 : sH c 2 = (15, 4)) (H3 : sH c 3 = (10, 900)) (P0 : sP c 1 0 = 2) (P1 : sP c 1 1 = 3) (P3 : sP c 1 3 = 4) (P4 : sP c 1 4 = 48) (I2 : sI c 1 2 = nI 0) : bNa 16 (3 : Int32) (fun x5 => bPR 8 1 5 x5 (bPI 8 1 6 (0 : Int32) (bNew 2 (fun x6 => bCallV 2 x6 (fX2_init x6) (fun _ => bPR 8 1 9 x6 (bNa 11 (8 : Int32) (fun x7 => bPR 8 1 10 x7 (bPI 8 1 11 (0 : Int32) (bPL 8 1 12 (0 : Int64) (bPL 8 1 13 (1 : Int64) (bPI 8 1 14 (-1 : Int32) (bPI 8 1 15 (-1 : Int32) (fX8_init_107 fu 1 (0 : Int32)))))))))))))) c = some ((), fiN c) := by
  have hz5 : sZ (u5N c) = 92 := by show sZ c + 1 = 92; omega
  have hz6 : sZ (plN (u5N c)) = 96 := by show sZ (u5N c) + 1 + 1 + 1 + 1 = 96; omega
  have b0 : (sH (wN c 16 3) 1).1 = 8 := hN (by rw [H1]) (by omega)
  have b1 : (sH (wN (u5N c) 2 7) 1).1 = 8 := hN b0 (by omega)
  have b2 : (sH (plN (u5N c)) 1).1 = 8 := by
    have e : sH (plN (u5N c)) 1 = sH (wN (wN (wN (wN (u5N c) 2 7) 11 12) 11 1) 11 13) 1 := rfl
    rw [e]
    exact hN (hN (hN b1 (by show 1 ≤ sZ (u5N c) + 1; omega)) (by show 1 ≤ sZ (u5N c) + 1 + 1; omega)) (by show 1 ≤ sZ (u5N c) + 1 + 1 + 1; omega)
  have b3 : (sH (wN (wP (plN (u5N c)) 1 9 93) 11 8) 1).1 = 8 := hN b2 (by show 1 ≤ sZ (plN (u5N c)); omega)
  have k2 : (sH (wN (u5N c) 2 7) 93).1 = 2 := by rw [sH_wN, hz5, if_pos rfl]
  rw [li_3, n_na (z := 92) (by decide) (by omega)]
  show bPR 8 1 5 92 _ (wN c 16 3) = _
  rw [xPR b0]
  refine Eq.trans (xPI (by exact b0)) ?_
  show bNew 2 _ (u5N c) = _
  rw [n_new (z := 93) (by omega)]
  show bCallV 2 93 _ _ (wN (u5N c) 2 7) = _
  rw [e_callV k2, x_call (i_plan hz5), xPR b2, li_8]
  refine Eq.trans (n_na (z := 97) (by decide) (by show sZ (plN (u5N c)) + 1 = 97; omega)) ?_
  refine Eq.trans (xPR (by exact b3)) ?_
  refine Eq.trans (xPI (by exact b3)) ?_
  refine Eq.trans (xPL (by exact b3)) ?_
  refine Eq.trans (xPL (by exact b3)) ?_
  refine Eq.trans (xPI (by exact b3)) ?_
  refine Eq.trans (xPI (by exact b3)) ?_
  show fX8_init_107 (4995 + 1 + 1 + 1 + 1 + 1) 1 (nI 0) (u6N c) = _
  have z6 : sZ (u6N c) = 97 := by show sZ (plN (u5N c)) + 1 = 97; omega
  have r6 : (sH (u6N c) 1).1 = 8 := b3
  have t6 : sH (u6N c) 2 = (15, 4) := by simp [fiN, u7N, u6N, u5N, trS, trN, plN, rdN, lrN, wrN, tkN, sP_wP, sP_wN, sP_wI, sP_wL, sH_wN, sH_wI, sH_wP, sH_wL, sI_wI, sI_wN, sI_wP, sI_wL, sL_wL, sL_wN, sL_wI, sL_wP, sZ_wN, sZ_wI, sZ_wP, sZ_wL, hz, H1, H2, H3, P0, P1, P3, P4, I2]
  have p6 : sP (u6N c) 1 0 = 2 := by simp [fiN, u7N, u6N, u5N, trS, trN, plN, rdN, lrN, wrN, tkN, sP_wP, sP_wN, sP_wI, sP_wL, sH_wN, sH_wI, sH_wP, sH_wL, sI_wI, sI_wN, sI_wP, sI_wL, sL_wL, sL_wN, sL_wI, sL_wP, sZ_wN, sZ_wI, sZ_wP, sZ_wL, hz, H1, H2, H3, P0, P1, P3, P4, I2]
  have z7 : sZ (u7N c) = 105 := by show sZ (u6N c) + 1 + 1 + 1 + 1 + 1 + 1 + 1 + 1 = 105; omega
  rw [i_trays (k := 0) (by decide) (by omega) r6 t6 p6]
  rw [i_trays (k := 1) (s := trS (u6N c) 0) (by decide) (by show sZ (u6N c) + 1 + 1 = 97 + 2 * 1; omega) (by simp [fiN, u7N, u6N, u5N, trS, trN, plN, rdN, lrN, wrN, tkN, sP_wP, sP_wN, sP_wI, sP_wL, sH_wN, sH_wI, sH_wP, sH_wL, sI_wI, sI_wN, sI_wP, sI_wL, sL_wL, sL_wN, sL_wI, sL_wP, sZ_wN, sZ_wI, sZ_wP, sZ_wL, hz, H1, H2, H3, P0, P1, P3, P4, I2]) (by simp [fiN, u7N, u6N, u5N, trS, trN, plN, rdN, lrN, wrN, tkN, sP_wP, sP_wN, sP_wI, sP_wL, sH_wN, sH_wI, sH_wP, sH_wL, sI_wI, sI_wN, sI_wP, sI_wL, sL_wL, sL_wN, sL_wI, sL_wP, sZ_wN, sZ_wI, sZ_wP, sZ_wL, hz, H1, H2, H3, P0, P1, P3, P4, I2]) (by simp [fiN, u7N, u6N, u5N, trS, trN, plN, rdN, lrN, wrN, tkN, sP_wP, sP_wN, sP_wI, sP_wL, sH_wN, sH_wI, sH_wP, sH_wL, sI_wI, sI_wN, sI_wP, sI_wL, sL_wL, sL_wN, sL_wI, sL_wP, sZ_wN, sZ_wI, sZ_wP, sZ_wL, hz, H1, H2, H3, P0, P1, P3, P4, I2])]
  rw [i_trays (k := 2) (s := trS (trS (u6N c) 0) 1) (by decide) (by show sZ (u6N c) + 1 + 1 + 1 + 1 = 97 + 2 * 2; omega) (by simp [fiN, u7N, u6N, u5N, trS, trN, plN, rdN, lrN, wrN, tkN, sP_wP, sP_wN, sP_wI, sP_wL, sH_wN, sH_wI, sH_wP, sH_wL, sI_wI, sI_wN, sI_wP, sI_wL, sL_wL, sL_wN, sL_wI, sL_wP, sZ_wN, sZ_wI, sZ_wP, sZ_wL, hz, H1, H2, H3, P0, P1, P3, P4, I2]) (by simp [fiN, u7N, u6N, u5N, trS, trN, plN, rdN, lrN, wrN, tkN, sP_wP, sP_wN, sP_wI, sP_wL, sH_wN, sH_wI, sH_wP, sH_wL, sI_wI, sI_wN, sI_wP, sI_wL, sL_wL, sL_wN, sL_wI, sL_wP, sZ_wN, sZ_wI, sZ_wP, sZ_wL, hz, H1, H2, H3, P0, P1, P3, P4, I2]) (by simp [fiN, u7N, u6N, u5N, trS, trN, plN, rdN, lrN, wrN, tkN, sP_wP, sP_wN, sP_wI, sP_wL, sH_wN, sH_wI, sH_wP, sH_wL, sI_wI, sI_wN, sI_wP, sI_wL, sL_wL, sL_wN, sL_wI, sL_wP, sZ_wN, sZ_wI, sZ_wP, sZ_wL, hz, H1, H2, H3, P0, P1, P3, P4, I2])]
  rw [i_trays (k := 3) (s := trS (trS (trS (u6N c) 0) 1) 2) (by decide) (by show sZ (u6N c) + 1 + 1 + 1 + 1 + 1 + 1 = 97 + 2 * 3; omega) (by simp [fiN, u7N, u6N, u5N, trS, trN, plN, rdN, lrN, wrN, tkN, sP_wP, sP_wN, sP_wI, sP_wL, sH_wN, sH_wI, sH_wP, sH_wL, sI_wI, sI_wN, sI_wP, sI_wL, sL_wL, sL_wN, sL_wI, sL_wP, sZ_wN, sZ_wI, sZ_wP, sZ_wL, hz, H1, H2, H3, P0, P1, P3, P4, I2]) (by simp [fiN, u7N, u6N, u5N, trS, trN, plN, rdN, lrN, wrN, tkN, sP_wP, sP_wN, sP_wI, sP_wL, sH_wN, sH_wI, sH_wP, sH_wL, sI_wI, sI_wN, sI_wP, sI_wL, sL_wL, sL_wN, sL_wI, sL_wP, sZ_wN, sZ_wI, sZ_wP, sZ_wL, hz, H1, H2, H3, P0, P1, P3, P4, I2]) (by simp [fiN, u7N, u6N, u5N, trS, trN, plN, rdN, lrN, wrN, tkN, sP_wP, sP_wN, sP_wI, sP_wL, sH_wN, sH_wI, sH_wP, sH_wL, sI_wI, sI_wN, sI_wP, sI_wL, sL_wL, sL_wN, sL_wI, sL_wP, sZ_wN, sZ_wI, sZ_wP, sZ_wL, hz, H1, H2, H3, P0, P1, P3, P4, I2])]
  rw [qX8_init_107, e_if, if_pos (by decide)]
  exact i_rd z7 (by simp [fiN, u7N, u6N, u5N, trS, trN, plN, rdN, lrN, wrN, tkN, sP_wP, sP_wN, sP_wI, sP_wL, sH_wN, sH_wI, sH_wP, sH_wL, sI_wI, sI_wN, sI_wP, sI_wL, sL_wL, sL_wN, sL_wI, sL_wP, sZ_wN, sZ_wI, sZ_wP, sZ_wL, hz, H1, H2, H3, P0, P1, P3, P4, I2]) (by simp [fiN, u7N, u6N, u5N, trS, trN, plN, rdN, lrN, wrN, tkN, sP_wP, sP_wN, sP_wI, sP_wL, sH_wN, sH_wI, sH_wP, sH_wL, sI_wI, sI_wN, sI_wP, sI_wL, sL_wL, sL_wN, sL_wI, sL_wP, sZ_wN, sZ_wI, sZ_wP, sZ_wL, hz, H1, H2, H3, P0, P1, P3, P4, I2]) (by simp [fiN, u7N, u6N, u5N, trS, trN, plN, rdN, lrN, wrN, tkN, sP_wP, sP_wN, sP_wI, sP_wL, sH_wN, sH_wI, sH_wP, sH_wL, sI_wI, sI_wN, sI_wP, sI_wL, sL_wL, sL_wN, sL_wI, sL_wP, sZ_wN, sZ_wI, sZ_wP, sZ_wL, hz, H1, H2, H3, P0, P1, P3, P4, I2])
end INK

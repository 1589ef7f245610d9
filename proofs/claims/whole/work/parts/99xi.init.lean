/-! THE FIRST OBJECT OF THE CLASS: its cells behind the two worlds -/
section INI
variable {s : mS}
theorem n_new {k z : Nat} {α : Type} {f : Nat → mM α} {s : mS} (hz : sZ s + 1 = z) : bNew k f s = f z (wN s k (mN k)) := by
  rw [← hz]
  rfl
theorem n_na {k n z : Nat} {α : Type} {f : Nat → mM α} {s : mS} (hn : n ≤ 67108864) (hz : sZ s + 1 = z) : bNa k (nI n) f s = f z (wN s k n) := by
  rw [← hz]
  exact i_na hn
def plN (s : mS) : mS := wP (wN (wP (wN (wP (wN (wI (wI (wI (wI (wN s 2 7) 93 0 (nI 1)) 93 1 (nI 0)) 93 2 (nI 0)) 93 3 (nI 0)) 11 12) 93 4 94) 11 1) 93 5 95) 11 13) 93 6 96
theorem i_plan (hz : sZ s = 92) : fX2_init 93 (wN s 2 7) = some ((), plN s) := by
  have k0 : (sH (wN s 2 7) 93).1 = 2 := by rw [sH_wN, hz, if_pos rfl]
  unfold fX2_init
  rw [li_0, li_1, li_12, li_13]
  refine (i_obj (by rw [k0]; decide)).trans ?_
  refine Eq.trans (xPZ (by exact k0) (Or.inr rfl)) ?_
  refine Eq.trans (xPI (by exact k0)) ?_
  refine Eq.trans (xPI (by exact k0)) ?_
  refine Eq.trans (xPI (by exact k0)) ?_
  refine Eq.trans (n_na (z := 94) (by decide) (by show sZ s + 1 + 1 = 94; omega)) ?_
  refine Eq.trans (xPR (by simp [sH_wN, sH_wI, sH_wP, sH_wL, sZ_wN, sZ_wI, sZ_wP, sZ_wL, hz])) ?_
  refine Eq.trans (n_na (z := 95) (by decide) (by show sZ s + 1 + 1 + 1 = 95; omega)) ?_
  refine Eq.trans (xPR (by simp [sH_wN, sH_wI, sH_wP, sH_wL, sZ_wN, sZ_wI, sZ_wP, sZ_wL, hz])) ?_
  refine Eq.trans (n_na (z := 96) (by decide) (by show sZ s + 1 + 1 + 1 + 1 = 96; omega)) ?_
  refine Eq.trans (xPR (by simp [sH_wN, sH_wI, sH_wP, sH_wL, sZ_wN, sZ_wI, sZ_wP, sZ_wL, hz])) ?_
  rfl
def trN (s : mS) (k : Nat) : mS := wI (wI (wP (wN (wN s 5 3) 12 60) (98 + 2 * k) 0 (99 + 2 * k)) (98 + 2 * k) 1 (nI 0)) (98 + 2 * k) 2 mI
theorem i_tray {k : Nat} (hz : sZ s = 97 + 2 * k) : fX5_init (98 + 2 * k) (wN s 5 3) = some ((), trN s k) := by
  have k0 : (sH (wN s 5 3) (98 + 2 * k)).1 = 5 := by rw [sH_wN, hz, if_pos (by omega)]
  have k1 : (sH (wN (wN s 5 3) 12 60) (98 + 2 * k)).1 = 5 := hN k0 (by show 98 + 2 * k ≤ sZ s + 1; omega)
  unfold fX5_init
  rw [li_0, li_60, show (-1 : Int32) = mI from rfl]
  refine (i_obj (by rw [k0]; decide)).trans ?_
  refine Eq.trans (n_na (z := 99 + 2 * k) (by decide) (by show sZ s + 1 + 1 = 99 + 2 * k; omega)) ?_
  refine Eq.trans (xPR (by exact k1)) ?_
  refine Eq.trans (xPI (by exact k1)) ?_
  refine Eq.trans (xPI (by exact k1)) ?_
  rfl
def trS (s : mS) (k : Nat) : mS := wP (trN s k) 2 k (98 + 2 * k)
theorem i_trays {k : Nat} (hk : k < 4) (hz : sZ s = 97 + 2 * k) (h1 : (sH s 1).1 = 8) (h2 : sH s 2 = (15, 4)) (p0 : sP s 1 0 = 2) (n : Nat) : fX8_init_107 (n + 1) 1 (nI k) s = fX8_init_107 n 1 (nI (k + 1)) (trS s k) := by
  have k5 : (sH (wN s 5 3) (98 + 2 * k)).1 = 5 := by rw [sH_wN, hz, if_pos (by omega)]
  have k6 : (sH (trN s k) (98 + 2 * k)).1 = 5 := hN k5 (by show 98 + 2 * k ≤ sZ s + 1; omega)
  have h2' : sH (trN s k) 2 = (15, 4) := by
    show sH (wN (wN s 5 3) 12 60) 2 = _
    rw [sHo (by show 2 ≤ sZ s + 1; omega), sHo (by omega)]
    exact h2
  rw [qX8_init_107, e_if, if_neg (by rw [li_4, le_i (by omega) (by omega)]; omega), xGR h1 p0, n_new (z := 98 + 2 * k) (by omega)]
  show bCallV 5 (98 + 2 * k) _ _ (wN s 5 3) = _
  rw [e_callV k5, x_call (i_tray hz), i_sr h2' hk (by decide) (by rw [k6]; rfl), nI_succ1]
  rfl
def tkN (s : mS) : mS := wP (wI (wI (wI (wI (wI (wI (wI (wI (wN s 4 9) 106 1 (nI 0)) 106 2 (nI 0)) 106 3 (nI 0)) 106 4 (nI 0)) 106 5 (nI 0)) 106 6 (nI 0)) 106 7 (nI 0)) 106 8 mI) 106 0 3
theorem i_tok (hz : sZ s = 105) : fX4_init 106 3 (wN s 4 9) = some ((), tkN s) := by
  have k0 : (sH (wN s 4 9) 106).1 = 4 := by rw [sH_wN, hz, if_pos rfl]
  unfold fX4_init
  rw [li_0, show (-1 : Int32) = mI from rfl]
  refine (i_obj (by rw [k0]; decide)).trans ?_
  refine Eq.trans (xPI (by exact k0)) ?_
  refine Eq.trans (xPI (by exact k0)) ?_
  refine Eq.trans (xPI (by exact k0)) ?_
  refine Eq.trans (xPI (by exact k0)) ?_
  refine Eq.trans (xPI (by exact k0)) ?_
  refine Eq.trans (xPI (by exact k0)) ?_
  refine Eq.trans (xPI (by exact k0)) ?_
  refine Eq.trans (xPI (by exact k0)) ?_
  refine Eq.trans (xPR (by exact k0)) ?_
  rfl
def wrN (s : mS) : mS := wP (wP (wI (wI (wP (wN (wP (wN (wP (wN (wI (wI (wI (wN s 6 10) 107 2 (nI 0)) 107 3 (nI 0)) 107 4 (nI 0)) 11 14) 107 5 108) 11 14) 107 6 109) 11 14) 107 7 110) 107 8 (nI 0)) 107 9 (nI 0)) 107 0 106) 107 1 48
theorem i_wrd (hz : sZ s = 106) : fX6_init 107 106 48 (wN s 6 10) = some ((), wrN s) := by
  have k0 : (sH (wN s 6 10) 107).1 = 6 := by rw [sH_wN, hz, if_pos rfl]
  unfold fX6_init
  rw [li_0, li_14]
  refine (i_obj (by rw [k0]; decide)).trans ?_
  refine Eq.trans (xPZ (by exact k0) (Or.inl rfl)) ?_
  refine Eq.trans (xPI (by exact k0)) ?_
  refine Eq.trans (xPI (by exact k0)) ?_
  refine Eq.trans (n_na (z := 108) (by decide) (by show sZ s + 1 + 1 = 108; omega)) ?_
  refine Eq.trans (xPR (by simp [sH_wN, sH_wI, sH_wP, sH_wL, sZ_wN, sZ_wI, sZ_wP, sZ_wL, hz])) ?_
  refine Eq.trans (n_na (z := 109) (by decide) (by show sZ s + 1 + 1 + 1 = 109; omega)) ?_
  refine Eq.trans (xPR (by simp [sH_wN, sH_wI, sH_wP, sH_wL, sZ_wN, sZ_wI, sZ_wP, sZ_wL, hz])) ?_
  refine Eq.trans (n_na (z := 110) (by decide) (by show sZ s + 1 + 1 + 1 + 1 = 110; omega)) ?_
  refine Eq.trans (xPR (by simp [sH_wN, sH_wI, sH_wP, sH_wL, sZ_wN, sZ_wI, sZ_wP, sZ_wL, hz])) ?_
  refine Eq.trans (xPI (by simp [sH_wN, sH_wI, sH_wP, sH_wL, sZ_wN, sZ_wI, sZ_wP, sZ_wL, hz])) ?_
  refine Eq.trans (xPI (by simp [sH_wN, sH_wI, sH_wP, sH_wL, sZ_wN, sZ_wI, sZ_wP, sZ_wL, hz])) ?_
  refine Eq.trans (xPR (by simp [sH_wN, sH_wI, sH_wP, sH_wL, sZ_wN, sZ_wI, sZ_wP, sZ_wL, hz])) ?_
  refine Eq.trans (xPR (by simp [sH_wN, sH_wI, sH_wP, sH_wL, sZ_wN, sZ_wI, sZ_wP, sZ_wL, hz])) ?_
  rfl
def lrN (s : mS) : mS := wP (wP (wN (wI (wI (wI (wN s 1 5) 111 1 (nI 0)) 111 2 (nI 0)) 111 3 (nI 0)) 11 300) 111 4 112) 111 0 106
theorem i_lrd (hz : sZ s = 110) : fX1_init 111 106 (wN s 1 5) = some ((), lrN s) := by
  have k0 : (sH (wN s 1 5) 111).1 = 1 := by rw [sH_wN, hz, if_pos rfl]
  unfold fX1_init
  rw [li_0, li_300]
  refine (i_obj (by rw [k0]; decide)).trans ?_
  refine Eq.trans (xPI (by exact k0)) ?_
  refine Eq.trans (xPI (by exact k0)) ?_
  refine Eq.trans (xPI (by exact k0)) ?_
  refine Eq.trans (n_na (z := 112) (by decide) (by show sZ s + 1 + 1 = 112; omega)) ?_
  refine Eq.trans (xPR (by simp [sH_wN, sH_wI, sH_wP, sH_wL, sZ_wN, sZ_wI, sZ_wP, sZ_wL, hz])) ?_
  refine Eq.trans (xPR (by simp [sH_wN, sH_wI, sH_wP, sH_wL, sZ_wN, sZ_wI, sZ_wP, sZ_wL, hz])) ?_
  rfl
/-- behind the trays -/
def rdN (s : mS) : mS := wP (lrN (wP (wrN (tkN s)) 1 7 107)) 1 8 111
theorem i_rd (hz : sZ s = 105) (h1 : (sH s 1).1 = 8) (p1 : sP s 1 1 = 3) (p4 : sP s 1 4 = 48) : fX8_init_131 1 s = some ((), rdN s) := by
  have z1 : sZ (tkN s) = 106 := by show sZ s + 1 = 106; omega
  have z2 : sZ (wP (wrN (tkN s)) 1 7 107) = 110 := by show sZ s + 1 + 1 + 1 + 1 + 1 = 110; omega
  have a1 : (sH (wN s 4 9) 1).1 = 8 := hN h1 (by omega)
  have a2 : (sH (tkN s) 1).1 = 8 := a1
  have a3 : (sH (wN (tkN s) 6 10) 1).1 = 8 := hN a2 (by omega)
  have a4 : (sH (wrN (tkN s)) 1).1 = 8 := by
    have e : sH (wrN (tkN s)) 1 = sH (wN (wN (wN (wN (tkN s) 6 10) 11 14) 11 14) 11 14) 1 := rfl
    rw [e]
    exact hN (hN (hN a3 (by show 1 ≤ sZ (tkN s) + 1; omega)) (by show 1 ≤ sZ (tkN s) + 1 + 1; omega)) (by show 1 ≤ sZ (tkN s) + 1 + 1 + 1; omega)
  have a5 : (sH (wN (wP (wrN (tkN s)) 1 7 107) 1 5) 1).1 = 8 := hN a4 (by omega)
  have a6 : (sH (lrN (wP (wrN (tkN s)) 1 7 107)) 1).1 = 8 := by
    have e : sH (lrN (wP (wrN (tkN s)) 1 7 107)) 1 = sH (wN (wN (wP (wrN (tkN s)) 1 7 107) 1 5) 11 300) 1 := rfl
    rw [e]
    exact hN a5 (by show 1 ≤ sZ (wP (wrN (tkN s)) 1 7 107) + 1; omega)
  have q1 : sP (wN s 4 9) 1 1 = 3 := by rw [sP_wN, if_neg (by omega)]; exact p1
  have q4 : sP (wN (tkN s) 6 10) 1 4 = 48 := by
    rw [sP_wN, if_neg (by omega)]
    show sP (wP _ 106 0 3) 1 4 = 48
    rw [sP_wP, if_neg (by omega)]
    show sP (wN s 4 9) 1 4 = 48
    rw [sP_wN, if_neg (by omega)]; exact p4
  have k4 : (sH (wN s 4 9) 106).1 = 4 := by rw [sH_wN, hz, if_pos rfl]
  have k6 : (sH (wN (tkN s) 6 10) 107).1 = 6 := by rw [sH_wN, z1, if_pos rfl]
  have k1 : (sH (wN (wP (wrN (tkN s)) 1 7 107) 1 5) 111).1 = 1 := by rw [sH_wN, z2, if_pos rfl]
  unfold fX8_init_131
  rw [n_new (z := 106) (by omega)]
  show bGR 8 1 1 _ (wN s 4 9) = _
  rw [xGR a1 q1, e_callV k4, x_call (i_tok hz), n_new (z := 107) (by omega)]
  show bGR 8 1 4 _ (wN (tkN s) 6 10) = _
  rw [xGR a3 q4, e_callV k6, x_call (i_wrd z1), xPR a4, n_new (z := 111) (by omega)]
  show bCallV 1 111 _ _ (wN (wP (wrN (tkN s)) 1 7 107) 1 5) = _
  rw [e_callV k1, x_call (i_lrd z2), xPR a6]
  rfl
end INI

/-! A YEAR GOES BY: the class -/
/-- other numbers: year, water, bottom, draws -/
def wNum (W : wW) (y w b d : Nat) : wW := (y, w, b, wSi W, wRa W, wRb W, d, W.2.2.2.2.2.2.2)
theorem wNum_ok {W : wW} (h : wOk W) {y w b d : Nat} (h1 : y ≤ 200) (h2 : w ≤ 999) (h3 : b ≤ 999) (h4 : d < 65536) : wOk (wNum W y w b d) := by
  obtain ⟨iY, iW, iB, iS, iR, iRb, iD, iP, iPa, iDi, iF, iFd, iRo, iOw, iBo, iLa⟩ := h
  exact ⟨h1, h2, h3, iS, iR, iRb, h4, iP, iPa, iDi, iF, iFd, iRo, iOw, iBo, iLa⟩
theorem CW.num {s t : mS} {a : Nat} {W : wW} {y w b d : Nat} (h : CW s a W) (ha : a + 44 ≤ 124) (hF : FI (fun c => c = a) s t) (e0 : sI t a 0 = nI y) (e1 : sI t a 1 = nI w) (e2 : sI t a 2 = nI b) (e6 : sI t a 6 = nI d) (eo : ∀ j, j ≠ 0 → j ≠ 1 → j ≠ 2 → j ≠ 6 → sI t a j = sI s a j) (h1 : y ≤ 200) (h2 : w ≤ 999) (h3 : b ≤ 999) (h4 : d < 65536) : CW t a (wNum W y w b d) := by
  obtain ⟨hS, ⟨f0, f1, f2, f3, f4, f5, f6, f7, f11, fp, ff, fr⟩, hw, hl⟩ := h
  have g : ∀ c, c ≠ a → sI t c = sI s c := fun c hc => hF.1 c hc
  refine ⟨hS.mv hF.2, ⟨e0, e1, e2, ?_, ?_, ?_, e6, ?_, ?_, fun p hp => ?_, fun q hq => ?_, fun q hq => ?_⟩, wNum_ok hw h1 h2 h3 h4, ?_⟩
  · rw [eo _ (by decide) (by decide) (by decide) (by decide)]; exact f3
  · rw [eo _ (by decide) (by decide) (by decide) (by decide)]; exact f4
  · rw [eo _ (by decide) (by decide) (by decide) (by decide)]; exact f5
  · rw [eo _ (by decide) (by decide) (by decide) (by decide)]; exact f7
  · rw [eo _ (by decide) (by decide) (by decide) (by decide)]; exact f11
  · rw [g _ (by omega), g _ (by omega)]; exact fp p hp
  · rw [g _ (by omega), g _ (by omega), g _ (by omega)]; exact ff q hq
  · exact (fr q hq).mv (g _ (by omega)) (g _ (by omega)) (g _ (by omega))
  · rw [hF.P]
    rcases hl with hl | ⟨hb, hl⟩
    · exact Or.inl hl
    · refine LaD.mv (Or.inr ⟨hb, hl⟩) hF.H fun _ => ?_
      exact ⟨hF.1 _ (by omega), hF.1 _ (by omega), by rw [hF.P]⟩
theorem RX.num {s t : mS} {W : wW} {y w b d : Nat} (h : RX s W) (hF : t.2 = s.2) (e0 : sI t 118 5 = nI y) (e1 : sI t 118 0 = nI w) (e2 : sI t 118 1 = nI b) (e6 : sI t 118 6 = nI d) (eo : ∀ j, j ≠ 0 → j ≠ 1 → j ≠ 5 → j ≠ 6 → sI t 118 j = sI s 118 j) (h1 : y ≤ 200) (h2 : w ≤ 999) (h3 : b ≤ 999) (h4 : d < 65536) : RX t (wNum W y w b d) := by
  obtain ⟨hT, f0, f1, f2, f3, f4, f5, f6, f7, f8, fp, ff, fr, hw, hl⟩ := h
  refine ⟨hT.mv hF, e1, e2, ?_, ?_, ?_, e0, e6, ?_, ?_, fun p hp => ?_, fun q hq => ?_, fun q hq => ?_, wNum_ok hw h1 h2 h3 h4, ?_⟩
  · rw [eo _ (by decide) (by decide) (by decide) (by decide)]; exact f2
  · rw [eo _ (by decide) (by decide) (by decide) (by decide)]; exact f3
  · rw [eo _ (by decide) (by decide) (by decide) (by decide)]; exact f4
  · rw [eo _ (by decide) (by decide) (by decide) (by decide)]; exact f7
  · rw [eo _ (by decide) (by decide) (by decide) (by decide)]; exact f8
  · rw [eo _ (by omega) (by omega) (by omega) (by omega), eo _ (by omega) (by omega) (by omega) (by omega)]; exact fp p hp
  · rw [eo _ (by omega) (by omega) (by omega) (by omega), eo _ (by omega) (by omega) (by omega) (by omega), eo _ (by omega) (by omega) (by omega) (by omega)]; exact ff q hq
  · exact (fr q hq).mv (hw.2.2.2.2.2.2.2.2.2.2.2.2.1 q).1 fun i hi => eo i (by omega) (by omega) (by omega) (by omega)
  · obtain ⟨l1, l2, l3⟩ := hl
    refine ⟨by rw [eo _ (by omega) (by omega) (by omega) (by omega)]; exact l1, fun k hk => ?_, fun j hj => ?_⟩
    · rw [eo _ (by omega) (by omega) (by omega) (by omega), eo _ (by omega) (by omega) (by omega) (by omega), eo _ (by omega) (by omega) (by omega) (by omega)]; exact l2 k hk
    · rw [eo _ (by omega) (by omega) (by omega) (by omega), eo _ (by omega) (by omega) (by omega) (by omega), eo _ (by omega) (by omega) (by omega) (by omega)]; exact l3 j hj
def yD (W : wW) : Nat := if 0 < wRa W then (wDr W * 2801 + 9011) % 65536 else wDr W
def yW (W : wW) : Nat := if 0 < wRa W ∧ yD W / 8 % 16 < wRa W then min 999 (wWa W + wSi W) - wRb W else min 999 (wWa W + wSi W)
def wY1 (W : wW) : wW := wNum W (wYr W + 1) (yW W) (wBo W) (yD W)
def wYk (W : wW) (k : Nat) : wW := it (fun p V => if wDi V p = some (wYr V) then wBu V p else V) (wY1 W) k
def wY (W : wW) : wW := wYk W (wPe W)
def wPs (W : wW) : wW := if wYr W < 200 then wY W else W
theorem RS.yk (W : wW) : ∀ k, RS (wY1 W) (wYk W k)
  | 0 => RS.rf _
  | k + 1 => by
    have ih := RS.yk W k
    show RS _ (if _ then _ else _)
    split
    · exact ih.tr (RS.bk _ _ _)
    · exact ih
theorem max_sub2 {a b : Nat} (ha : a < 1073741824) (hb : b < 1073741824) : jMax (nI 0) (nI a - nI b) = nI (a - b) := max_sub ha hb
section PY
variable {s : mS} {a : Nat} {W : wW}
theorem c_years (h : CW s a (wY1 W)) (ha : a + 44 ≤ 124) : ∃ t, fX7_passYear_100 a s = some ((), t) ∧ FI (wA a) s t ∧ CW t a (wY W) := by
  have hP8 := h.wi.2.2.2.2.2.2.2.1
  have hP8 : wPe W ≤ 8 := hP8
  unfold fX7_passYear_100
  have key := loop_s (fun n k => fX7_passYear_102 n a (nI k)) (fun k v => FI (wA a) s v ∧ CW v a (wYk W k)) (wPe W) (fun q => FI (wA a) s q.2 ∧ CW q.2 a (wY W)) ?_ ?_ fu 0 s (by omega) (by unfold fu; omega) ⟨FI.rf, h⟩
  · obtain ⟨⟨⟨⟩, t⟩, h3, h4⟩ := key
    exact ⟨t, h3, h4⟩
  · rintro n k v hk ⟨hF, hv⟩
    have hRS := RS.yk W k
    have eS : wYk W (k + 1) = if wDi (wYk W k) k = some (wYr (wYk W k)) then wBu (wYk W k) k else wYk W k := rfl
    rw [eS]
    have hpe : wPe (wYk W k) = wPe W := hRS.pe
    generalize wYk W k = V at hv hRS hpe
    have hkV : k < wPe V := by omega
    have hk' : ¬ wPe V ≤ k := by omega
    have iY := hv.wi.1
    have iP := hv.wi.2.2.2.2.2.2.2.1
    have hdi : ∀ n, wDi V k = some n → n < 2147483648 := fun n e => by
      have := hv.wi.2.2.2.2.2.2.2.2.2.1 k n e
      omega
    by_cases h1 : wDi V k = some (wYr V)
    · obtain ⟨t, t1, t2, t3⟩ := c_bury hv ha hkV
      refine ⟨t, ⟨hF.tr t2, by rw [if_pos h1]; exact t3⟩, ?_⟩
      show fX7_passYear_102 (n + 1) a _ v = _
      rw [qX7_passYear_102]
      simp (disch := omega) only [g_pe hv, g_adi hv, g_di hv hkV, g_yr hv, e_callV hv.k, t1, li_0, li_1, li_2, li_3, li_4, li_5, li_6, li_7, li_8, li_9, li_10, li_11, li_12, li_13, li_14, li_15, li_16, li_17, li_20, li_24, li_25, li_29, li_31, li_32, li_33, li_37, li_40, li_41, li_48, li_49, li_50, li_56, li_57, li_59, li_60, li_61, li_62, li_63, li_70, li_73, li_85, li_97, li_98, li_99, li_100, li_101, li_102, li_103, li_104, li_105, li_107, li_108, li_109, li_110, li_111, li_112, li_114, li_115, li_116, li_117, li_118, li_119, li_121, li_122, li_140, li_193, li_200, li_240, li_255, li_289, li_290, li_300, li_302, li_314, li_326, li_860, li_880, li_900, li_999, li_1024, li_2801, li_3440, li_3441, li_3442, li_3443, li_3444, li_3447, li_3448, li_3449, li_3457, li_3465, li_3469, li_3473, li_3477, li_3501, li_3513, li_3525, li_3537, li_3633, li_3730, li_3742, li_3754, li_3766, li_4095, li_4096, li_4300, li_9011, li_9999, li_10000, li_36864, li_65536, li_1000000, ll_0, ll_1, ll_100, ll_11, ll_16, ll_20, ll_3, ll_32, ll_50, ll_8, ll_96, ll_99, ll_9999, ne_m1, e_if, e_ret, e_rz0, e_rz1, e_rzb, e_call, bCallX_eq, nI_add, nI_mul, nI_succ1, le_i, lt_i, eq_i, m1_i, m1_le, m1_lt, m1_ge, m1_eq, ite_true, ite_false, if_true, if_false, hk', oI_s, h1]
    · refine ⟨v, ⟨hF, by rw [if_neg h1]; exact hv⟩, ?_⟩
      show fX7_passYear_102 (n + 1) a _ v = _
      rw [qX7_passYear_102]
      simp (disch := omega) only [g_pe hv, g_adi hv, g_di hv hkV, g_yr hv, li_0, li_1, li_2, li_3, li_4, li_5, li_6, li_7, li_8, li_9, li_10, li_11, li_12, li_13, li_14, li_15, li_16, li_17, li_20, li_24, li_25, li_29, li_31, li_32, li_33, li_37, li_40, li_41, li_48, li_49, li_50, li_56, li_57, li_59, li_60, li_61, li_62, li_63, li_70, li_73, li_85, li_97, li_98, li_99, li_100, li_101, li_102, li_103, li_104, li_105, li_107, li_108, li_109, li_110, li_111, li_112, li_114, li_115, li_116, li_117, li_118, li_119, li_121, li_122, li_140, li_193, li_200, li_240, li_255, li_289, li_290, li_300, li_302, li_314, li_326, li_860, li_880, li_900, li_999, li_1024, li_2801, li_3440, li_3441, li_3442, li_3443, li_3444, li_3447, li_3448, li_3449, li_3457, li_3465, li_3469, li_3473, li_3477, li_3501, li_3513, li_3525, li_3537, li_3633, li_3730, li_3742, li_3754, li_3766, li_4095, li_4096, li_4300, li_9011, li_9999, li_10000, li_36864, li_65536, li_1000000, ll_0, ll_1, ll_100, ll_11, ll_16, ll_20, ll_3, ll_32, ll_50, ll_8, ll_96, ll_99, ll_9999, ne_m1, e_if, e_ret, e_rz0, e_rz1, e_rzb, e_call, bCallX_eq, nI_add, nI_mul, nI_succ1, le_i, lt_i, eq_i, m1_i, m1_le, m1_lt, m1_ge, m1_eq, ite_true, ite_false, if_true, if_false, hk', oI_e hdi, h1]
  · rintro n v ⟨hF, hv⟩
    refine ⟨((), v), ?_, hF, hv⟩
    show fX7_passYear_102 (n + 1) a _ v = _
    have hpe : wPe (wYk W (wPe W)) = wPe W := (RS.yk W (wPe W)).pe
    rw [qX7_passYear_102, g_pe hv, hpe]
    simp (disch := omega) only [li_0, li_1, li_2, li_3, li_4, li_5, li_6, li_7, li_8, li_9, li_10, li_11, li_12, li_13, li_14, li_15, li_16, li_17, li_20, li_24, li_25, li_29, li_31, li_32, li_33, li_37, li_40, li_41, li_48, li_49, li_50, li_56, li_57, li_59, li_60, li_61, li_62, li_63, li_70, li_73, li_85, li_97, li_98, li_99, li_100, li_101, li_102, li_103, li_104, li_105, li_107, li_108, li_109, li_110, li_111, li_112, li_114, li_115, li_116, li_117, li_118, li_119, li_121, li_122, li_140, li_193, li_200, li_240, li_255, li_289, li_290, li_300, li_302, li_314, li_326, li_860, li_880, li_900, li_999, li_1024, li_2801, li_3440, li_3441, li_3442, li_3443, li_3444, li_3447, li_3448, li_3449, li_3457, li_3465, li_3469, li_3473, li_3477, li_3501, li_3513, li_3525, li_3537, li_3633, li_3730, li_3742, li_3754, li_3766, li_4095, li_4096, li_4300, li_9011, li_9999, li_10000, li_36864, li_65536, li_1000000, ll_0, ll_1, ll_100, ll_11, ll_16, ll_20, ll_3, ll_32, ll_50, ll_8, ll_96, ll_99, ll_9999, ne_m1, e_if, e_ret, e_rz0, e_rz1, e_rzb, e_call, bCallX_eq, nI_add, nI_mul, nI_succ1, le_i, lt_i, eq_i, m1_i, m1_le, m1_lt, m1_ge, m1_eq, ite_true, ite_false, if_true, if_false, Nat.le_refl]
theorem c_passYear (h : CW s a W) (ha : a + 44 ≤ 124) : ∃ t, fX7_passYear a s = some ((), t) ∧ FI (wA a) s t ∧ CW t a (wPs W) := by
  obtain ⟨iY, iW, iB, iS, iR, iRb, iD, iP, iPa, iDi, iF, iFd, iRo, iOw, iBo, iLa⟩ := h.wi
  have hS := h.1
  obtain ⟨f0, f1, f2, f3, f4, f5, f6, f7, f11, fp, ff, fr⟩ := h.2.1
  have hA : wA a a := ⟨by omega, by omega⟩
  unfold fX7_passYear wPs
  by_cases hy : wYr W < 200
  case neg =>
    refine ⟨s, ?_, FI.rf, by rw [if_neg hy]; exact h⟩
    simp (disch := omega) only [g_yr h, g_wa h, g_bo h, g_si h, g_ra h, g_rb h, g_dr h, g_pe h, g_fl h, g_apa h, g_adi h, g_aro h, g_afr h, g_ato h, g_aby h, g_afc h, g_pa h, g_di h, g_ro h, g_fr h, g_to h, g_by h, e_callV h.k, li_0, li_1, li_2, li_3, li_4, li_5, li_6, li_7, li_8, li_9, li_10, li_11, li_12, li_13, li_14, li_15, li_16, li_17, li_20, li_24, li_25, li_29, li_31, li_32, li_33, li_37, li_40, li_41, li_48, li_49, li_50, li_56, li_57, li_59, li_60, li_61, li_62, li_63, li_70, li_73, li_85, li_97, li_98, li_99, li_100, li_101, li_102, li_103, li_104, li_105, li_107, li_108, li_109, li_110, li_111, li_112, li_114, li_115, li_116, li_117, li_118, li_119, li_121, li_122, li_140, li_193, li_200, li_240, li_255, li_289, li_290, li_300, li_302, li_314, li_326, li_860, li_880, li_900, li_999, li_1024, li_2801, li_3440, li_3441, li_3442, li_3443, li_3444, li_3447, li_3448, li_3449, li_3457, li_3465, li_3469, li_3473, li_3477, li_3501, li_3513, li_3525, li_3537, li_3633, li_3730, li_3742, li_3754, li_3766, li_4095, li_4096, li_4300, li_9011, li_9999, li_10000, li_36864, li_65536, li_1000000, ll_0, ll_1, ll_100, ll_11, ll_16, ll_20, ll_3, ll_32, ll_50, ll_8, ll_96, ll_99, ll_9999, ne_m1, e_if, e_ret, e_rz0, e_rz1, e_rzb, e_call, bCallX_eq, nI_add, nI_mul, nI_succ1, le_i, lt_i, eq_i, m1_i, m1_le, m1_lt, m1_ge, m1_eq, ite_true, ite_false, if_true, if_false, hy]
  rw [if_pos hy]
  have fin : ∀ u, FI (fun c => c = a) s u → CW u a (wY1 W) → ∃ t, fX7_passYear_100 a u = some ((), t) ∧ FI (wA a) s t ∧ CW t a (wY W) := by
    intro u hF hu
    obtain ⟨t, t1, t2, t3⟩ := c_years hu ha
    exact ⟨t, t1, (hF.mo fun b hb => by rw [hb]; exact hA).tr t2, t3⟩
  have hd : (wDr W * 2801 + 9011) % 65536 < 65536 := Nat.mod_lt _ (by decide)
  by_cases hr : wRa W ≤ 0
  · have eD : yD W = wDr W := by unfold yD; rw [if_neg (by omega)]
    have eW : yW W = min 999 (wWa W + wSi W) := by unfold yW; rw [if_neg (by omega)]
    obtain ⟨t, t1, t2⟩ := fin (wI (wI s a 0 (nI (wYr W + 1))) a 1 (nI (min 999 (wWa W + wSi W)))) ((FI.w (A := fun c => c = a) _ _ rfl).tr (FI.w (A := fun c => c = a) _ _ rfl)) (by
      refine h.num ha ((FI.w (A := fun c => c = a) _ _ rfl).tr (FI.w (A := fun c => c = a) _ _ rfl)) ?_ ?_ ?_ ?_ (fun j h1 h2 h3 h4 => ?_) (by omega) (by rw [eW]; omega) iB (by rw [eD]; exact iD)
      · simp (disch := omega) only [sI_wI_eq, sI_wI_ne]
      · simp (disch := omega) only [sI_wI_eq, sI_wI_ne, eW]
      · simp (disch := omega) only [sI_wI_ne]; exact f2
      · simp (disch := omega) only [sI_wI_ne, eD]; exact f6
      · simp (disch := omega) only [sI_wI_ne])
    refine ⟨t, ?_, t2⟩
    simp (disch := first | omega | ((repeat (first | apply WoS.w | apply WoS.cp | apply WoS.p)); assumption)) only [w_GI, w_PI, sI_wI_eq, sI_wI_ne, f0, f1, f3, f4, li_0, li_1, li_2, li_3, li_4, li_5, li_6, li_7, li_8, li_9, li_10, li_11, li_12, li_13, li_14, li_15, li_16, li_17, li_20, li_24, li_25, li_29, li_31, li_32, li_33, li_37, li_40, li_41, li_48, li_49, li_50, li_56, li_57, li_59, li_60, li_61, li_62, li_63, li_70, li_73, li_85, li_97, li_98, li_99, li_100, li_101, li_102, li_103, li_104, li_105, li_107, li_108, li_109, li_110, li_111, li_112, li_114, li_115, li_116, li_117, li_118, li_119, li_121, li_122, li_140, li_193, li_200, li_240, li_255, li_289, li_290, li_300, li_302, li_314, li_326, li_860, li_880, li_900, li_999, li_1024, li_2801, li_3440, li_3441, li_3442, li_3443, li_3444, li_3447, li_3448, li_3449, li_3457, li_3465, li_3469, li_3473, li_3477, li_3501, li_3513, li_3525, li_3537, li_3633, li_3730, li_3742, li_3754, li_3766, li_4095, li_4096, li_4300, li_9011, li_9999, li_10000, li_36864, li_65536, li_1000000, ll_0, ll_1, ll_100, ll_11, ll_16, ll_20, ll_3, ll_32, ll_50, ll_8, ll_96, ll_99, ll_9999, ne_m1, e_if, e_ret, e_rz0, e_rz1, e_rzb, e_call, bCallX_eq, nI_add, nI_mul, nI_succ1, le_i, lt_i, eq_i, m1_i, m1_le, m1_lt, m1_ge, m1_eq, ite_true, ite_false, if_true, if_false, hy, jMin_i, hr]
    exact t1
  · have eD : yD W = (wDr W * 2801 + 9011) % 65536 := by unfold yD; rw [if_pos (by omega)]
    by_cases hc : wRa W ≤ (wDr W * 2801 + 9011) % 65536 / 8 % 16
    · have eW : yW W = min 999 (wWa W + wSi W) := by unfold yW; rw [eD, if_neg (by omega)]
      obtain ⟨t, t1, t2⟩ := fin (wI (wI (wI s a 0 (nI (wYr W + 1))) a 1 (nI (min 999 (wWa W + wSi W)))) a 6 (nI ((wDr W * 2801 + 9011) % 65536))) (((FI.w (A := fun c => c = a) _ _ rfl).tr (FI.w (A := fun c => c = a) _ _ rfl)).tr (FI.w (A := fun c => c = a) _ _ rfl)) (by
        refine h.num ha (((FI.w (A := fun c => c = a) _ _ rfl).tr (FI.w (A := fun c => c = a) _ _ rfl)).tr (FI.w (A := fun c => c = a) _ _ rfl)) ?_ ?_ ?_ ?_ (fun j h1 h2 h3 h4 => ?_) (by omega) (by rw [eW]; omega) iB (by rw [eD]; exact hd)
        · simp (disch := omega) only [sI_wI_eq, sI_wI_ne]
        · simp (disch := omega) only [sI_wI_eq, sI_wI_ne, eW]
        · simp (disch := omega) only [sI_wI_ne]; exact f2
        · simp (disch := omega) only [sI_wI_eq, eD]
        · simp (disch := omega) only [sI_wI_ne])
      refine ⟨t, ?_, t2⟩
      simp (disch := first | omega | ((repeat (first | apply WoS.w | apply WoS.cp | apply WoS.p)); assumption)) only [w_GI, w_PI, sI_wI_eq, sI_wI_ne, f0, f1, f3, f4, f6, li_0, li_1, li_2, li_3, li_4, li_5, li_6, li_7, li_8, li_9, li_10, li_11, li_12, li_13, li_14, li_15, li_16, li_17, li_20, li_24, li_25, li_29, li_31, li_32, li_33, li_37, li_40, li_41, li_48, li_49, li_50, li_56, li_57, li_59, li_60, li_61, li_62, li_63, li_70, li_73, li_85, li_97, li_98, li_99, li_100, li_101, li_102, li_103, li_104, li_105, li_107, li_108, li_109, li_110, li_111, li_112, li_114, li_115, li_116, li_117, li_118, li_119, li_121, li_122, li_140, li_193, li_200, li_240, li_255, li_289, li_290, li_300, li_302, li_314, li_326, li_860, li_880, li_900, li_999, li_1024, li_2801, li_3440, li_3441, li_3442, li_3443, li_3444, li_3447, li_3448, li_3449, li_3457, li_3465, li_3469, li_3473, li_3477, li_3501, li_3513, li_3525, li_3537, li_3633, li_3730, li_3742, li_3754, li_3766, li_4095, li_4096, li_4300, li_9011, li_9999, li_10000, li_36864, li_65536, li_1000000, ll_0, ll_1, ll_100, ll_11, ll_16, ll_20, ll_3, ll_32, ll_50, ll_8, ll_96, ll_99, ll_9999, ne_m1, e_if, e_ret, e_rz0, e_rz1, e_rzb, e_call, bCallX_eq, nI_add, nI_mul, nI_succ1, le_i, lt_i, eq_i, m1_i, m1_le, m1_lt, m1_ge, m1_eq, ite_true, ite_false, if_true, if_false, hy, jMin_i, hr, e_nz, div_i, rem_j, hc]
      exact t1
    · have eW : yW W = min 999 (wWa W + wSi W) - wRb W := by unfold yW; rw [eD, if_pos (by omega)]
      obtain ⟨t, t1, t2⟩ := fin (wI (wI (wI (wI s a 0 (nI (wYr W + 1))) a 1 (nI (min 999 (wWa W + wSi W)))) a 6 (nI ((wDr W * 2801 + 9011) % 65536))) a 1 (nI (min 999 (wWa W + wSi W) - wRb W))) ((((FI.w (A := fun c => c = a) _ _ rfl).tr (FI.w (A := fun c => c = a) _ _ rfl)).tr (FI.w (A := fun c => c = a) _ _ rfl)).tr (FI.w (A := fun c => c = a) _ _ rfl)) (by
        refine h.num ha ((((FI.w (A := fun c => c = a) _ _ rfl).tr (FI.w (A := fun c => c = a) _ _ rfl)).tr (FI.w (A := fun c => c = a) _ _ rfl)).tr (FI.w (A := fun c => c = a) _ _ rfl)) ?_ ?_ ?_ ?_ (fun j h1 h2 h3 h4 => ?_) (by omega) (by rw [eW]; omega) iB (by rw [eD]; exact hd)
        · simp (disch := omega) only [sI_wI_eq, sI_wI_ne]
        · simp (disch := omega) only [sI_wI_eq, eW]
        · simp (disch := omega) only [sI_wI_ne]; exact f2
        · simp (disch := omega) only [sI_wI_eq, sI_wI_ne, eD]
        · simp (disch := omega) only [sI_wI_ne])
      refine ⟨t, ?_, t2⟩
      simp (disch := first | omega | ((repeat (first | apply WoS.w | apply WoS.cp | apply WoS.p)); assumption)) only [w_GI, w_PI, sI_wI_eq, sI_wI_ne, f0, f1, f3, f4, f5, f6, li_0, li_1, li_2, li_3, li_4, li_5, li_6, li_7, li_8, li_9, li_10, li_11, li_12, li_13, li_14, li_15, li_16, li_17, li_20, li_24, li_25, li_29, li_31, li_32, li_33, li_37, li_40, li_41, li_48, li_49, li_50, li_56, li_57, li_59, li_60, li_61, li_62, li_63, li_70, li_73, li_85, li_97, li_98, li_99, li_100, li_101, li_102, li_103, li_104, li_105, li_107, li_108, li_109, li_110, li_111, li_112, li_114, li_115, li_116, li_117, li_118, li_119, li_121, li_122, li_140, li_193, li_200, li_240, li_255, li_289, li_290, li_300, li_302, li_314, li_326, li_860, li_880, li_900, li_999, li_1024, li_2801, li_3440, li_3441, li_3442, li_3443, li_3444, li_3447, li_3448, li_3449, li_3457, li_3465, li_3469, li_3473, li_3477, li_3501, li_3513, li_3525, li_3537, li_3633, li_3730, li_3742, li_3754, li_3766, li_4095, li_4096, li_4300, li_9011, li_9999, li_10000, li_36864, li_65536, li_1000000, ll_0, ll_1, ll_100, ll_11, ll_16, ll_20, ll_3, ll_32, ll_50, ll_8, ll_96, ll_99, ll_9999, ne_m1, e_if, e_ret, e_rz0, e_rz1, e_rzb, e_call, bCallX_eq, nI_add, nI_mul, nI_succ1, le_i, lt_i, eq_i, m1_i, m1_le, m1_lt, m1_ge, m1_eq, ite_true, ite_false, if_true, if_false, hy, jMin_i, hr, e_nz, div_i, rem_j, hc, max_sub2]
      exact t1
end PY

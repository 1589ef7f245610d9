/-! A YEAR GOES BY, WORLDS COPIED: the reference -/
theorem zI_e {o : Option Nat} {y : Nat} (h : ∀ d, o = some d → d < 2147483648) (hy : y < 2147483648) (h1 : 1 ≤ y) : (zI o = nI y) = (o = some y) := by
  cases o with
  | none =>
    show (nI 0 = nI y) = _
    rw [eq_i (by decide) hy]
    apply propext
    constructor
    · intro e; omega
    · intro e; cases e
  | some d =>
    show (nI d = nI y) = _
    rw [eq_i (h d rfl) hy]
    simp
theorem zI_s (n : Nat) : zI (some n) = nI n := rfl
section RP
variable {s : mS} {W : wW}
theorem x_years (h : RX s (wY1 W)) : ∃ t, fX9_oneYear_115 113 s = some ((), t) ∧ FM s t ∧ RX t (wY W) := by
  have hP8 := h.wi.2.2.2.2.2.2.2.1
  have hP8 : wPe W ≤ 8 := hP8
  unfold fX9_oneYear_115
  have key := loop_s (fun n k => fX9_oneYear_117 n 113 (nI k)) (fun k v => FM s v ∧ RX v (wYk W k)) (wPe W) (fun q => FM s q.2 ∧ RX q.2 (wY W)) ?_ ?_ fu 0 s (by omega) (by unfold fu; omega) ⟨FM.rf, h⟩
  · obtain ⟨⟨⟨⟩, t⟩, h3, h4⟩ := key
    exact ⟨t, h3, h4⟩
  · rintro n k v hk ⟨hF, hv⟩
    have hRS := RS.yk W k
    have eS : wYk W (k + 1) = if wDi (wYk W k) k = some (wYr (wYk W k)) then wBu (wYk W k) k else wYk W k := rfl
    rw [eS]
    have hpe : wPe (wYk W k) = wPe W := hRS.pe
    have hyr : wYr (wYk W k) = wYr W + 1 := hRS.yr
    generalize wYk W k = V at hv hRS hpe hyr
    have hkV : k < wPe V := by omega
    have hk' : ¬ wPe V ≤ k := by omega
    have iY := hv.wi.1
    have iP := hv.wi.2.2.2.2.2.2.2.1
    have hdi : ∀ n, wDi V k = some n → n < 2147483648 := fun n e => by
      have := hv.wi.2.2.2.2.2.2.2.2.2.1 k n e
      omega
    by_cases h1 : wDi V k = some (wYr V)
    · obtain ⟨t, t1, t2, t3⟩ := x_bury hv hkV (fX9_oneYear_117 n)
      refine ⟨t, ⟨hF.tr t2, by rw [if_pos h1]; exact t3⟩, ?_⟩
      show fX9_oneYear_117 (n + 1) 113 _ v = _
      rw [qX9_oneYear_117]
      simp (disch := omega) only [r_c hv, r_pe hv, r_di hv hkV, r_yr hv, li_0, li_1, li_2, li_3, li_4, li_5, li_6, li_7, li_8, li_9, li_10, li_11, li_12, li_13, li_14, li_15, li_16, li_17, li_20, li_24, li_25, li_29, li_31, li_32, li_33, li_37, li_40, li_41, li_48, li_49, li_50, li_56, li_57, li_59, li_60, li_61, li_62, li_63, li_70, li_73, li_85, li_97, li_98, li_99, li_100, li_101, li_102, li_103, li_104, li_105, li_107, li_108, li_109, li_110, li_111, li_112, li_114, li_115, li_116, li_117, li_118, li_119, li_121, li_122, li_140, li_193, li_200, li_240, li_255, li_289, li_290, li_300, li_302, li_314, li_326, li_860, li_880, li_900, li_999, li_1024, li_2801, li_3440, li_3441, li_3442, li_3443, li_3444, li_3447, li_3448, li_3449, li_3457, li_3465, li_3469, li_3473, li_3477, li_3501, li_3513, li_3525, li_3537, li_3633, li_3730, li_3742, li_3754, li_3766, li_4095, li_4096, li_4300, li_9011, li_9999, li_10000, li_36864, li_65536, li_1000000, ll_0, ll_1, ll_100, ll_11, ll_16, ll_20, ll_3, ll_32, ll_50, ll_8, ll_96, ll_99, ll_9999, ne_m1, e_if, e_ret, e_rz0, e_rz1, e_rzb, e_call, bCallX_eq, nI_add, nI_mul, nI_succ1, le_i, lt_i, eq_i, m1_i, m1_le, m1_lt, m1_ge, m1_eq, ite_true, ite_false, if_true, if_false, hk', zI_s, h1, t1, if_true]
    · refine ⟨v, ⟨hF, by rw [if_neg h1]; exact hv⟩, ?_⟩
      show fX9_oneYear_117 (n + 1) 113 _ v = _
      rw [qX9_oneYear_117]
      unfold fX9_oneYear_227
      simp (disch := omega) only [r_c hv, r_pe hv, r_di hv hkV, r_yr hv, li_0, li_1, li_2, li_3, li_4, li_5, li_6, li_7, li_8, li_9, li_10, li_11, li_12, li_13, li_14, li_15, li_16, li_17, li_20, li_24, li_25, li_29, li_31, li_32, li_33, li_37, li_40, li_41, li_48, li_49, li_50, li_56, li_57, li_59, li_60, li_61, li_62, li_63, li_70, li_73, li_85, li_97, li_98, li_99, li_100, li_101, li_102, li_103, li_104, li_105, li_107, li_108, li_109, li_110, li_111, li_112, li_114, li_115, li_116, li_117, li_118, li_119, li_121, li_122, li_140, li_193, li_200, li_240, li_255, li_289, li_290, li_300, li_302, li_314, li_326, li_860, li_880, li_900, li_999, li_1024, li_2801, li_3440, li_3441, li_3442, li_3443, li_3444, li_3447, li_3448, li_3449, li_3457, li_3465, li_3469, li_3473, li_3477, li_3501, li_3513, li_3525, li_3537, li_3633, li_3730, li_3742, li_3754, li_3766, li_4095, li_4096, li_4300, li_9011, li_9999, li_10000, li_36864, li_65536, li_1000000, ll_0, ll_1, ll_100, ll_11, ll_16, ll_20, ll_3, ll_32, ll_50, ll_8, ll_96, ll_99, ll_9999, ne_m1, e_if, e_ret, e_rz0, e_rz1, e_rzb, e_call, bCallX_eq, nI_add, nI_mul, nI_succ1, le_i, lt_i, eq_i, m1_i, m1_le, m1_lt, m1_ge, m1_eq, ite_true, ite_false, if_true, if_false, hk', zI_e hdi (show wYr V < 2147483648 by omega) (show 1 ≤ wYr V by omega), h1]
  · rintro n v ⟨hF, hv⟩
    refine ⟨((), v), ?_, hF, hv⟩
    show fX9_oneYear_117 (n + 1) 113 _ v = _
    have hpe : wPe (wYk W (wPe W)) = wPe W := (RS.yk W (wPe W)).pe
    rw [qX9_oneYear_117, r_c hv, show (7 : Int32) = nI 7 from rfl, r_pe hv, hpe]
    simp (disch := omega) only [li_0, li_1, li_2, li_3, li_4, li_5, li_6, li_7, li_8, li_9, li_10, li_11, li_12, li_13, li_14, li_15, li_16, li_17, li_20, li_24, li_25, li_29, li_31, li_32, li_33, li_37, li_40, li_41, li_48, li_49, li_50, li_56, li_57, li_59, li_60, li_61, li_62, li_63, li_70, li_73, li_85, li_97, li_98, li_99, li_100, li_101, li_102, li_103, li_104, li_105, li_107, li_108, li_109, li_110, li_111, li_112, li_114, li_115, li_116, li_117, li_118, li_119, li_121, li_122, li_140, li_193, li_200, li_240, li_255, li_289, li_290, li_300, li_302, li_314, li_326, li_860, li_880, li_900, li_999, li_1024, li_2801, li_3440, li_3441, li_3442, li_3443, li_3444, li_3447, li_3448, li_3449, li_3457, li_3465, li_3469, li_3473, li_3477, li_3501, li_3513, li_3525, li_3537, li_3633, li_3730, li_3742, li_3754, li_3766, li_4095, li_4096, li_4300, li_9011, li_9999, li_10000, li_36864, li_65536, li_1000000, ll_0, ll_1, ll_100, ll_11, ll_16, ll_20, ll_3, ll_32, ll_50, ll_8, ll_96, ll_99, ll_9999, ne_m1, e_if, e_ret, e_rz0, e_rz1, e_rzb, e_call, bCallX_eq, nI_add, nI_mul, nI_succ1, le_i, lt_i, eq_i, m1_i, m1_le, m1_lt, m1_ge, m1_eq, ite_true, ite_false, if_true, if_false, Nat.le_refl]
theorem x_oneYear (h : RX s W) (hy : wYr W < 200) : ∃ t, fX9_oneYear 113 s = some ((), t) ∧ FM s t ∧ RX t (wY W) := by
  obtain ⟨iY, iW, iB, iS, iR, iRb, iD, iP, iPa, iDi, iF, iFd, iRo, iOw, iBo, iLa⟩ := h.wi
  have hT := h.1
  obtain ⟨f1, f2, f3, f4, f5, f0, f6, f7, f8, fp, ff, fr, -, -⟩ := h.2
  unfold fX9_oneYear
  have fin : ∀ u, FM s u → RX u (wY1 W) → ∃ t, fX9_oneYear_115 113 u = some ((), t) ∧ FM s t ∧ RX t (wY W) := by
    intro u hF hu
    obtain ⟨t, t1, t2, t3⟩ := x_years hu
    exact ⟨t, t1, hF.tr t2, t3⟩
  have hd : (wDr W * 2801 + 9011) % 65536 < 65536 := Nat.mod_lt _ (by decide)
  by_cases hr : wRa W ≤ 0
  · have eD : yD W = wDr W := by unfold yD; rw [if_neg (by omega)]
    have eW : yW W = min 999 (wWa W + wSi W) := by unfold yW; rw [if_neg (by omega)]
    obtain ⟨t, t1, t2⟩ := fin (wI (wI s 118 5 (nI (wYr W + 1))) 118 0 (nI (min 999 (wWa W + wSi W)))) ((FM.w (by omega)).tr (FM.w (by omega))) (by
      refine h.num rfl ?_ ?_ ?_ ?_ (fun j h1 h2 h3 h4 => ?_) (by omega) (by rw [eW]; omega) iB (by rw [eD]; exact iD)
      · simp (disch := omega) only [sI_wI_eq, sI_wI_ne]
      · simp (disch := omega) only [sI_wI_eq, sI_wI_ne, eW]
      · simp (disch := omega) only [sI_wI_ne]; exact f2
      · simp (disch := omega) only [sI_wI_ne, eD]; exact f6
      · simp (disch := omega) only [sI_wI_ne])
    refine ⟨t, ?_, t2⟩
    simp (disch := first | omega | ((repeat (apply RT.w)); assumption)) only [rt_c, rt_n, rt_w, sI_wI_eq, sI_wI_ne, f0, f1, f3, f4, li_0, li_1, li_2, li_3, li_4, li_5, li_6, li_7, li_8, li_9, li_10, li_11, li_12, li_13, li_14, li_15, li_16, li_17, li_20, li_24, li_25, li_29, li_31, li_32, li_33, li_37, li_40, li_41, li_48, li_49, li_50, li_56, li_57, li_59, li_60, li_61, li_62, li_63, li_70, li_73, li_85, li_97, li_98, li_99, li_100, li_101, li_102, li_103, li_104, li_105, li_107, li_108, li_109, li_110, li_111, li_112, li_114, li_115, li_116, li_117, li_118, li_119, li_121, li_122, li_140, li_193, li_200, li_240, li_255, li_289, li_290, li_300, li_302, li_314, li_326, li_860, li_880, li_900, li_999, li_1024, li_2801, li_3440, li_3441, li_3442, li_3443, li_3444, li_3447, li_3448, li_3449, li_3457, li_3465, li_3469, li_3473, li_3477, li_3501, li_3513, li_3525, li_3537, li_3633, li_3730, li_3742, li_3754, li_3766, li_4095, li_4096, li_4300, li_9011, li_9999, li_10000, li_36864, li_65536, li_1000000, ll_0, ll_1, ll_100, ll_11, ll_16, ll_20, ll_3, ll_32, ll_50, ll_8, ll_96, ll_99, ll_9999, ne_m1, e_if, e_ret, e_rz0, e_rz1, e_rzb, e_call, bCallX_eq, nI_add, nI_mul, nI_succ1, le_i, lt_i, eq_i, m1_i, m1_le, m1_lt, m1_ge, m1_eq, ite_true, ite_false, if_true, if_false, jMin_i, hr]
    exact t1
  · have eD : yD W = (wDr W * 2801 + 9011) % 65536 := by unfold yD; rw [if_pos (by omega)]
    by_cases hc : wRa W ≤ (wDr W * 2801 + 9011) % 65536 / 8 % 16
    · have eW : yW W = min 999 (wWa W + wSi W) := by unfold yW; rw [eD, if_neg (by omega)]
      obtain ⟨t, t1, t2⟩ := fin (wI (wI (wI s 118 5 (nI (wYr W + 1))) 118 0 (nI (min 999 (wWa W + wSi W)))) 118 6 (nI ((wDr W * 2801 + 9011) % 65536))) (((FM.w (by omega)).tr (FM.w (by omega))).tr (FM.w (by omega))) (by
        refine h.num rfl ?_ ?_ ?_ ?_ (fun j h1 h2 h3 h4 => ?_) (by omega) (by rw [eW]; omega) iB (by rw [eD]; exact hd)
        · simp (disch := omega) only [sI_wI_eq, sI_wI_ne]
        · simp (disch := omega) only [sI_wI_eq, sI_wI_ne, eW]
        · simp (disch := omega) only [sI_wI_ne]; exact f2
        · simp (disch := omega) only [sI_wI_eq, eD]
        · simp (disch := omega) only [sI_wI_ne])
      refine ⟨t, ?_, t2⟩
      simp (disch := first | omega | ((repeat (apply RT.w)); assumption)) only [rt_c, rt_n, rt_w, sI_wI_eq, sI_wI_ne, f0, f1, f3, f4, f6, li_0, li_1, li_2, li_3, li_4, li_5, li_6, li_7, li_8, li_9, li_10, li_11, li_12, li_13, li_14, li_15, li_16, li_17, li_20, li_24, li_25, li_29, li_31, li_32, li_33, li_37, li_40, li_41, li_48, li_49, li_50, li_56, li_57, li_59, li_60, li_61, li_62, li_63, li_70, li_73, li_85, li_97, li_98, li_99, li_100, li_101, li_102, li_103, li_104, li_105, li_107, li_108, li_109, li_110, li_111, li_112, li_114, li_115, li_116, li_117, li_118, li_119, li_121, li_122, li_140, li_193, li_200, li_240, li_255, li_289, li_290, li_300, li_302, li_314, li_326, li_860, li_880, li_900, li_999, li_1024, li_2801, li_3440, li_3441, li_3442, li_3443, li_3444, li_3447, li_3448, li_3449, li_3457, li_3465, li_3469, li_3473, li_3477, li_3501, li_3513, li_3525, li_3537, li_3633, li_3730, li_3742, li_3754, li_3766, li_4095, li_4096, li_4300, li_9011, li_9999, li_10000, li_36864, li_65536, li_1000000, ll_0, ll_1, ll_100, ll_11, ll_16, ll_20, ll_3, ll_32, ll_50, ll_8, ll_96, ll_99, ll_9999, ne_m1, e_if, e_ret, e_rz0, e_rz1, e_rzb, e_call, bCallX_eq, nI_add, nI_mul, nI_succ1, le_i, lt_i, eq_i, m1_i, m1_le, m1_lt, m1_ge, m1_eq, ite_true, ite_false, if_true, if_false, jMin_i, hr, e_nz, div_i, rem_j, hc]
      exact t1
    · have eW : yW W = min 999 (wWa W + wSi W) - wRb W := by unfold yW; rw [eD, if_pos (by omega)]
      obtain ⟨t, t1, t2⟩ := fin (wI (wI (wI (wI s 118 5 (nI (wYr W + 1))) 118 0 (nI (min 999 (wWa W + wSi W)))) 118 6 (nI ((wDr W * 2801 + 9011) % 65536))) 118 0 (nI (min 999 (wWa W + wSi W) - wRb W))) ((((FM.w (by omega)).tr (FM.w (by omega))).tr (FM.w (by omega))).tr (FM.w (by omega))) (by
        refine h.num rfl ?_ ?_ ?_ ?_ (fun j h1 h2 h3 h4 => ?_) (by omega) (by rw [eW]; omega) iB (by rw [eD]; exact hd)
        · simp (disch := omega) only [sI_wI_eq, sI_wI_ne]
        · simp (disch := omega) only [sI_wI_eq, eW]
        · simp (disch := omega) only [sI_wI_ne]; exact f2
        · simp (disch := omega) only [sI_wI_eq, sI_wI_ne, eD]
        · simp (disch := omega) only [sI_wI_ne])
      refine ⟨t, ?_, t2⟩
      simp (disch := first | omega | ((repeat (apply RT.w)); assumption)) only [rt_c, rt_n, rt_w, sI_wI_eq, sI_wI_ne, f0, f1, f3, f4, f5, f6, li_0, li_1, li_2, li_3, li_4, li_5, li_6, li_7, li_8, li_9, li_10, li_11, li_12, li_13, li_14, li_15, li_16, li_17, li_20, li_24, li_25, li_29, li_31, li_32, li_33, li_37, li_40, li_41, li_48, li_49, li_50, li_56, li_57, li_59, li_60, li_61, li_62, li_63, li_70, li_73, li_85, li_97, li_98, li_99, li_100, li_101, li_102, li_103, li_104, li_105, li_107, li_108, li_109, li_110, li_111, li_112, li_114, li_115, li_116, li_117, li_118, li_119, li_121, li_122, li_140, li_193, li_200, li_240, li_255, li_289, li_290, li_300, li_302, li_314, li_326, li_860, li_880, li_900, li_999, li_1024, li_2801, li_3440, li_3441, li_3442, li_3443, li_3444, li_3447, li_3448, li_3449, li_3457, li_3465, li_3469, li_3473, li_3477, li_3501, li_3513, li_3525, li_3537, li_3633, li_3730, li_3742, li_3754, li_3766, li_4095, li_4096, li_4300, li_9011, li_9999, li_10000, li_36864, li_65536, li_1000000, ll_0, ll_1, ll_100, ll_11, ll_16, ll_20, ll_3, ll_32, ll_50, ll_8, ll_96, ll_99, ll_9999, ne_m1, e_if, e_ret, e_rz0, e_rz1, e_rzb, e_call, bCallX_eq, nI_add, nI_mul, nI_succ1, le_i, lt_i, eq_i, m1_i, m1_le, m1_lt, m1_ge, m1_eq, ite_true, ite_false, if_true, if_false, jMin_i, hr, e_nz, div_i, rem_j, hc, max_sub2]
      exact t1
theorem RW.cong {c d : Nat → Int32} {W : wW} (h : RW c W) (hc : ∀ i, i < 860 → d i = c i) : RW d W := by
  obtain ⟨e0, e1, e2, e3, e4, e5, e6, e7, e8, ep, ef, er, ew, el⟩ := h
  have iP := ew.2.2.2.2.2.2.2.1
  have iF := ew.2.2.2.2.2.2.2.2.2.2.1
  have iL := ew.2.2.2.2.2.2.2.2.2.2.2.2.2.2.2
  have iL1 := iL.1
  have iL2 := iL.2.1
  refine ⟨by rw [hc _ (by omega)]; exact e0, by rw [hc _ (by omega)]; exact e1, by rw [hc _ (by omega)]; exact e2, by rw [hc _ (by omega)]; exact e3, by rw [hc _ (by omega)]; exact e4, by rw [hc _ (by omega)]; exact e5, by rw [hc _ (by omega)]; exact e6, by rw [hc _ (by omega)]; exact e7, by rw [hc _ (by omega)]; exact e8, fun p hp => ?_, fun f hf => ?_, fun r hr => ?_, ew, ?_⟩
  · rw [hc _ (by omega), hc _ (by omega)]; exact ep p hp
  · rw [hc _ (by omega), hc _ (by omega), hc _ (by omega)]; exact ef f hf
  · exact (er r hr).mv (ew.2.2.2.2.2.2.2.2.2.2.2.2.1 r).1 fun i hi => hc i (by omega)
  · obtain ⟨l1, l2, l3⟩ := el
    refine ⟨by rw [hc _ (by omega)]; exact l1, fun k hk => ?_, fun j hj => ?_⟩
    · rw [hc _ (by omega), hc _ (by omega), hc _ (by omega)]; exact l2 k hk
    · rw [hc _ (by omega), hc _ (by omega), hc _ (by omega)]; exact l3 j hj
theorem RT.h119 {s : mS} (h : RT s) : sH s 119 = (11, 860) := h.2.2.2.2.2.2.2.2.2.2.2.2.2.2.2.2.2.1
theorem rt_25 {w : mS} {α : Type} (hT : RT w) {f : Nat → mM α} : bGR 9 113 25 f w = f 119 w := xGR hT.k hT.2.2.2.2.2.2.1
theorem x_keep (hT : RT s) : ∃ t, fX9_keep 113 s = some ((), t) ∧ FI (fun b => b = 119) s t ∧ ∀ i, i < 860 → sI t 119 i = sI s 118 i := by
  unfold fX9_keep
  have key := loop_s (fun n k => fX9_keep_2 n 113 (nI k)) (fun k v => FI (fun b => b = 119) s v ∧ ∀ i, i < k → sI v 119 i = sI s 118 i) 860 (fun q => FI (fun b => b = 119) s q.2 ∧ ∀ i, i < 860 → sI q.2 119 i = sI s 118 i) ?_ ?_ fu 0 s (by omega) (by unfold fu; omega) ⟨FI.rf, fun i hi => by omega⟩
  · obtain ⟨⟨⟨⟩, t⟩, h3, h4⟩ := key
    exact ⟨t, h3, h4⟩
  · rintro n k v hk ⟨hF, hv⟩
    have hk' : ¬ 860 ≤ k := by omega
    have hTv := hT.mv hF.2
    refine ⟨wI v 119 k (sI s 118 k), ⟨hF.tr (FI.w _ _ rfl), fun i hi => ?_⟩, ?_⟩
    · by_cases hik : i = k
      · rw [hik, sI_wI_eq]
      · rw [sI_wI_ne (Or.inr hik)]; exact hv i (by omega)
    · show fX9_keep_2 (n + 1) 113 _ v = _
      rw [qX9_keep_2]
      simp (disch := first | omega | ((repeat (apply RT.w)); assumption)) only [rt_c, rt_25, rt_n, li_0, li_1, li_2, li_3, li_4, li_5, li_6, li_7, li_8, li_9, li_10, li_11, li_12, li_13, li_14, li_15, li_16, li_17, li_20, li_24, li_25, li_29, li_31, li_32, li_33, li_37, li_40, li_41, li_48, li_49, li_50, li_56, li_57, li_59, li_60, li_61, li_62, li_63, li_70, li_73, li_85, li_97, li_98, li_99, li_100, li_101, li_102, li_103, li_104, li_105, li_107, li_108, li_109, li_110, li_111, li_112, li_114, li_115, li_116, li_117, li_118, li_119, li_121, li_122, li_140, li_193, li_200, li_240, li_255, li_289, li_290, li_300, li_302, li_314, li_326, li_860, li_880, li_900, li_999, li_1024, li_2801, li_3440, li_3441, li_3442, li_3443, li_3444, li_3447, li_3448, li_3449, li_3457, li_3465, li_3469, li_3473, li_3477, li_3501, li_3513, li_3525, li_3537, li_3633, li_3730, li_3742, li_3754, li_3766, li_4095, li_4096, li_4300, li_9011, li_9999, li_10000, li_36864, li_65536, li_1000000, ll_0, ll_1, ll_100, ll_11, ll_16, ll_20, ll_3, ll_32, ll_50, ll_8, ll_96, ll_99, ll_9999, ne_m1, e_if, e_ret, e_rz0, e_rz1, e_rzb, e_call, bCallX_eq, nI_add, nI_mul, nI_succ1, le_i, lt_i, eq_i, m1_i, m1_le, m1_lt, m1_ge, m1_eq, ite_true, ite_false, if_true, if_false, hk']
      rw [xSI hTv.h119 hk (by decide), hF.1 118 (by decide)]
  · rintro n v ⟨hF, hv⟩
    refine ⟨((), v), ?_, hF, hv⟩
    show fX9_keep_2 (n + 1) 113 _ v = _
    rw [qX9_keep_2]
    simp (disch := omega) only [li_0, li_1, li_2, li_3, li_4, li_5, li_6, li_7, li_8, li_9, li_10, li_11, li_12, li_13, li_14, li_15, li_16, li_17, li_20, li_24, li_25, li_29, li_31, li_32, li_33, li_37, li_40, li_41, li_48, li_49, li_50, li_56, li_57, li_59, li_60, li_61, li_62, li_63, li_70, li_73, li_85, li_97, li_98, li_99, li_100, li_101, li_102, li_103, li_104, li_105, li_107, li_108, li_109, li_110, li_111, li_112, li_114, li_115, li_116, li_117, li_118, li_119, li_121, li_122, li_140, li_193, li_200, li_240, li_255, li_289, li_290, li_300, li_302, li_314, li_326, li_860, li_880, li_900, li_999, li_1024, li_2801, li_3440, li_3441, li_3442, li_3443, li_3444, li_3447, li_3448, li_3449, li_3457, li_3465, li_3469, li_3473, li_3477, li_3501, li_3513, li_3525, li_3537, li_3633, li_3730, li_3742, li_3754, li_3766, li_4095, li_4096, li_4300, li_9011, li_9999, li_10000, li_36864, li_65536, li_1000000, ll_0, ll_1, ll_100, ll_11, ll_16, ll_20, ll_3, ll_32, ll_50, ll_8, ll_96, ll_99, ll_9999, ne_m1, e_if, e_ret, e_rz0, e_rz1, e_rzb, e_call, bCallX_eq, nI_add, nI_mul, nI_succ1, le_i, lt_i, eq_i, m1_i, m1_le, m1_lt, m1_ge, m1_eq, ite_true, ite_false, if_true, if_false, Nat.le_refl]
theorem x_takeAgain (hT : RT s) : ∃ t, fX9_takeAgain 113 s = some ((), t) ∧ FI at118 s t ∧ (∀ i, i < 860 → sI t 118 i = sI s 119 i) ∧ (∀ i, 860 ≤ i → sI t 118 i = sI s 118 i) := by
  unfold fX9_takeAgain
  have key := loop_s (fun n k => fX9_takeAgain_2 n 113 (nI k)) (fun k v => FI at118 s v ∧ (∀ i, i < k → sI v 118 i = sI s 119 i) ∧ (∀ i, k ≤ i → sI v 118 i = sI s 118 i)) 860 (fun q => FI at118 s q.2 ∧ (∀ i, i < 860 → sI q.2 118 i = sI s 119 i) ∧ (∀ i, 860 ≤ i → sI q.2 118 i = sI s 118 i)) ?_ ?_ fu 0 s (by omega) (by unfold fu; omega) ⟨FI.rf, fun i hi => by omega, fun i hi => rfl⟩
  · obtain ⟨⟨⟨⟩, t⟩, h3, h4⟩ := key
    exact ⟨t, h3, h4⟩
  · rintro n k v hk ⟨hF, hv, hv2⟩
    have hk' : ¬ 860 ≤ k := by omega
    have hTv := hT.mv hF.2
    refine ⟨wI v 118 k (sI s 119 k), ⟨hF.tr (FI.w (A := at118) _ _ rfl), fun i hi => ?_, fun i hi => ?_⟩, ?_⟩
    · by_cases hik : i = k
      · rw [hik, sI_wI_eq]
      · rw [sI_wI_ne (Or.inr hik)]; exact hv i (by omega)
    · rw [sI_wI_ne (Or.inr (by omega))]; exact hv2 i (by omega)
    · show fX9_takeAgain_2 (n + 1) 113 _ v = _
      rw [qX9_takeAgain_2]
      simp (disch := first | omega | ((repeat (apply RT.w)); assumption)) only [rt_c, rt_25, li_0, li_1, li_2, li_3, li_4, li_5, li_6, li_7, li_8, li_9, li_10, li_11, li_12, li_13, li_14, li_15, li_16, li_17, li_20, li_24, li_25, li_29, li_31, li_32, li_33, li_37, li_40, li_41, li_48, li_49, li_50, li_56, li_57, li_59, li_60, li_61, li_62, li_63, li_70, li_73, li_85, li_97, li_98, li_99, li_100, li_101, li_102, li_103, li_104, li_105, li_107, li_108, li_109, li_110, li_111, li_112, li_114, li_115, li_116, li_117, li_118, li_119, li_121, li_122, li_140, li_193, li_200, li_240, li_255, li_289, li_290, li_300, li_302, li_314, li_326, li_860, li_880, li_900, li_999, li_1024, li_2801, li_3440, li_3441, li_3442, li_3443, li_3444, li_3447, li_3448, li_3449, li_3457, li_3465, li_3469, li_3473, li_3477, li_3501, li_3513, li_3525, li_3537, li_3633, li_3730, li_3742, li_3754, li_3766, li_4095, li_4096, li_4300, li_9011, li_9999, li_10000, li_36864, li_65536, li_1000000, ll_0, ll_1, ll_100, ll_11, ll_16, ll_20, ll_3, ll_32, ll_50, ll_8, ll_96, ll_99, ll_9999, ne_m1, e_if, e_ret, e_rz0, e_rz1, e_rzb, e_call, bCallX_eq, nI_add, nI_mul, nI_succ1, le_i, lt_i, eq_i, m1_i, m1_le, m1_lt, m1_ge, m1_eq, ite_true, ite_false, if_true, if_false, hk']
      rw [xAI hTv.h119 hk (by decide), rt_w hTv (by omega), hF.1 119 (by decide)]
  · rintro n v ⟨hF, hv⟩
    refine ⟨((), v), ?_, hF, hv⟩
    show fX9_takeAgain_2 (n + 1) 113 _ v = _
    rw [qX9_takeAgain_2]
    simp (disch := omega) only [li_0, li_1, li_2, li_3, li_4, li_5, li_6, li_7, li_8, li_9, li_10, li_11, li_12, li_13, li_14, li_15, li_16, li_17, li_20, li_24, li_25, li_29, li_31, li_32, li_33, li_37, li_40, li_41, li_48, li_49, li_50, li_56, li_57, li_59, li_60, li_61, li_62, li_63, li_70, li_73, li_85, li_97, li_98, li_99, li_100, li_101, li_102, li_103, li_104, li_105, li_107, li_108, li_109, li_110, li_111, li_112, li_114, li_115, li_116, li_117, li_118, li_119, li_121, li_122, li_140, li_193, li_200, li_240, li_255, li_289, li_290, li_300, li_302, li_314, li_326, li_860, li_880, li_900, li_999, li_1024, li_2801, li_3440, li_3441, li_3442, li_3443, li_3444, li_3447, li_3448, li_3449, li_3457, li_3465, li_3469, li_3473, li_3477, li_3501, li_3513, li_3525, li_3537, li_3633, li_3730, li_3742, li_3754, li_3766, li_4095, li_4096, li_4300, li_9011, li_9999, li_10000, li_36864, li_65536, li_1000000, ll_0, ll_1, ll_100, ll_11, ll_16, ll_20, ll_3, ll_32, ll_50, ll_8, ll_96, ll_99, ll_9999, ne_m1, e_if, e_ret, e_rz0, e_rz1, e_rzb, e_call, bCallX_eq, nI_add, nI_mul, nI_succ1, le_i, lt_i, eq_i, m1_i, m1_le, m1_lt, m1_ge, m1_eq, ite_true, ite_false, if_true, if_false, Nat.le_refl]
theorem x_copy (hT : RT s) {a b : Nat} (ha : a ≤ 4) (hb : b ≤ 4) (hab : a ≠ b) : ∃ t, fX9_copy 113 (nI a) (nI b) s = some ((), t) ∧ FI at118 s t ∧ (∀ i, i < 860 → sI t 118 (860 * b + i) = sI s 118 (860 * a + i)) ∧ (∀ i, i < 860 * b ∨ 860 * b + 860 ≤ i → sI t 118 i = sI s 118 i) := by
  unfold fX9_copy
  have hd : 860 * a + 860 ≤ 860 * b ∨ 860 * b + 860 ≤ 860 * a := by omega
  have key := loop_s (fun n k => fX9_copy_2 n 113 (nI a) (nI b) (nI k)) (fun k v => FI at118 s v ∧ (∀ i, i < k → sI v 118 (860 * b + i) = sI s 118 (860 * a + i)) ∧ (∀ i, i < 860 * b ∨ 860 * b + k ≤ i → sI v 118 i = sI s 118 i)) 860 (fun q => FI at118 s q.2 ∧ (∀ i, i < 860 → sI q.2 118 (860 * b + i) = sI s 118 (860 * a + i)) ∧ (∀ i, i < 860 * b ∨ 860 * b + 860 ≤ i → sI q.2 118 i = sI s 118 i)) ?_ ?_ fu 0 s (by omega) (by unfold fu; omega) ⟨FI.rf, fun i hi => by omega, fun i hi => rfl⟩
  · obtain ⟨⟨⟨⟩, t⟩, h3, h4⟩ := key
    exact ⟨t, h3, h4⟩
  · rintro n k v hk ⟨hF, hv, hv2⟩
    have hk' : ¬ 860 ≤ k := by omega
    have hTv := hT.mv hF.2
    refine ⟨wI v 118 (860 * b + k) (sI s 118 (860 * a + k)), ⟨hF.tr (FI.w (A := at118) _ _ rfl), fun i hi => ?_, fun i hi => ?_⟩, ?_⟩
    · by_cases hik : i = k
      · rw [hik, sI_wI_eq]
      · rw [sI_wI_ne (Or.inr (by omega))]; exact hv i (by omega)
    · rw [sI_wI_ne (Or.inr (by omega))]; exact hv2 i (by omega)
    · show fX9_copy_2 (n + 1) 113 _ _ _ v = _
      rw [qX9_copy_2]
      simp (disch := first | omega | ((repeat (apply RT.w)); assumption)) only [rt_c, rt_n, rt_w, li_0, li_1, li_2, li_3, li_4, li_5, li_6, li_7, li_8, li_9, li_10, li_11, li_12, li_13, li_14, li_15, li_16, li_17, li_20, li_24, li_25, li_29, li_31, li_32, li_33, li_37, li_40, li_41, li_48, li_49, li_50, li_56, li_57, li_59, li_60, li_61, li_62, li_63, li_70, li_73, li_85, li_97, li_98, li_99, li_100, li_101, li_102, li_103, li_104, li_105, li_107, li_108, li_109, li_110, li_111, li_112, li_114, li_115, li_116, li_117, li_118, li_119, li_121, li_122, li_140, li_193, li_200, li_240, li_255, li_289, li_290, li_300, li_302, li_314, li_326, li_860, li_880, li_900, li_999, li_1024, li_2801, li_3440, li_3441, li_3442, li_3443, li_3444, li_3447, li_3448, li_3449, li_3457, li_3465, li_3469, li_3473, li_3477, li_3501, li_3513, li_3525, li_3537, li_3633, li_3730, li_3742, li_3754, li_3766, li_4095, li_4096, li_4300, li_9011, li_9999, li_10000, li_36864, li_65536, li_1000000, ll_0, ll_1, ll_100, ll_11, ll_16, ll_20, ll_3, ll_32, ll_50, ll_8, ll_96, ll_99, ll_9999, ne_m1, e_if, e_ret, e_rz0, e_rz1, e_rzb, e_call, bCallX_eq, nI_add, nI_mul, nI_succ1, le_i, lt_i, eq_i, m1_i, m1_le, m1_lt, m1_ge, m1_eq, ite_true, ite_false, if_true, if_false, hk']
      rw [hv2 _ (by omega)]
  · rintro n v ⟨hF, hv⟩
    refine ⟨((), v), ?_, hF, hv⟩
    show fX9_copy_2 (n + 1) 113 _ _ _ v = _
    rw [qX9_copy_2]
    simp (disch := omega) only [li_0, li_1, li_2, li_3, li_4, li_5, li_6, li_7, li_8, li_9, li_10, li_11, li_12, li_13, li_14, li_15, li_16, li_17, li_20, li_24, li_25, li_29, li_31, li_32, li_33, li_37, li_40, li_41, li_48, li_49, li_50, li_56, li_57, li_59, li_60, li_61, li_62, li_63, li_70, li_73, li_85, li_97, li_98, li_99, li_100, li_101, li_102, li_103, li_104, li_105, li_107, li_108, li_109, li_110, li_111, li_112, li_114, li_115, li_116, li_117, li_118, li_119, li_121, li_122, li_140, li_193, li_200, li_240, li_255, li_289, li_290, li_300, li_302, li_314, li_326, li_860, li_880, li_900, li_999, li_1024, li_2801, li_3440, li_3441, li_3442, li_3443, li_3444, li_3447, li_3448, li_3449, li_3457, li_3465, li_3469, li_3473, li_3477, li_3501, li_3513, li_3525, li_3537, li_3633, li_3730, li_3742, li_3754, li_3766, li_4095, li_4096, li_4300, li_9011, li_9999, li_10000, li_36864, li_65536, li_1000000, ll_0, ll_1, ll_100, ll_11, ll_16, ll_20, ll_3, ll_32, ll_50, ll_8, ll_96, ll_99, ll_9999, ne_m1, e_if, e_ret, e_rz0, e_rz1, e_rzb, e_call, bCallX_eq, nI_add, nI_mul, nI_succ1, le_i, lt_i, eq_i, m1_i, m1_le, m1_lt, m1_ge, m1_eq, ite_true, ite_false, if_true, if_false, Nat.le_refl]
end RP

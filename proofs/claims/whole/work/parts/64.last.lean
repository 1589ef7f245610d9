/-! THE LAST YEAR WITH WATER -/
def laS (W : wW) (n : Nat) : Option (Nat × Nat) := it (fun k o => if wDs (wQ W k) = 0 then o else some (k, wDs (wQ W k))) none n
theorem laS_s (W : wW) (k : Nat) : laS W (k + 1) = if wDs (wQ W k) = 0 then laS W k else some (k, wDs (wQ W k)) := rfl
def laK (o : Option (Nat × Nat)) : Option Nat := o.map Prod.fst
def laD (o : Option (Nat × Nat)) : Nat := match o with
  | none => 0
  | some q => q.2
def laL (o : Option (Nat × Nat)) : Option Nat := o.map fun q => lo q.2
theorem laS_b {W : wW} (hw : wOk W) : ∀ n q, laS W n = some q → q.1 < n ∧ q.2 < 256 ∧ q.2 ≠ 0
  | 0, q, h => by cases h
  | n + 1, q, h => by
    rw [laS_s] at h
    split at h
    · have := laS_b hw n q h
      omega
    · rename_i h0
      cases h
      exact ⟨by show n < n + 1; omega, wDs_lt (GT.q hw n).1, h0⟩
theorem laK_m {W : wW} (hw : wOk W) (n : Nat) (hn : n < 1000) : ∀ j, laK (laS W n) = some j → j < 2147483648 := by
  intro j hj
  cases h : laS W n with
  | none => rw [h] at hj; cases hj
  | some q =>
    rw [h] at hj
    have := (laS_b hw n q h).1
    have e : q.1 = j := by cases hj; rfl
    omega
theorem c_last {s : mS} {W : wW} {z : Nat} (hS : CS s) (hw : wOk W) (hz : z ≤ 1) {v : mS} (hA : HA s v) (hv : CW v 48 W) : ∃ v1, HA s v1 ∧ fX8_last_39 fu 1 (nI z) (nI (mLf W)) mI (nI 0) (nI 0) v = some (oI (if z = 0 then laL (laS W (mLf W + 1)) else laK (laS W (mLf W + 1))), wI v1 1 11 (nI (stN (laS W (mLf W + 1))))) := by
  have hm := mLf_b hw
  have key := loop_s (fun n k => fX8_last_39 n 1 (nI z) (nI (mLf W)) (oI (laK (laS W k))) (nI (laD (laS W k))) (nI k)) (fun k u => HA s u ∧ CW u 48 (wQ W k)) (mLf W + 1) (fun q => ∃ u, HA s u ∧ q = (oI (if z = 0 then laL (laS W (mLf W + 1)) else laK (laS W (mLf W + 1))), wI u 1 11 (nI (stN (laS W (mLf W + 1)))))) ?_ ?_ fu 0 v (by omega) (by unfold fu; omega) ⟨hA, hv⟩
  · obtain ⟨q, e1, u, e2, e3⟩ := key
    rw [e3] at e1
    exact ⟨u, e2, e1⟩
  · rintro n k u hk ⟨hAu, hu⟩
    have hSu := hAu.cs hS
    obtain ⟨w, g1, g2, g3⟩ := c_passYear hu (by decide)
    refine ⟨w, ⟨hAu.fi g2, g3⟩, ?_⟩
    have hd := wDs_lt hu.wi
    show fX8_last_39 (n + 1) 1 _ _ _ _ _ u = _
    rw [qX8_last_39, laS_s]
    unfold fX8_last_66
    simp (disch := omega) only [li_0, li_1, li_2, li_3, li_4, li_5, li_6, li_7, li_8, li_9, li_10, li_11, li_12, li_13, li_14, li_15, li_16, li_17, li_20, li_24, li_25, li_29, li_31, li_32, li_33, li_37, li_40, li_41, li_48, li_49, li_50, li_56, li_57, li_59, li_60, li_61, li_62, li_63, li_70, li_73, li_85, li_97, li_98, li_99, li_100, li_101, li_102, li_103, li_104, li_105, li_107, li_108, li_109, li_110, li_111, li_112, li_114, li_115, li_116, li_117, li_118, li_119, li_121, li_122, li_140, li_193, li_200, li_240, li_255, li_289, li_290, li_300, li_302, li_314, li_326, li_860, li_880, li_900, li_999, li_1024, li_2801, li_3440, li_3441, li_3442, li_3443, li_3444, li_3447, li_3448, li_3449, li_3457, li_3465, li_3469, li_3473, li_3477, li_3501, li_3513, li_3525, li_3537, li_3633, li_3730, li_3742, li_3754, li_3766, li_4095, li_4096, li_4300, li_9011, li_9999, li_10000, li_36864, li_65536, li_1000000, ll_0, ll_1, ll_100, ll_11, ll_16, ll_20, ll_3, ll_32, ll_50, ll_8, ll_96, ll_99, ll_9999, ne_m1, e_if, e_ret, e_rz0, e_rz1, e_rzb, e_call, bCallX_eq, nI_add, nI_mul, nI_succ1, le_i, lt_i, eq_i, m1_i, m1_le, m1_lt, m1_ge, m1_eq, ite_true, ite_false, if_true, if_false, show ¬ mLf W < k by omega, k_then hSu, e_callV hu.k, c_drinkers hu, g1]
    by_cases h0 : wDs (wQ W k) = 0
    · simp only [h0, if_true]
    · simp only [h0, if_false]
      rfl
  · rintro n u ⟨hAu, hu⟩
    have hSu := hAu.cs hS
    have hb := laS_b hw (mLf W + 1)
    show ∃ q, fX8_last_39 (n + 1) 1 _ _ _ _ _ u = some q ∧ _
    rw [qX8_last_39]
    unfold fX8_last_79 fX8_last_90 fX8_last_103
    have hz2 : (nI z = nI 0) = (z = 0) := eq_i (by omega) (by decide)
    generalize laS W (mLf W + 1) = o at hb ⊢
    cases o with
    | none =>
      refine ⟨_, ?_, u, hAu, rfl⟩
      by_cases h0 : z = 0
      · simp (disch := omega) only [li_0, li_1, li_2, li_3, li_4, li_5, li_6, li_7, li_8, li_9, li_10, li_11, li_12, li_13, li_14, li_15, li_16, li_17, li_20, li_24, li_25, li_29, li_31, li_32, li_33, li_37, li_40, li_41, li_48, li_49, li_50, li_56, li_57, li_59, li_60, li_61, li_62, li_63, li_70, li_73, li_85, li_97, li_98, li_99, li_100, li_101, li_102, li_103, li_104, li_105, li_107, li_108, li_109, li_110, li_111, li_112, li_114, li_115, li_116, li_117, li_118, li_119, li_121, li_122, li_140, li_193, li_200, li_240, li_255, li_289, li_290, li_300, li_302, li_314, li_326, li_860, li_880, li_900, li_999, li_1024, li_2801, li_3440, li_3441, li_3442, li_3443, li_3444, li_3447, li_3448, li_3449, li_3457, li_3465, li_3469, li_3473, li_3477, li_3501, li_3513, li_3525, li_3537, li_3633, li_3730, li_3742, li_3754, li_3766, li_4095, li_4096, li_4300, li_9011, li_9999, li_10000, li_36864, li_65536, li_1000000, ll_0, ll_1, ll_100, ll_11, ll_16, ll_20, ll_3, ll_32, ll_50, ll_8, ll_96, ll_99, ll_9999, ne_m1, e_if, e_ret, e_rz0, e_rz1, e_rzb, e_call, bCallX_eq, nI_add, nI_mul, nI_succ1, le_i, lt_i, eq_i, m1_i, m1_le, m1_lt, m1_ge, m1_eq, ite_true, ite_false, if_true, if_false, show mLf W < mLf W + 1 by omega, laK, laD, laL, Option.map_none, oI_n, h0, c_leastOf, k_cv hSu, k_tellIf0 hSu]
        rfl
      · simp (disch := omega) only [li_0, li_1, li_2, li_3, li_4, li_5, li_6, li_7, li_8, li_9, li_10, li_11, li_12, li_13, li_14, li_15, li_16, li_17, li_20, li_24, li_25, li_29, li_31, li_32, li_33, li_37, li_40, li_41, li_48, li_49, li_50, li_56, li_57, li_59, li_60, li_61, li_62, li_63, li_70, li_73, li_85, li_97, li_98, li_99, li_100, li_101, li_102, li_103, li_104, li_105, li_107, li_108, li_109, li_110, li_111, li_112, li_114, li_115, li_116, li_117, li_118, li_119, li_121, li_122, li_140, li_193, li_200, li_240, li_255, li_289, li_290, li_300, li_302, li_314, li_326, li_860, li_880, li_900, li_999, li_1024, li_2801, li_3440, li_3441, li_3442, li_3443, li_3444, li_3447, li_3448, li_3449, li_3457, li_3465, li_3469, li_3473, li_3477, li_3501, li_3513, li_3525, li_3537, li_3633, li_3730, li_3742, li_3754, li_3766, li_4095, li_4096, li_4300, li_9011, li_9999, li_10000, li_36864, li_65536, li_1000000, ll_0, ll_1, ll_100, ll_11, ll_16, ll_20, ll_3, ll_32, ll_50, ll_8, ll_96, ll_99, ll_9999, ne_m1, e_if, e_ret, e_rz0, e_rz1, e_rzb, e_call, bCallX_eq, nI_add, nI_mul, nI_succ1, le_i, lt_i, eq_i, m1_i, m1_le, m1_lt, m1_ge, m1_eq, ite_true, ite_false, if_true, if_false, show mLf W < mLf W + 1 by omega, laK, laD, laL, Option.map_none, oI_n, h0, k_cv hSu, k_tellIf0 hSu]
        rfl
    | some q =>
      obtain ⟨b1, b2, b3⟩ := hb q rfl
      have hlo := lo_lt (m := q.2) b2 b3
      refine ⟨_, ?_, u, hAu, rfl⟩
      by_cases h0 : z = 0
      · simp (disch := omega) only [li_0, li_1, li_2, li_3, li_4, li_5, li_6, li_7, li_8, li_9, li_10, li_11, li_12, li_13, li_14, li_15, li_16, li_17, li_20, li_24, li_25, li_29, li_31, li_32, li_33, li_37, li_40, li_41, li_48, li_49, li_50, li_56, li_57, li_59, li_60, li_61, li_62, li_63, li_70, li_73, li_85, li_97, li_98, li_99, li_100, li_101, li_102, li_103, li_104, li_105, li_107, li_108, li_109, li_110, li_111, li_112, li_114, li_115, li_116, li_117, li_118, li_119, li_121, li_122, li_140, li_193, li_200, li_240, li_255, li_289, li_290, li_300, li_302, li_314, li_326, li_860, li_880, li_900, li_999, li_1024, li_2801, li_3440, li_3441, li_3442, li_3443, li_3444, li_3447, li_3448, li_3449, li_3457, li_3465, li_3469, li_3473, li_3477, li_3501, li_3513, li_3525, li_3537, li_3633, li_3730, li_3742, li_3754, li_3766, li_4095, li_4096, li_4300, li_9011, li_9999, li_10000, li_36864, li_65536, li_1000000, ll_0, ll_1, ll_100, ll_11, ll_16, ll_20, ll_3, ll_32, ll_50, ll_8, ll_96, ll_99, ll_9999, ne_m1, e_if, e_ret, e_rz0, e_rz1, e_rzb, e_call, bCallX_eq, nI_add, nI_mul, nI_succ1, le_i, lt_i, eq_i, m1_i, m1_le, m1_lt, m1_ge, m1_eq, ite_true, ite_false, if_true, if_false, show mLf W < mLf W + 1 by omega, laK, laD, laL, Option.map_some, oI_s, h0, c_leastOf, nO, hlo, k_cv hSu, k_tellIf1 hSu]
        rfl
      · simp (disch := omega) only [li_0, li_1, li_2, li_3, li_4, li_5, li_6, li_7, li_8, li_9, li_10, li_11, li_12, li_13, li_14, li_15, li_16, li_17, li_20, li_24, li_25, li_29, li_31, li_32, li_33, li_37, li_40, li_41, li_48, li_49, li_50, li_56, li_57, li_59, li_60, li_61, li_62, li_63, li_70, li_73, li_85, li_97, li_98, li_99, li_100, li_101, li_102, li_103, li_104, li_105, li_107, li_108, li_109, li_110, li_111, li_112, li_114, li_115, li_116, li_117, li_118, li_119, li_121, li_122, li_140, li_193, li_200, li_240, li_255, li_289, li_290, li_300, li_302, li_314, li_326, li_860, li_880, li_900, li_999, li_1024, li_2801, li_3440, li_3441, li_3442, li_3443, li_3444, li_3447, li_3448, li_3449, li_3457, li_3465, li_3469, li_3473, li_3477, li_3501, li_3513, li_3525, li_3537, li_3633, li_3730, li_3742, li_3754, li_3766, li_4095, li_4096, li_4300, li_9011, li_9999, li_10000, li_36864, li_65536, li_1000000, ll_0, ll_1, ll_100, ll_11, ll_16, ll_20, ll_3, ll_32, ll_50, ll_8, ll_96, ll_99, ll_9999, ne_m1, e_if, e_ret, e_rz0, e_rz1, e_rzb, e_call, bCallX_eq, nI_add, nI_mul, nI_succ1, le_i, lt_i, eq_i, m1_i, m1_le, m1_lt, m1_ge, m1_eq, ite_true, ite_false, if_true, if_false, show mLf W < mLf W + 1 by omega, laK, laD, laL, Option.map_some, oI_s, h0, k_cv hSu, k_tellIf1 hSu]
        rfl
theorem x_laStop (m : Nat) (a b c d : Int32) (v : mS) : fX9_last_40 (m + 1) 113 a b c d (nI 0) v = fX9_last_107 113 a b c v := by
  rw [qX9_last_40, e_if, li_0, if_pos rfl]
theorem x_last {s : mS} {W : wW} {z : Nat} (hw : wOk W) : ∀ d k n v, k + d = mLf W → d + 2 < n → HK s v → RX v (wQ W k) → ∃ v1, HK s v1 ∧ RT v1 ∧ fX9_last_40 n 113 (nI z) (oI (laK (laS W k))) (oI (laL (laS W k))) (nI k) (nI 1) v = fX9_last_107 113 (nI z) (oI (laK (laS W (mLf W + 1)))) (oI (laL (laS W (mLf W + 1)))) v1 := by
  have hm := mLf_b hw
  have hyr := hw.1
  intro d
  induction d with
  | zero =>
    intro k n v hk hn hA hv
    obtain ⟨m, rfl⟩ : ∃ m, n = m + 1 := ⟨n - 1, by omega⟩
    obtain ⟨m, rfl⟩ : ∃ i, m = i + 1 := ⟨m - 1, by omega⟩
    obtain rfl : k = mLf W := by omega
    have hyk : wYr (wQ W (mLf W)) = wYr W + mLf W := wQ_yr _ (by omega)
    have hcl : ∀ {β : Type} (A B : β), (if 100 < mLf W + 1 then A else if 200 ≤ wYr W + mLf W then A else B) = A := by
      intro β A B
      have hlast : 100 < mLf W + 1 ∨ 200 ≤ wYr W + mLf W := by unfold mLf; omega
      by_cases h1 : 100 < mLf W + 1
      · exact if_pos h1
      · rw [if_neg h1, if_pos (by omega)]
    have hd := wDs_lt hv.wi
    refine ⟨v, hA, hv.1, ?_⟩
    rw [qX9_last_40, laS_s]
    unfold fX9_last_66 fX9_last_92 fX9_last_93
    by_cases h0 : wDs (wQ W (mLf W)) = 0
    · simp (disch := omega) only [li_0, li_1, li_2, li_3, li_4, li_5, li_6, li_7, li_8, li_9, li_10, li_11, li_12, li_13, li_14, li_15, li_16, li_17, li_20, li_24, li_25, li_29, li_31, li_32, li_33, li_37, li_40, li_41, li_48, li_49, li_50, li_56, li_57, li_59, li_60, li_61, li_62, li_63, li_70, li_73, li_85, li_97, li_98, li_99, li_100, li_101, li_102, li_103, li_104, li_105, li_107, li_108, li_109, li_110, li_111, li_112, li_114, li_115, li_116, li_117, li_118, li_119, li_121, li_122, li_140, li_193, li_200, li_240, li_255, li_289, li_290, li_300, li_302, li_314, li_326, li_860, li_880, li_900, li_999, li_1024, li_2801, li_3440, li_3441, li_3442, li_3443, li_3444, li_3447, li_3448, li_3449, li_3457, li_3465, li_3469, li_3473, li_3477, li_3501, li_3513, li_3525, li_3537, li_3633, li_3730, li_3742, li_3754, li_3766, li_4095, li_4096, li_4300, li_9011, li_9999, li_10000, li_36864, li_65536, li_1000000, ll_0, ll_1, ll_100, ll_11, ll_16, ll_20, ll_3, ll_32, ll_50, ll_8, ll_96, ll_99, ll_9999, ne_m1, e_if, e_ret, e_rz0, e_rz1, e_rzb, e_call, bCallX_eq, nI_add, nI_mul, nI_succ1, le_i, lt_i, eq_i, m1_i, m1_le, m1_lt, m1_ge, m1_eq, ite_true, ite_false, if_true, if_false, n10, e_callV hv.k, x_drinkers hv, h0, r_c hv, r_yr hv, hyk, x_laStop, hcl]
    · simp (disch := omega) only [li_0, li_1, li_2, li_3, li_4, li_5, li_6, li_7, li_8, li_9, li_10, li_11, li_12, li_13, li_14, li_15, li_16, li_17, li_20, li_24, li_25, li_29, li_31, li_32, li_33, li_37, li_40, li_41, li_48, li_49, li_50, li_56, li_57, li_59, li_60, li_61, li_62, li_63, li_70, li_73, li_85, li_97, li_98, li_99, li_100, li_101, li_102, li_103, li_104, li_105, li_107, li_108, li_109, li_110, li_111, li_112, li_114, li_115, li_116, li_117, li_118, li_119, li_121, li_122, li_140, li_193, li_200, li_240, li_255, li_289, li_290, li_300, li_302, li_314, li_326, li_860, li_880, li_900, li_999, li_1024, li_2801, li_3440, li_3441, li_3442, li_3443, li_3444, li_3447, li_3448, li_3449, li_3457, li_3465, li_3469, li_3473, li_3477, li_3501, li_3513, li_3525, li_3537, li_3633, li_3730, li_3742, li_3754, li_3766, li_4095, li_4096, li_4300, li_9011, li_9999, li_10000, li_36864, li_65536, li_1000000, ll_0, ll_1, ll_100, ll_11, ll_16, ll_20, ll_3, ll_32, ll_50, ll_8, ll_96, ll_99, ll_9999, ne_m1, e_if, e_ret, e_rz0, e_rz1, e_rzb, e_call, bCallX_eq, nI_add, nI_mul, nI_succ1, le_i, lt_i, eq_i, m1_i, m1_le, m1_lt, m1_ge, m1_eq, ite_true, ite_false, if_true, if_false, n10, e_callV hv.k, x_drinkers hv, h0, x_leastOf hd h0, r_c hv, r_yr hv, hyk, x_laStop, hcl, laK, laL, Option.map_some, oI_s]
  | succ d ih =>
    intro k n v hk hn hA hv
    obtain ⟨m, rfl⟩ : ∃ m, n = m + 1 := ⟨n - 1, by omega⟩
    have hyk : wYr (wQ W k) = wYr W + k := wQ_yr k (by omega)
    have hd := wDs_lt hv.wi
    obtain ⟨w, g1, g2, g3⟩ := x_oneYear hv (by omega)
    have g3 : RX w (wQ W (k + 1)) := by
      rw [wQ_s]
      unfold wPs
      rw [if_pos (by omega)]
      exact g3
    obtain ⟨v1, i1, i2, i3⟩ := ih (k + 1) m w (by omega) (by omega) (hA.fm g2) g3
    refine ⟨v1, i1, i2, ?_⟩
    rw [laS_s] at i3
    rw [qX9_last_40]
    unfold fX9_last_66 fX9_last_92 fX9_last_93
    by_cases h0 : wDs (wQ W k) = 0
    · rw [if_pos h0] at i3
      simp (disch := omega) only [li_0, li_1, li_2, li_3, li_4, li_5, li_6, li_7, li_8, li_9, li_10, li_11, li_12, li_13, li_14, li_15, li_16, li_17, li_20, li_24, li_25, li_29, li_31, li_32, li_33, li_37, li_40, li_41, li_48, li_49, li_50, li_56, li_57, li_59, li_60, li_61, li_62, li_63, li_70, li_73, li_85, li_97, li_98, li_99, li_100, li_101, li_102, li_103, li_104, li_105, li_107, li_108, li_109, li_110, li_111, li_112, li_114, li_115, li_116, li_117, li_118, li_119, li_121, li_122, li_140, li_193, li_200, li_240, li_255, li_289, li_290, li_300, li_302, li_314, li_326, li_860, li_880, li_900, li_999, li_1024, li_2801, li_3440, li_3441, li_3442, li_3443, li_3444, li_3447, li_3448, li_3449, li_3457, li_3465, li_3469, li_3473, li_3477, li_3501, li_3513, li_3525, li_3537, li_3633, li_3730, li_3742, li_3754, li_3766, li_4095, li_4096, li_4300, li_9011, li_9999, li_10000, li_36864, li_65536, li_1000000, ll_0, ll_1, ll_100, ll_11, ll_16, ll_20, ll_3, ll_32, ll_50, ll_8, ll_96, ll_99, ll_9999, ne_m1, e_if, e_ret, e_rz0, e_rz1, e_rzb, e_call, bCallX_eq, nI_add, nI_mul, nI_succ1, le_i, lt_i, eq_i, m1_i, m1_le, m1_lt, m1_ge, m1_eq, ite_true, ite_false, if_true, if_false, n10, e_callV hv.k, x_drinkers hv, h0, r_c hv, r_yr hv, hyk, show ¬ 100 < k + 1 by omega, show ¬ 200 ≤ wYr W + k by omega, g1]
      exact i3
    · rw [if_neg h0] at i3
      simp (disch := omega) only [li_0, li_1, li_2, li_3, li_4, li_5, li_6, li_7, li_8, li_9, li_10, li_11, li_12, li_13, li_14, li_15, li_16, li_17, li_20, li_24, li_25, li_29, li_31, li_32, li_33, li_37, li_40, li_41, li_48, li_49, li_50, li_56, li_57, li_59, li_60, li_61, li_62, li_63, li_70, li_73, li_85, li_97, li_98, li_99, li_100, li_101, li_102, li_103, li_104, li_105, li_107, li_108, li_109, li_110, li_111, li_112, li_114, li_115, li_116, li_117, li_118, li_119, li_121, li_122, li_140, li_193, li_200, li_240, li_255, li_289, li_290, li_300, li_302, li_314, li_326, li_860, li_880, li_900, li_999, li_1024, li_2801, li_3440, li_3441, li_3442, li_3443, li_3444, li_3447, li_3448, li_3449, li_3457, li_3465, li_3469, li_3473, li_3477, li_3501, li_3513, li_3525, li_3537, li_3633, li_3730, li_3742, li_3754, li_3766, li_4095, li_4096, li_4300, li_9011, li_9999, li_10000, li_36864, li_65536, li_1000000, ll_0, ll_1, ll_100, ll_11, ll_16, ll_20, ll_3, ll_32, ll_50, ll_8, ll_96, ll_99, ll_9999, ne_m1, e_if, e_ret, e_rz0, e_rz1, e_rzb, e_call, bCallX_eq, nI_add, nI_mul, nI_succ1, le_i, lt_i, eq_i, m1_i, m1_le, m1_lt, m1_ge, m1_eq, ite_true, ite_false, if_true, if_false, n10, e_callV hv.k, x_drinkers hv, h0, x_leastOf hd h0, r_c hv, r_yr hv, hyk, show ¬ 100 < k + 1 by omega, show ¬ 200 ≤ wYr W + k by omega, g1]
      exact i3
theorem s_last (x : Int32) : Sim (fX8_last 1 x) (fX9_last 113 x) := by
  refine Sim.ah fun s t D hC hR hD => ?_
  have hS := hC.1
  have h : CW s 4 (dW D) := hC.2.2.2.2.1
  have u : RX (q0 t) (dW D) := (hR.q0 hD).1
  have hT := hR.1.1
  have hah := fun (n d : Nat) (hn : n ≤ 200) (hd : d < 65536) => c_ahead hC hn hd
  have hrf := hC.rf
  have hcp := c_cp48 hC
  obtain ⟨W, hW⟩ : ∃ W, W = dW D := ⟨_, rfl⟩
  rw [← hW] at h u hah hcp
  have i8 := h.wi.2.2.2.2.2.2.2.1
  have iD := h.wi.2.2.2.2.2.2.1
  have hlaw := hC.law
  unfold fX9_last
  rw [q0_b hT]
  have hx : (∃ z, z ≤ 1 ∧ x = nI z) ∨ (x < 0 ∨ ∃ n, n < 2147483648 ∧ 1 < n ∧ x = nI n) := by
    rcases arg x with hx | ⟨n, hn, rfl⟩
    · exact Or.inr (Or.inl hx)
    · by_cases hc : n ≤ 1
      · exact Or.inl ⟨n, hc, rfl⟩
      · exact Or.inr (Or.inr ⟨n, hn, by omega, rfl⟩)
  rcases hx with ⟨z, hz, rfl⟩ | hx
  · obtain ⟨t0, e1, e2, e3⟩ := hcp
    have hS1 := e2.cs hS
    have h1 := e2.cw h hlaw
    have hb := mLf_b h.wi
    obtain ⟨s1, c1, c2⟩ := c_last (s := s) hS h.wi hz e2 e3
    obtain ⟨t1, f1, f2, f3⟩ := x_keep2 u
    obtain ⟨t2, g1, g2, g3⟩ := x_last (s := q0 t) (z := z) h.wi (mLf W) 0 fu t1 (by omega) (by unfold fu; omega) f2 f3
    obtain ⟨t3, k1, k2, k3⟩ := x_take2 g1 g2
    have hlb := laS_b h.wi (mLf W + 1)
    have hc : fX8_last 1 (nI z) s = some (oI (if z = 0 then laL (laS W (mLf W + 1)) else laK (laS W (mLf W + 1))), wI s1 1 11 (nI (stN (laS W (mLf W + 1))))) := by
      unfold fX8_last fX8_last_9
      simp (disch := omega) only [k_now hS, k_cv hS, k_tell hS, k_none hS, k_refuse hS, k_accept hS, k_tellIf0 hS, k_tellIf1 hS, n10, r_c u, r_wa u, r_bo u, r_si u, r_ra u, r_rb u, r_yr u, r_dr u, r_pe u, r_fl u, r_pa u, r_di u, r_fr u, r_to u, r_by u, e_callV u.k, q_refuse u.1, q_no u.1, n10, g_yr h, g_wa h, g_bo h, g_si h, g_ra h, g_rb h, g_dr h, g_pe h, g_fl h, g_apa h, g_adi h, g_aro h, g_afr h, g_ato h, g_aby h, g_afc h, g_pa h, g_di h, g_ro h, g_fr h, g_to h, g_by h, e_callV h.k, li_0, li_1, li_2, li_3, li_4, li_5, li_6, li_7, li_8, li_9, li_10, li_11, li_12, li_13, li_14, li_15, li_16, li_17, li_20, li_24, li_25, li_29, li_31, li_32, li_33, li_37, li_40, li_41, li_48, li_49, li_50, li_56, li_57, li_59, li_60, li_61, li_62, li_63, li_70, li_73, li_85, li_97, li_98, li_99, li_100, li_101, li_102, li_103, li_104, li_105, li_107, li_108, li_109, li_110, li_111, li_112, li_114, li_115, li_116, li_117, li_118, li_119, li_121, li_122, li_140, li_193, li_200, li_240, li_255, li_289, li_290, li_300, li_302, li_314, li_326, li_860, li_880, li_900, li_999, li_1024, li_2801, li_3440, li_3441, li_3442, li_3443, li_3444, li_3447, li_3448, li_3449, li_3457, li_3465, li_3469, li_3473, li_3477, li_3501, li_3513, li_3525, li_3537, li_3633, li_3730, li_3742, li_3754, li_3766, li_4095, li_4096, li_4300, li_9011, li_9999, li_10000, li_36864, li_65536, li_1000000, ll_0, ll_1, ll_100, ll_11, ll_16, ll_20, ll_3, ll_32, ll_50, ll_8, ll_96, ll_99, ll_9999, ne_m1, e_if, e_ret, e_rz0, e_rz1, e_rzb, e_call, bCallX_eq, nI_add, nI_mul, nI_succ1, le_i, lt_i, eq_i, m1_i, m1_le, m1_lt, m1_ge, m1_eq, ite_true, ite_false, if_true, if_false, Nat.zero_le, true_and, and_true, and_false, false_and, decide_true, decide_false, Bool.toNat_true, Bool.toNat_false, Nat.not_lt_zero, oI_g0, n10, x_in, l_i, sub_i, k_then hS, hz]
      rw [e_callV hC.h48.1]
      simp (disch := omega) only [k_now hS, k_cv hS, k_tell hS, k_none hS, k_refuse hS, k_accept hS, k_tellIf0 hS, k_tellIf1 hS, n10, r_c u, r_wa u, r_bo u, r_si u, r_ra u, r_rb u, r_yr u, r_dr u, r_pe u, r_fl u, r_pa u, r_di u, r_fr u, r_to u, r_by u, e_callV u.k, q_refuse u.1, q_no u.1, n10, g_yr h, g_wa h, g_bo h, g_si h, g_ra h, g_rb h, g_dr h, g_pe h, g_fl h, g_apa h, g_adi h, g_aro h, g_afr h, g_ato h, g_aby h, g_afc h, g_pa h, g_di h, g_ro h, g_fr h, g_to h, g_by h, e_callV h.k, li_0, li_1, li_2, li_3, li_4, li_5, li_6, li_7, li_8, li_9, li_10, li_11, li_12, li_13, li_14, li_15, li_16, li_17, li_20, li_24, li_25, li_29, li_31, li_32, li_33, li_37, li_40, li_41, li_48, li_49, li_50, li_56, li_57, li_59, li_60, li_61, li_62, li_63, li_70, li_73, li_85, li_97, li_98, li_99, li_100, li_101, li_102, li_103, li_104, li_105, li_107, li_108, li_109, li_110, li_111, li_112, li_114, li_115, li_116, li_117, li_118, li_119, li_121, li_122, li_140, li_193, li_200, li_240, li_255, li_289, li_290, li_300, li_302, li_314, li_326, li_860, li_880, li_900, li_999, li_1024, li_2801, li_3440, li_3441, li_3442, li_3443, li_3444, li_3447, li_3448, li_3449, li_3457, li_3465, li_3469, li_3473, li_3477, li_3501, li_3513, li_3525, li_3537, li_3633, li_3730, li_3742, li_3754, li_3766, li_4095, li_4096, li_4300, li_9011, li_9999, li_10000, li_36864, li_65536, li_1000000, ll_0, ll_1, ll_100, ll_11, ll_16, ll_20, ll_3, ll_32, ll_50, ll_8, ll_96, ll_99, ll_9999, ne_m1, e_if, e_ret, e_rz0, e_rz1, e_rzb, e_call, bCallX_eq, nI_add, nI_mul, nI_succ1, le_i, lt_i, eq_i, m1_i, m1_le, m1_lt, m1_ge, m1_eq, ite_true, ite_false, if_true, if_false, Nat.zero_le, true_and, and_true, and_false, false_and, decide_true, decide_false, Bool.toNat_true, Bool.toNat_false, Nat.not_lt_zero, oI_g0, n10, x_in, l_i, sub_i, e1, k_cv hS1, k_left hS1 h1]
      exact c2
    have hx9 : fX9_last_40 fu 113 (nI z) mI mI (nI 0) (nI 1) t1 = fX9_last_107 113 (nI z) (oI (laK (laS W (mLf W + 1)))) (oI (laL (laS W (mLf W + 1)))) t2 := g3
    generalize laS W (mLf W + 1) = o at hc hx9 hlb
    have e9 : (-1 : Int32) = mI := rfl
    refine ⟨oI (if z = 0 then laL o else laK o), stN o, s1, t3, ?_, c1, k2, hc, ?_⟩
    · cases o
      · show 8 < 12; decide
      · show 0 < 12; decide
    · cases o with
      | none =>
        left
        simp (disch := omega) only [k_now hS, k_cv hS, k_tell hS, k_none hS, k_refuse hS, k_accept hS, k_tellIf0 hS, k_tellIf1 hS, n10, r_c u, r_wa u, r_bo u, r_si u, r_ra u, r_rb u, r_yr u, r_dr u, r_pe u, r_fl u, r_pa u, r_di u, r_fr u, r_to u, r_by u, e_callV u.k, q_refuse u.1, q_no u.1, n10, g_yr h, g_wa h, g_bo h, g_si h, g_ra h, g_rb h, g_dr h, g_pe h, g_fl h, g_apa h, g_adi h, g_aro h, g_afr h, g_ato h, g_aby h, g_afc h, g_pa h, g_di h, g_ro h, g_fr h, g_to h, g_by h, e_callV h.k, li_0, li_1, li_2, li_3, li_4, li_5, li_6, li_7, li_8, li_9, li_10, li_11, li_12, li_13, li_14, li_15, li_16, li_17, li_20, li_24, li_25, li_29, li_31, li_32, li_33, li_37, li_40, li_41, li_48, li_49, li_50, li_56, li_57, li_59, li_60, li_61, li_62, li_63, li_70, li_73, li_85, li_97, li_98, li_99, li_100, li_101, li_102, li_103, li_104, li_105, li_107, li_108, li_109, li_110, li_111, li_112, li_114, li_115, li_116, li_117, li_118, li_119, li_121, li_122, li_140, li_193, li_200, li_240, li_255, li_289, li_290, li_300, li_302, li_314, li_326, li_860, li_880, li_900, li_999, li_1024, li_2801, li_3440, li_3441, li_3442, li_3443, li_3444, li_3447, li_3448, li_3449, li_3457, li_3465, li_3469, li_3473, li_3477, li_3501, li_3513, li_3525, li_3537, li_3633, li_3730, li_3742, li_3754, li_3766, li_4095, li_4096, li_4300, li_9011, li_9999, li_10000, li_36864, li_65536, li_1000000, ll_0, ll_1, ll_100, ll_11, ll_16, ll_20, ll_3, ll_32, ll_50, ll_8, ll_96, ll_99, ll_9999, ne_m1, e_if, e_ret, e_rz0, e_rz1, e_rzb, e_call, bCallX_eq, nI_add, nI_mul, nI_succ1, le_i, lt_i, eq_i, m1_i, m1_le, m1_lt, m1_ge, m1_eq, ite_true, ite_false, if_true, if_false, Nat.zero_le, true_and, and_true, and_false, false_and, decide_true, decide_false, Bool.toNat_true, Bool.toNat_false, Nat.not_lt_zero, oI_g0, n10, x_in, l_i, sub_i, show (0 ≤ z ∧ z ≤ 1) = True from eq_true ⟨Nat.zero_le _, hz⟩, hz, f1, bt0, Bool.true_eq_false, e9]
        rw [hx9]
        unfold fX9_last_107
        have hr : fX9_refuse 113 (nI 8) t3 = some (mI, wI t3 113 0 (nI 8)) := q_refuse (k2.rx u).1 8
        simp (disch := omega) only [e_callV g2.k, e_callV (k2.rx u).k, k1, li_0, li_1, li_2, li_3, li_4, li_5, li_6, li_7, li_8, li_9, li_10, li_11, li_12, li_13, li_14, li_15, li_16, li_17, li_20, li_24, li_25, li_29, li_31, li_32, li_33, li_37, li_40, li_41, li_48, li_49, li_50, li_56, li_57, li_59, li_60, li_61, li_62, li_63, li_70, li_73, li_85, li_97, li_98, li_99, li_100, li_101, li_102, li_103, li_104, li_105, li_107, li_108, li_109, li_110, li_111, li_112, li_114, li_115, li_116, li_117, li_118, li_119, li_121, li_122, li_140, li_193, li_200, li_240, li_255, li_289, li_290, li_300, li_302, li_314, li_326, li_860, li_880, li_900, li_999, li_1024, li_2801, li_3440, li_3441, li_3442, li_3443, li_3444, li_3447, li_3448, li_3449, li_3457, li_3465, li_3469, li_3473, li_3477, li_3501, li_3513, li_3525, li_3537, li_3633, li_3730, li_3742, li_3754, li_3766, li_4095, li_4096, li_4300, li_9011, li_9999, li_10000, li_36864, li_65536, li_1000000, ll_0, ll_1, ll_100, ll_11, ll_16, ll_20, ll_3, ll_32, ll_50, ll_8, ll_96, ll_99, ll_9999, ne_m1, e_if, e_ret, e_rz0, e_rz1, e_rzb, e_call, bCallX_eq, nI_add, nI_mul, nI_succ1, le_i, lt_i, eq_i, m1_i, m1_le, m1_lt, m1_ge, m1_eq, ite_true, ite_false, if_true, if_false, laK, laL, Option.map_none, oI_n, hr]
        first | rfl | (split <;> rfl)
      | some q =>
        obtain ⟨b1, b2, b3⟩ := hlb q rfl
        have hlo := lo_lt (m := q.2) b2 b3
        right
        refine ⟨rfl, ?_⟩
        simp (disch := omega) only [k_now hS, k_cv hS, k_tell hS, k_none hS, k_refuse hS, k_accept hS, k_tellIf0 hS, k_tellIf1 hS, n10, r_c u, r_wa u, r_bo u, r_si u, r_ra u, r_rb u, r_yr u, r_dr u, r_pe u, r_fl u, r_pa u, r_di u, r_fr u, r_to u, r_by u, e_callV u.k, q_refuse u.1, q_no u.1, n10, g_yr h, g_wa h, g_bo h, g_si h, g_ra h, g_rb h, g_dr h, g_pe h, g_fl h, g_apa h, g_adi h, g_aro h, g_afr h, g_ato h, g_aby h, g_afc h, g_pa h, g_di h, g_ro h, g_fr h, g_to h, g_by h, e_callV h.k, li_0, li_1, li_2, li_3, li_4, li_5, li_6, li_7, li_8, li_9, li_10, li_11, li_12, li_13, li_14, li_15, li_16, li_17, li_20, li_24, li_25, li_29, li_31, li_32, li_33, li_37, li_40, li_41, li_48, li_49, li_50, li_56, li_57, li_59, li_60, li_61, li_62, li_63, li_70, li_73, li_85, li_97, li_98, li_99, li_100, li_101, li_102, li_103, li_104, li_105, li_107, li_108, li_109, li_110, li_111, li_112, li_114, li_115, li_116, li_117, li_118, li_119, li_121, li_122, li_140, li_193, li_200, li_240, li_255, li_289, li_290, li_300, li_302, li_314, li_326, li_860, li_880, li_900, li_999, li_1024, li_2801, li_3440, li_3441, li_3442, li_3443, li_3444, li_3447, li_3448, li_3449, li_3457, li_3465, li_3469, li_3473, li_3477, li_3501, li_3513, li_3525, li_3537, li_3633, li_3730, li_3742, li_3754, li_3766, li_4095, li_4096, li_4300, li_9011, li_9999, li_10000, li_36864, li_65536, li_1000000, ll_0, ll_1, ll_100, ll_11, ll_16, ll_20, ll_3, ll_32, ll_50, ll_8, ll_96, ll_99, ll_9999, ne_m1, e_if, e_ret, e_rz0, e_rz1, e_rzb, e_call, bCallX_eq, nI_add, nI_mul, nI_succ1, le_i, lt_i, eq_i, m1_i, m1_le, m1_lt, m1_ge, m1_eq, ite_true, ite_false, if_true, if_false, Nat.zero_le, true_and, and_true, and_false, false_and, decide_true, decide_false, Bool.toNat_true, Bool.toNat_false, Nat.not_lt_zero, oI_g0, n10, x_in, l_i, sub_i, hz, f1, bt0, Bool.true_eq_false, e9]
        rw [hx9]
        unfold fX9_last_107
        simp (disch := omega) only [e_callV g2.k, k1, li_0, li_1, li_2, li_3, li_4, li_5, li_6, li_7, li_8, li_9, li_10, li_11, li_12, li_13, li_14, li_15, li_16, li_17, li_20, li_24, li_25, li_29, li_31, li_32, li_33, li_37, li_40, li_41, li_48, li_49, li_50, li_56, li_57, li_59, li_60, li_61, li_62, li_63, li_70, li_73, li_85, li_97, li_98, li_99, li_100, li_101, li_102, li_103, li_104, li_105, li_107, li_108, li_109, li_110, li_111, li_112, li_114, li_115, li_116, li_117, li_118, li_119, li_121, li_122, li_140, li_193, li_200, li_240, li_255, li_289, li_290, li_300, li_302, li_314, li_326, li_860, li_880, li_900, li_999, li_1024, li_2801, li_3440, li_3441, li_3442, li_3443, li_3444, li_3447, li_3448, li_3449, li_3457, li_3465, li_3469, li_3473, li_3477, li_3501, li_3513, li_3525, li_3537, li_3633, li_3730, li_3742, li_3754, li_3766, li_4095, li_4096, li_4300, li_9011, li_9999, li_10000, li_36864, li_65536, li_1000000, ll_0, ll_1, ll_100, ll_11, ll_16, ll_20, ll_3, ll_32, ll_50, ll_8, ll_96, ll_99, ll_9999, ne_m1, e_if, e_ret, e_rz0, e_rz1, e_rzb, e_call, bCallX_eq, nI_add, nI_mul, nI_succ1, le_i, lt_i, eq_i, m1_i, m1_le, m1_lt, m1_ge, m1_eq, ite_true, ite_false, if_true, if_false, laK, laL, Option.map_some, oI_s, Nat.zero_le]
        split <;> rfl
  · refine ⟨mI, 5, s, q0 t, by decide, hrf, HR.rf, ?_, Or.inl ?_⟩
    · unfold fX8_last fX8_last_9
      rcases hx with hx | ⟨n, hn, h1, rfl⟩
      · simp (disch := omega) only [k_now hS, k_cv hS, k_tell hS, k_none hS, k_refuse hS, k_accept hS, k_tellIf0 hS, k_tellIf1 hS, n10, r_c u, r_wa u, r_bo u, r_si u, r_ra u, r_rb u, r_yr u, r_dr u, r_pe u, r_fl u, r_pa u, r_di u, r_fr u, r_to u, r_by u, e_callV u.k, q_refuse u.1, q_no u.1, n10, g_yr h, g_wa h, g_bo h, g_si h, g_ra h, g_rb h, g_dr h, g_pe h, g_fl h, g_apa h, g_adi h, g_aro h, g_afr h, g_ato h, g_aby h, g_afc h, g_pa h, g_di h, g_ro h, g_fr h, g_to h, g_by h, e_callV h.k, li_0, li_1, li_2, li_3, li_4, li_5, li_6, li_7, li_8, li_9, li_10, li_11, li_12, li_13, li_14, li_15, li_16, li_17, li_20, li_24, li_25, li_29, li_31, li_32, li_33, li_37, li_40, li_41, li_48, li_49, li_50, li_56, li_57, li_59, li_60, li_61, li_62, li_63, li_70, li_73, li_85, li_97, li_98, li_99, li_100, li_101, li_102, li_103, li_104, li_105, li_107, li_108, li_109, li_110, li_111, li_112, li_114, li_115, li_116, li_117, li_118, li_119, li_121, li_122, li_140, li_193, li_200, li_240, li_255, li_289, li_290, li_300, li_302, li_314, li_326, li_860, li_880, li_900, li_999, li_1024, li_2801, li_3440, li_3441, li_3442, li_3443, li_3444, li_3447, li_3448, li_3449, li_3457, li_3465, li_3469, li_3473, li_3477, li_3501, li_3513, li_3525, li_3537, li_3633, li_3730, li_3742, li_3754, li_3766, li_4095, li_4096, li_4300, li_9011, li_9999, li_10000, li_36864, li_65536, li_1000000, ll_0, ll_1, ll_100, ll_11, ll_16, ll_20, ll_3, ll_32, ll_50, ll_8, ll_96, ll_99, ll_9999, ne_m1, e_if, e_ret, e_rz0, e_rz1, e_rzb, e_call, bCallX_eq, nI_add, nI_mul, nI_succ1, le_i, lt_i, eq_i, m1_i, m1_le, m1_lt, m1_ge, m1_eq, ite_true, ite_false, if_true, if_false, Nat.zero_le, true_and, and_true, and_false, false_and, decide_true, decide_false, Bool.toNat_true, Bool.toNat_false, Nat.not_lt_zero, oI_g0, n10, x_in, l_i, sub_i, neg_lt hx]
      · simp (disch := omega) only [k_now hS, k_cv hS, k_tell hS, k_none hS, k_refuse hS, k_accept hS, k_tellIf0 hS, k_tellIf1 hS, n10, r_c u, r_wa u, r_bo u, r_si u, r_ra u, r_rb u, r_yr u, r_dr u, r_pe u, r_fl u, r_pa u, r_di u, r_fr u, r_to u, r_by u, e_callV u.k, q_refuse u.1, q_no u.1, n10, g_yr h, g_wa h, g_bo h, g_si h, g_ra h, g_rb h, g_dr h, g_pe h, g_fl h, g_apa h, g_adi h, g_aro h, g_afr h, g_ato h, g_aby h, g_afc h, g_pa h, g_di h, g_ro h, g_fr h, g_to h, g_by h, e_callV h.k, li_0, li_1, li_2, li_3, li_4, li_5, li_6, li_7, li_8, li_9, li_10, li_11, li_12, li_13, li_14, li_15, li_16, li_17, li_20, li_24, li_25, li_29, li_31, li_32, li_33, li_37, li_40, li_41, li_48, li_49, li_50, li_56, li_57, li_59, li_60, li_61, li_62, li_63, li_70, li_73, li_85, li_97, li_98, li_99, li_100, li_101, li_102, li_103, li_104, li_105, li_107, li_108, li_109, li_110, li_111, li_112, li_114, li_115, li_116, li_117, li_118, li_119, li_121, li_122, li_140, li_193, li_200, li_240, li_255, li_289, li_290, li_300, li_302, li_314, li_326, li_860, li_880, li_900, li_999, li_1024, li_2801, li_3440, li_3441, li_3442, li_3443, li_3444, li_3447, li_3448, li_3449, li_3457, li_3465, li_3469, li_3473, li_3477, li_3501, li_3513, li_3525, li_3537, li_3633, li_3730, li_3742, li_3754, li_3766, li_4095, li_4096, li_4300, li_9011, li_9999, li_10000, li_36864, li_65536, li_1000000, ll_0, ll_1, ll_100, ll_11, ll_16, ll_20, ll_3, ll_32, ll_50, ll_8, ll_96, ll_99, ll_9999, ne_m1, e_if, e_ret, e_rz0, e_rz1, e_rzb, e_call, bCallX_eq, nI_add, nI_mul, nI_succ1, le_i, lt_i, eq_i, m1_i, m1_le, m1_lt, m1_ge, m1_eq, ite_true, ite_false, if_true, if_false, Nat.zero_le, true_and, and_true, and_false, false_and, decide_true, decide_false, Bool.toNat_true, Bool.toNat_false, Nat.not_lt_zero, oI_g0, n10, x_in, l_i, sub_i, show ¬ n ≤ 1 by omega]
    · rcases hx with hx | ⟨n, hn, h1, rfl⟩
      · simp (disch := first | assumption | omega) only [k_now hS, k_cv hS, k_tell hS, k_none hS, k_refuse hS, k_accept hS, k_tellIf0 hS, k_tellIf1 hS, n10, r_c u, r_wa u, r_bo u, r_si u, r_ra u, r_rb u, r_yr u, r_dr u, r_pe u, r_fl u, r_pa u, r_di u, r_fr u, r_to u, r_by u, e_callV u.k, q_refuse u.1, q_no u.1, n10, g_yr h, g_wa h, g_bo h, g_si h, g_ra h, g_rb h, g_dr h, g_pe h, g_fl h, g_apa h, g_adi h, g_aro h, g_afr h, g_ato h, g_aby h, g_afc h, g_pa h, g_di h, g_ro h, g_fr h, g_to h, g_by h, e_callV h.k, li_0, li_1, li_2, li_3, li_4, li_5, li_6, li_7, li_8, li_9, li_10, li_11, li_12, li_13, li_14, li_15, li_16, li_17, li_20, li_24, li_25, li_29, li_31, li_32, li_33, li_37, li_40, li_41, li_48, li_49, li_50, li_56, li_57, li_59, li_60, li_61, li_62, li_63, li_70, li_73, li_85, li_97, li_98, li_99, li_100, li_101, li_102, li_103, li_104, li_105, li_107, li_108, li_109, li_110, li_111, li_112, li_114, li_115, li_116, li_117, li_118, li_119, li_121, li_122, li_140, li_193, li_200, li_240, li_255, li_289, li_290, li_300, li_302, li_314, li_326, li_860, li_880, li_900, li_999, li_1024, li_2801, li_3440, li_3441, li_3442, li_3443, li_3444, li_3447, li_3448, li_3449, li_3457, li_3465, li_3469, li_3473, li_3477, li_3501, li_3513, li_3525, li_3537, li_3633, li_3730, li_3742, li_3754, li_3766, li_4095, li_4096, li_4300, li_9011, li_9999, li_10000, li_36864, li_65536, li_1000000, ll_0, ll_1, ll_100, ll_11, ll_16, ll_20, ll_3, ll_32, ll_50, ll_8, ll_96, ll_99, ll_9999, ne_m1, e_if, e_ret, e_rz0, e_rz1, e_rzb, e_call, bCallX_eq, nI_add, nI_mul, nI_succ1, le_i, lt_i, eq_i, m1_i, m1_le, m1_lt, m1_ge, m1_eq, ite_true, ite_false, if_true, if_false, Nat.zero_le, true_and, and_true, and_false, false_and, decide_true, decide_false, Bool.toNat_true, Bool.toNat_false, Nat.not_lt_zero, oI_g0, n10, x_in, l_i, sub_i, x_neg]
      · simp (disch := omega) only [k_now hS, k_cv hS, k_tell hS, k_none hS, k_refuse hS, k_accept hS, k_tellIf0 hS, k_tellIf1 hS, n10, r_c u, r_wa u, r_bo u, r_si u, r_ra u, r_rb u, r_yr u, r_dr u, r_pe u, r_fl u, r_pa u, r_di u, r_fr u, r_to u, r_by u, e_callV u.k, q_refuse u.1, q_no u.1, n10, g_yr h, g_wa h, g_bo h, g_si h, g_ra h, g_rb h, g_dr h, g_pe h, g_fl h, g_apa h, g_adi h, g_aro h, g_afr h, g_ato h, g_aby h, g_afc h, g_pa h, g_di h, g_ro h, g_fr h, g_to h, g_by h, e_callV h.k, li_0, li_1, li_2, li_3, li_4, li_5, li_6, li_7, li_8, li_9, li_10, li_11, li_12, li_13, li_14, li_15, li_16, li_17, li_20, li_24, li_25, li_29, li_31, li_32, li_33, li_37, li_40, li_41, li_48, li_49, li_50, li_56, li_57, li_59, li_60, li_61, li_62, li_63, li_70, li_73, li_85, li_97, li_98, li_99, li_100, li_101, li_102, li_103, li_104, li_105, li_107, li_108, li_109, li_110, li_111, li_112, li_114, li_115, li_116, li_117, li_118, li_119, li_121, li_122, li_140, li_193, li_200, li_240, li_255, li_289, li_290, li_300, li_302, li_314, li_326, li_860, li_880, li_900, li_999, li_1024, li_2801, li_3440, li_3441, li_3442, li_3443, li_3444, li_3447, li_3448, li_3449, li_3457, li_3465, li_3469, li_3473, li_3477, li_3501, li_3513, li_3525, li_3537, li_3633, li_3730, li_3742, li_3754, li_3766, li_4095, li_4096, li_4300, li_9011, li_9999, li_10000, li_36864, li_65536, li_1000000, ll_0, ll_1, ll_100, ll_11, ll_16, ll_20, ll_3, ll_32, ll_50, ll_8, ll_96, ll_99, ll_9999, ne_m1, e_if, e_ret, e_rz0, e_rz1, e_rzb, e_call, bCallX_eq, nI_add, nI_mul, nI_succ1, le_i, lt_i, eq_i, m1_i, m1_le, m1_lt, m1_ge, m1_eq, ite_true, ite_false, if_true, if_false, Nat.zero_le, true_and, and_true, and_false, false_and, decide_true, decide_false, Bool.toNat_true, Bool.toNat_false, Nat.not_lt_zero, oI_g0, n10, x_in, l_i, sub_i, show ¬ n ≤ 1 by omega, bt0]

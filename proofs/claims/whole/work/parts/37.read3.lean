section RD3
variable {s : mS} {a : Nat} {W : wW}
theorem c_yardsAged1 (h : CW s a W) {r f t n : Nat} (hr : r < 12) (hf : f < 2147483648) (ht : t < 2147483648) (r5 : Nat → Int32 → Int32 → Int32 → Int32 → mM Int32) : fX7_yardsAged_24 r5 fu a (nI f) (nI t) (nI n) (nI r) (a + 8 + 3 * r) (nI 0) s = r5 a (nI f) (nI t) (nI (wYA1 W f t r n (rN (wRo W r)))) (nI (r + 1)) s := by
  have hS := h.rs hr
  have hD := h.rd hr
  have hI := h.ri r
  have i1 := hI.1
  have iY := h.wi.1
  refine loop_n (fun m k => fX7_yardsAged_24 r5 m a (nI f) (nI t) (nI (wYA1 W f t r n k)) (nI r) (a + 8 + 3 * r) (nI k) s) _ (rN (wRo W r)) ?_ ?_ fu 0 (by omega) (by unfold fu; omega)
  · intro m k hk
    have hk' : ¬ rN (wRo W r) ≤ k := by omega
    have i2 := hI.2.1 k hk
    show fX7_yardsAged_24 r5 (m + 1) a _ _ _ _ _ _ s = _
    rw [qX7_yardsAged_24]
    simp (disch := omega) only [xGIe hS.1 hD.2.2.1, xGR hS.1 hS.2.2.1, xGR hS.1 hS.2.1, xAIe hS.2.2.2.2 (show k < 8 by omega) (by decide) (hD.2.2.2.2.2.2 k hk).2, xAIe hS.2.2.2.1 (show k < 8 by omega) (by decide) (hD.2.2.2.2.2.2 k hk).1, g_yr h, g_wa h, g_bo h, g_si h, g_ra h, g_rb h, g_dr h, g_pe h, g_fl h, g_apa h, g_adi h, g_aro h, g_afr h, g_ato h, g_aby h, g_afc h, g_pa h, g_di h, g_ro h, g_fr h, g_to h, g_by h, e_callV h.k, li_0, li_1, li_2, li_3, li_4, li_5, li_6, li_7, li_8, li_9, li_10, li_11, li_12, li_13, li_14, li_15, li_16, li_17, li_20, li_24, li_25, li_29, li_31, li_32, li_33, li_37, li_40, li_41, li_48, li_49, li_50, li_56, li_57, li_59, li_60, li_61, li_62, li_63, li_70, li_73, li_85, li_97, li_98, li_99, li_100, li_101, li_102, li_103, li_104, li_105, li_107, li_108, li_109, li_110, li_111, li_112, li_114, li_115, li_116, li_117, li_118, li_119, li_121, li_122, li_140, li_193, li_200, li_240, li_255, li_289, li_290, li_300, li_302, li_314, li_326, li_860, li_880, li_900, li_999, li_1024, li_2801, li_3440, li_3441, li_3442, li_3443, li_3444, li_3447, li_3448, li_3449, li_3457, li_3465, li_3469, li_3473, li_3477, li_3501, li_3513, li_3525, li_3537, li_3633, li_3730, li_3742, li_3754, li_3766, li_4095, li_4096, li_4300, li_9011, li_9999, li_10000, li_36864, li_65536, li_1000000, ll_0, ll_1, ll_100, ll_11, ll_16, ll_20, ll_3, ll_32, ll_50, ll_8, ll_96, ll_99, ll_9999, ne_m1, e_if, e_ret, e_rz0, e_rz1, e_rzb, e_call, bCallX_eq, nI_add, nI_mul, nI_succ1, le_i, lt_i, eq_i, m1_i, m1_le, m1_lt, m1_ge, m1_eq, ite_true, ite_false, if_true, if_false, hk']
    unfold wYA1
    rw [it_s]
    by_cases h1 : pA (rP (wRo W r)) k + wYr W < f
    · rw [if_pos h1, if_neg (by omega)]
    · rw [if_neg h1]
      by_cases h2 : t < pA (rP (wRo W r)) k + wYr W
      · rw [if_pos h2, if_neg (by omega)]
      · rw [if_neg h2, if_pos (by omega)]
  · intro m
    show fX7_yardsAged_24 r5 (m + 1) a _ _ _ _ _ _ s = _
    rw [qX7_yardsAged_24]
    unfold fX7_yardsAged_78
    simp (disch := omega) only [xGIe hS.1 hD.2.2.1, li_0, li_1, li_2, li_3, li_4, li_5, li_6, li_7, li_8, li_9, li_10, li_11, li_12, li_13, li_14, li_15, li_16, li_17, li_20, li_24, li_25, li_29, li_31, li_32, li_33, li_37, li_40, li_41, li_48, li_49, li_50, li_56, li_57, li_59, li_60, li_61, li_62, li_63, li_70, li_73, li_85, li_97, li_98, li_99, li_100, li_101, li_102, li_103, li_104, li_105, li_107, li_108, li_109, li_110, li_111, li_112, li_114, li_115, li_116, li_117, li_118, li_119, li_121, li_122, li_140, li_193, li_200, li_240, li_255, li_289, li_290, li_300, li_302, li_314, li_326, li_860, li_880, li_900, li_999, li_1024, li_2801, li_3440, li_3441, li_3442, li_3443, li_3444, li_3447, li_3448, li_3449, li_3457, li_3465, li_3469, li_3473, li_3477, li_3501, li_3513, li_3525, li_3537, li_3633, li_3730, li_3742, li_3754, li_3766, li_4095, li_4096, li_4300, li_9011, li_9999, li_10000, li_36864, li_65536, li_1000000, ll_0, ll_1, ll_100, ll_11, ll_16, ll_20, ll_3, ll_32, ll_50, ll_8, ll_96, ll_99, ll_9999, ne_m1, e_if, e_ret, e_rz0, e_rz1, e_rzb, e_call, bCallX_eq, nI_add, nI_mul, nI_succ1, le_i, lt_i, eq_i, m1_i, m1_le, m1_lt, m1_ge, m1_eq, ite_true, ite_false, if_true, if_false, Nat.le_refl]
theorem c_yardsAged (h : CW s a W) {f t : Nat} (hf : f < 2147483648) (ht : t < 2147483648) : fX7_yardsAged a (nI f) (nI t) s = some (nI (wYA W f t), s) := by
  unfold fX7_yardsAged
  refine loop_n (fun m k => fX7_yardsAged_5 m a (nI f) (nI t) (nI (it (fun r n => wYA1 W f t r n (rN (wRo W r))) 0 k)) (nI k) s) _ 12 ?_ ?_ fu 0 (by omega) (by unfold fu; omega)
  · intro m k hk
    have hk' : ¬ 12 ≤ k := by omega
    show fX7_yardsAged_5 (m + 1) a _ _ _ _ s = _
    rw [qX7_yardsAged_5]
    simp (disch := omega) only [g_aro h, g_ro h, li_0, li_1, li_2, li_3, li_4, li_5, li_6, li_7, li_8, li_9, li_10, li_11, li_12, li_13, li_14, li_15, li_16, li_17, li_20, li_24, li_25, li_29, li_31, li_32, li_33, li_37, li_40, li_41, li_48, li_49, li_50, li_56, li_57, li_59, li_60, li_61, li_62, li_63, li_70, li_73, li_85, li_97, li_98, li_99, li_100, li_101, li_102, li_103, li_104, li_105, li_107, li_108, li_109, li_110, li_111, li_112, li_114, li_115, li_116, li_117, li_118, li_119, li_121, li_122, li_140, li_193, li_200, li_240, li_255, li_289, li_290, li_300, li_302, li_314, li_326, li_860, li_880, li_900, li_999, li_1024, li_2801, li_3440, li_3441, li_3442, li_3443, li_3444, li_3447, li_3448, li_3449, li_3457, li_3465, li_3469, li_3473, li_3477, li_3501, li_3513, li_3525, li_3537, li_3633, li_3730, li_3742, li_3754, li_3766, li_4095, li_4096, li_4300, li_9011, li_9999, li_10000, li_36864, li_65536, li_1000000, ll_0, ll_1, ll_100, ll_11, ll_16, ll_20, ll_3, ll_32, ll_50, ll_8, ll_96, ll_99, ll_9999, ne_m1, e_if, e_ret, e_rz0, e_rz1, e_rzb, e_call, bCallX_eq, nI_add, nI_mul, nI_succ1, le_i, lt_i, eq_i, m1_i, m1_le, m1_lt, m1_ge, m1_eq, ite_true, ite_false, if_true, if_false, hk', it_s]
    exact c_yardsAged1 h hk hf ht _
  · intro m
    show fX7_yardsAged_5 (m + 1) a _ _ _ _ s = _
    rw [qX7_yardsAged_5]
    simp (disch := omega) only [li_0, li_1, li_2, li_3, li_4, li_5, li_6, li_7, li_8, li_9, li_10, li_11, li_12, li_13, li_14, li_15, li_16, li_17, li_20, li_24, li_25, li_29, li_31, li_32, li_33, li_37, li_40, li_41, li_48, li_49, li_50, li_56, li_57, li_59, li_60, li_61, li_62, li_63, li_70, li_73, li_85, li_97, li_98, li_99, li_100, li_101, li_102, li_103, li_104, li_105, li_107, li_108, li_109, li_110, li_111, li_112, li_114, li_115, li_116, li_117, li_118, li_119, li_121, li_122, li_140, li_193, li_200, li_240, li_255, li_289, li_290, li_300, li_302, li_314, li_326, li_860, li_880, li_900, li_999, li_1024, li_2801, li_3440, li_3441, li_3442, li_3443, li_3444, li_3447, li_3448, li_3449, li_3457, li_3465, li_3469, li_3473, li_3477, li_3501, li_3513, li_3525, li_3537, li_3633, li_3730, li_3742, li_3754, li_3766, li_4095, li_4096, li_4300, li_9011, li_9999, li_10000, li_36864, li_65536, li_1000000, ll_0, ll_1, ll_100, ll_11, ll_16, ll_20, ll_3, ll_32, ll_50, ll_8, ll_96, ll_99, ll_9999, ne_m1, e_if, e_ret, e_rz0, e_rz1, e_rzb, e_call, bCallX_eq, nI_add, nI_mul, nI_succ1, le_i, lt_i, eq_i, m1_i, m1_le, m1_lt, m1_ge, m1_eq, ite_true, ite_false, if_true, if_false, Nat.le_refl]
    rfl
theorem x_yardsOf1 (h : RX s W) {r f t n : Nat} (hr : r < 12) (hf : f < 2147483648) (ht : t < 2147483648) (r5 : Nat → Int32 → Int32 → Int32 → Int32 → mM Int32) : fX9_yardsOf_40 r5 fu 113 (nI f) (nI t) (nI n) (nI r) (nI 0) s = r5 113 (nI f) (nI t) (nI (wYA1 W f t r n (rN (wRo W r)))) (nI (r + 1)) s := by
  have hI := h.ri r
  have i1 := hI.1
  have iY := h.wi.1
  refine loop_n (fun m k => fX9_yardsOf_40 r5 m 113 (nI f) (nI t) (nI (wYA1 W f t r n k)) (nI r) (nI k) s) _ (rN (wRo W r)) ?_ ?_ fu 0 (by omega) (by unfold fu; omega)
  · intro m k hk
    have hk' : ¬ rN (wRo W r) ≤ k := by omega
    have i2 := hI.2.1 k hk
    show fX9_yardsOf_40 r5 (m + 1) 113 _ _ _ _ _ s = _
    rw [qX9_yardsOf_40]
    unfold fX9_yardsOf_95
    simp (disch := omega) only [r_c h, r_wa h, r_bo h, r_si h, r_ra h, r_rb h, r_yr h, r_dr h, r_pe h, r_fl h, r_pa h, r_di h, r_fr h, r_to h, r_by h, e_callV h.k, r_sz h hr, r_ya h hr hk, x_ageOf h hr hk, l_i, x_in, li_0, li_1, li_2, li_3, li_4, li_5, li_6, li_7, li_8, li_9, li_10, li_11, li_12, li_13, li_14, li_15, li_16, li_17, li_20, li_24, li_25, li_29, li_31, li_32, li_33, li_37, li_40, li_41, li_48, li_49, li_50, li_56, li_57, li_59, li_60, li_61, li_62, li_63, li_70, li_73, li_85, li_97, li_98, li_99, li_100, li_101, li_102, li_103, li_104, li_105, li_107, li_108, li_109, li_110, li_111, li_112, li_114, li_115, li_116, li_117, li_118, li_119, li_121, li_122, li_140, li_193, li_200, li_240, li_255, li_289, li_290, li_300, li_302, li_314, li_326, li_860, li_880, li_900, li_999, li_1024, li_2801, li_3440, li_3441, li_3442, li_3443, li_3444, li_3447, li_3448, li_3449, li_3457, li_3465, li_3469, li_3473, li_3477, li_3501, li_3513, li_3525, li_3537, li_3633, li_3730, li_3742, li_3754, li_3766, li_4095, li_4096, li_4300, li_9011, li_9999, li_10000, li_36864, li_65536, li_1000000, ll_0, ll_1, ll_100, ll_11, ll_16, ll_20, ll_3, ll_32, ll_50, ll_8, ll_96, ll_99, ll_9999, ne_m1, e_if, e_ret, e_rz0, e_rz1, e_rzb, e_call, bCallX_eq, nI_add, nI_mul, nI_succ1, le_i, lt_i, eq_i, m1_i, m1_le, m1_lt, m1_ge, m1_eq, ite_true, ite_false, if_true, if_false, bt0, hk', Nat.add_zero]
    unfold wYA1
    rw [it_s]
    by_cases h1 : f ≤ pA (rP (wRo W r)) k + wYr W ∧ pA (rP (wRo W r)) k + wYr W ≤ t
    · simp [h1]
    · simp only [h1, decide_false, if_true, if_false]
  · intro m
    show fX9_yardsOf_40 r5 (m + 1) 113 _ _ _ _ _ s = _
    rw [qX9_yardsOf_40]
    unfold fX9_yardsOf_103
    simp (disch := omega) only [r_c h, r_wa h, r_bo h, r_si h, r_ra h, r_rb h, r_yr h, r_dr h, r_pe h, r_fl h, r_pa h, r_di h, r_fr h, r_to h, r_by h, e_callV h.k, r_sz h hr, li_0, li_1, li_2, li_3, li_4, li_5, li_6, li_7, li_8, li_9, li_10, li_11, li_12, li_13, li_14, li_15, li_16, li_17, li_20, li_24, li_25, li_29, li_31, li_32, li_33, li_37, li_40, li_41, li_48, li_49, li_50, li_56, li_57, li_59, li_60, li_61, li_62, li_63, li_70, li_73, li_85, li_97, li_98, li_99, li_100, li_101, li_102, li_103, li_104, li_105, li_107, li_108, li_109, li_110, li_111, li_112, li_114, li_115, li_116, li_117, li_118, li_119, li_121, li_122, li_140, li_193, li_200, li_240, li_255, li_289, li_290, li_300, li_302, li_314, li_326, li_860, li_880, li_900, li_999, li_1024, li_2801, li_3440, li_3441, li_3442, li_3443, li_3444, li_3447, li_3448, li_3449, li_3457, li_3465, li_3469, li_3473, li_3477, li_3501, li_3513, li_3525, li_3537, li_3633, li_3730, li_3742, li_3754, li_3766, li_4095, li_4096, li_4300, li_9011, li_9999, li_10000, li_36864, li_65536, li_1000000, ll_0, ll_1, ll_100, ll_11, ll_16, ll_20, ll_3, ll_32, ll_50, ll_8, ll_96, ll_99, ll_9999, ne_m1, e_if, e_ret, e_rz0, e_rz1, e_rzb, e_call, bCallX_eq, nI_add, nI_mul, nI_succ1, le_i, lt_i, eq_i, m1_i, m1_le, m1_lt, m1_ge, m1_eq, ite_true, ite_false, if_true, if_false, Nat.le_refl]
theorem x_yardsOf (h : RX s W) {f t : Nat} (hf : f < 2147483648) (ht : t < 2147483648) : fX9_yardsOf_30 fu 113 (nI f) (nI t) (nI 0) (nI 0) s = some (nI (wYA W f t), s) := by
  refine loop_n (fun m k => fX9_yardsOf_30 m 113 (nI f) (nI t) (nI (it (fun r n => wYA1 W f t r n (rN (wRo W r))) 0 k)) (nI k) s) _ 12 ?_ ?_ fu 0 (by omega) (by unfold fu; omega)
  · intro m k hk
    have hk' : ¬ 12 ≤ k := by omega
    show fX9_yardsOf_30 (m + 1) 113 _ _ _ _ s = _
    rw [qX9_yardsOf_30]
    simp (disch := omega) only [li_0, li_1, li_2, li_3, li_4, li_5, li_6, li_7, li_8, li_9, li_10, li_11, li_12, li_13, li_14, li_15, li_16, li_17, li_20, li_24, li_25, li_29, li_31, li_32, li_33, li_37, li_40, li_41, li_48, li_49, li_50, li_56, li_57, li_59, li_60, li_61, li_62, li_63, li_70, li_73, li_85, li_97, li_98, li_99, li_100, li_101, li_102, li_103, li_104, li_105, li_107, li_108, li_109, li_110, li_111, li_112, li_114, li_115, li_116, li_117, li_118, li_119, li_121, li_122, li_140, li_193, li_200, li_240, li_255, li_289, li_290, li_300, li_302, li_314, li_326, li_860, li_880, li_900, li_999, li_1024, li_2801, li_3440, li_3441, li_3442, li_3443, li_3444, li_3447, li_3448, li_3449, li_3457, li_3465, li_3469, li_3473, li_3477, li_3501, li_3513, li_3525, li_3537, li_3633, li_3730, li_3742, li_3754, li_3766, li_4095, li_4096, li_4300, li_9011, li_9999, li_10000, li_36864, li_65536, li_1000000, ll_0, ll_1, ll_100, ll_11, ll_16, ll_20, ll_3, ll_32, ll_50, ll_8, ll_96, ll_99, ll_9999, ne_m1, e_if, e_ret, e_rz0, e_rz1, e_rzb, e_call, bCallX_eq, nI_add, nI_mul, nI_succ1, le_i, lt_i, eq_i, m1_i, m1_le, m1_lt, m1_ge, m1_eq, ite_true, ite_false, if_true, if_false, hk', it_s]
    exact x_yardsOf1 h hk hf ht _
  · intro m
    show fX9_yardsOf_30 (m + 1) 113 _ _ _ _ s = _
    rw [qX9_yardsOf_30]
    simp (disch := omega) only [li_0, li_1, li_2, li_3, li_4, li_5, li_6, li_7, li_8, li_9, li_10, li_11, li_12, li_13, li_14, li_15, li_16, li_17, li_20, li_24, li_25, li_29, li_31, li_32, li_33, li_37, li_40, li_41, li_48, li_49, li_50, li_56, li_57, li_59, li_60, li_61, li_62, li_63, li_70, li_73, li_85, li_97, li_98, li_99, li_100, li_101, li_102, li_103, li_104, li_105, li_107, li_108, li_109, li_110, li_111, li_112, li_114, li_115, li_116, li_117, li_118, li_119, li_121, li_122, li_140, li_193, li_200, li_240, li_255, li_289, li_290, li_300, li_302, li_314, li_326, li_860, li_880, li_900, li_999, li_1024, li_2801, li_3440, li_3441, li_3442, li_3443, li_3444, li_3447, li_3448, li_3449, li_3457, li_3465, li_3469, li_3473, li_3477, li_3501, li_3513, li_3525, li_3537, li_3633, li_3730, li_3742, li_3754, li_3766, li_4095, li_4096, li_4300, li_9011, li_9999, li_10000, li_36864, li_65536, li_1000000, ll_0, ll_1, ll_100, ll_11, ll_16, ll_20, ll_3, ll_32, ll_50, ll_8, ll_96, ll_99, ll_9999, ne_m1, e_if, e_ret, e_rz0, e_rz1, e_rzb, e_call, bCallX_eq, nI_add, nI_mul, nI_succ1, le_i, lt_i, eq_i, m1_i, m1_le, m1_lt, m1_ge, m1_eq, ite_true, ite_false, if_true, if_false, Nat.le_refl]
    rfl
theorem c_needed1 (h : CW s a W) {p m0 D : Nat} (hp : p < wPe W) (hD : D = wDs W) (hm : m0 < 4096) (r15 : Nat → Int32 → Int32 → Int32 → Int32 → mM Int32) : fX7_neededRopes_30 r15 fu a (nI D) (nI (wDe W)) (nI m0) (nI p) (nI 0) (nI 0) s = r15 a (nI D) (nI (wDe W)) (nI (if wDk W p && decide (pc (wSs W p) = 1) then m0 ||| wSs W p else m0)) (nI (p + 1)) s := by
  subst hD
  have i8 := h.wi.2.2.2.2.2.2.2.1
  have hde := wDe_le h.wi
  refine loop_n (fun m k => fX7_neededRopes_30 r15 m a (nI (wDs W)) (nI (wDe W)) (nI m0) (nI p) (nI (mk (fun r => wSv W r p (wDe W)) k)) (nI k) s) _ 12 ?_ ?_ fu 0 (by omega) (by unfold fu; omega)
  · intro m k hk
    have hk' : ¬ 12 ≤ k := by omega
    have hm := mk_lt (fun r => wSv W r p (wDe W)) k
    have h8 : (2 : Nat) ^ k ≤ 2 ^ 12 := Nat.pow_le_pow_right (by decide) (by omega)
    show fX7_neededRopes_30 r15 (m + 1) a _ _ _ _ _ _ s = _
    rw [qX7_neededRopes_30]
    simp (disch := omega) only [g_yr h, g_wa h, g_bo h, g_si h, g_ra h, g_rb h, g_dr h, g_pe h, g_fl h, g_apa h, g_adi h, g_aro h, g_afr h, g_ato h, g_aby h, g_afc h, g_pa h, g_di h, g_ro h, g_fr h, g_to h, g_by h, e_callV h.k, c_servesFrom h hk (show p < 8 by omega) (show wDe W < 2147483648 by omega), li_0, li_1, li_2, li_3, li_4, li_5, li_6, li_7, li_8, li_9, li_10, li_11, li_12, li_13, li_14, li_15, li_16, li_17, li_20, li_24, li_25, li_29, li_31, li_32, li_33, li_37, li_40, li_41, li_48, li_49, li_50, li_56, li_57, li_59, li_60, li_61, li_62, li_63, li_70, li_73, li_85, li_97, li_98, li_99, li_100, li_101, li_102, li_103, li_104, li_105, li_107, li_108, li_109, li_110, li_111, li_112, li_114, li_115, li_116, li_117, li_118, li_119, li_121, li_122, li_140, li_193, li_200, li_240, li_255, li_289, li_290, li_300, li_302, li_314, li_326, li_860, li_880, li_900, li_999, li_1024, li_2801, li_3440, li_3441, li_3442, li_3443, li_3444, li_3447, li_3448, li_3449, li_3457, li_3465, li_3469, li_3473, li_3477, li_3501, li_3513, li_3525, li_3537, li_3633, li_3730, li_3742, li_3754, li_3766, li_4095, li_4096, li_4300, li_9011, li_9999, li_10000, li_36864, li_65536, li_1000000, ll_0, ll_1, ll_100, ll_11, ll_16, ll_20, ll_3, ll_32, ll_50, ll_8, ll_96, ll_99, ll_9999, ne_m1, e_if, e_ret, e_rz0, e_rz1, e_rzb, e_call, bCallX_eq, nI_add, nI_mul, nI_succ1, le_i, lt_i, eq_i, m1_i, m1_le, m1_lt, m1_ge, m1_eq, ite_true, ite_false, if_true, if_false, bt0, hk', one_shl, or_i]
    unfold mk
    rw [it_s]
    by_cases h1 : wSv W k p (wDe W) = true <;> simp [h1]
  · intro m
    show fX7_neededRopes_30 r15 (m + 1) a _ _ _ _ _ _ s = _
    rw [qX7_neededRopes_30]
    unfold fX7_neededRopes_64
    have h1 := wDs_lt h.wi
    have h2 : mk (fun r => wSv W r p (wDe W)) 12 < 4096 := wSs_lt W p
    have h3 := pc_le (mk (fun r => wSv W r p (wDe W)) 12)
    simp (disch := omega) only [li_0, li_1, li_2, li_3, li_4, li_5, li_6, li_7, li_8, li_9, li_10, li_11, li_12, li_13, li_14, li_15, li_16, li_17, li_20, li_24, li_25, li_29, li_31, li_32, li_33, li_37, li_40, li_41, li_48, li_49, li_50, li_56, li_57, li_59, li_60, li_61, li_62, li_63, li_70, li_73, li_85, li_97, li_98, li_99, li_100, li_101, li_102, li_103, li_104, li_105, li_107, li_108, li_109, li_110, li_111, li_112, li_114, li_115, li_116, li_117, li_118, li_119, li_121, li_122, li_140, li_193, li_200, li_240, li_255, li_289, li_290, li_300, li_302, li_314, li_326, li_860, li_880, li_900, li_999, li_1024, li_2801, li_3440, li_3441, li_3442, li_3443, li_3444, li_3447, li_3448, li_3449, li_3457, li_3465, li_3469, li_3473, li_3477, li_3501, li_3513, li_3525, li_3537, li_3633, li_3730, li_3742, li_3754, li_3766, li_4095, li_4096, li_4300, li_9011, li_9999, li_10000, li_36864, li_65536, li_1000000, ll_0, ll_1, ll_100, ll_11, ll_16, ll_20, ll_3, ll_32, ll_50, ll_8, ll_96, ll_99, ll_9999, ne_m1, e_if, e_ret, e_rz0, e_rz1, e_rzb, e_call, bCallX_eq, nI_add, nI_mul, nI_succ1, le_i, lt_i, eq_i, m1_i, m1_le, m1_lt, m1_ge, m1_eq, ite_true, ite_false, if_true, if_false, Nat.le_refl, bit_i, bt1, j_bitCount, or_i, wDs_bit hp]
    unfold wSs
    by_cases h4 : wDk W p = true
    · by_cases h5 : pc (mk (fun r => wSv W r p (wDe W)) 12) = 1 <;> simp [h4, h5]
    · simp [h4]
theorem c_neededRopes (h : CW s a W) : fX7_neededRopes a s = some (nI (wNd W), s) := by
  unfold fX7_neededRopes
  have i8 := h.wi.2.2.2.2.2.2.2.1
  simp (disch := omega) only [g_yr h, g_wa h, g_bo h, g_si h, g_ra h, g_rb h, g_dr h, g_pe h, g_fl h, g_apa h, g_adi h, g_aro h, g_afr h, g_ato h, g_aby h, g_afc h, g_pa h, g_di h, g_ro h, g_fr h, g_to h, g_by h, e_callV h.k, c_drinkers h, c_depthNow h, li_0, li_1, li_2, li_3, li_4, li_5, li_6, li_7, li_8, li_9, li_10, li_11, li_12, li_13, li_14, li_15, li_16, li_17, li_20, li_24, li_25, li_29, li_31, li_32, li_33, li_37, li_40, li_41, li_48, li_49, li_50, li_56, li_57, li_59, li_60, li_61, li_62, li_63, li_70, li_73, li_85, li_97, li_98, li_99, li_100, li_101, li_102, li_103, li_104, li_105, li_107, li_108, li_109, li_110, li_111, li_112, li_114, li_115, li_116, li_117, li_118, li_119, li_121, li_122, li_140, li_193, li_200, li_240, li_255, li_289, li_290, li_300, li_302, li_314, li_326, li_860, li_880, li_900, li_999, li_1024, li_2801, li_3440, li_3441, li_3442, li_3443, li_3444, li_3447, li_3448, li_3449, li_3457, li_3465, li_3469, li_3473, li_3477, li_3501, li_3513, li_3525, li_3537, li_3633, li_3730, li_3742, li_3754, li_3766, li_4095, li_4096, li_4300, li_9011, li_9999, li_10000, li_36864, li_65536, li_1000000, ll_0, ll_1, ll_100, ll_11, ll_16, ll_20, ll_3, ll_32, ll_50, ll_8, ll_96, ll_99, ll_9999, ne_m1, e_if, e_ret, e_rz0, e_rz1, e_rzb, e_call, bCallX_eq, nI_add, nI_mul, nI_succ1, le_i, lt_i, eq_i, m1_i, m1_le, m1_lt, m1_ge, m1_eq, ite_true, ite_false, if_true, if_false]
  refine loop_n (fun m k => fX7_neededRopes_15 m a (nI (wDs W)) (nI (wDe W)) (nI (it (fun p m => if wDk W p && decide (pc (wSs W p) = 1) then m ||| wSs W p else m) 0 k)) (nI k) s) _ (wPe W) ?_ ?_ fu 0 (by omega) (by unfold fu; omega)
  · intro m k hk
    have hk' : ¬ wPe W ≤ k := by omega
    show fX7_neededRopes_15 (m + 1) a _ _ _ _ s = _
    rw [qX7_neededRopes_15]
    simp (disch := omega) only [g_yr h, g_wa h, g_bo h, g_si h, g_ra h, g_rb h, g_dr h, g_pe h, g_fl h, g_apa h, g_adi h, g_aro h, g_afr h, g_ato h, g_aby h, g_afc h, g_pa h, g_di h, g_ro h, g_fr h, g_to h, g_by h, e_callV h.k, li_0, li_1, li_2, li_3, li_4, li_5, li_6, li_7, li_8, li_9, li_10, li_11, li_12, li_13, li_14, li_15, li_16, li_17, li_20, li_24, li_25, li_29, li_31, li_32, li_33, li_37, li_40, li_41, li_48, li_49, li_50, li_56, li_57, li_59, li_60, li_61, li_62, li_63, li_70, li_73, li_85, li_97, li_98, li_99, li_100, li_101, li_102, li_103, li_104, li_105, li_107, li_108, li_109, li_110, li_111, li_112, li_114, li_115, li_116, li_117, li_118, li_119, li_121, li_122, li_140, li_193, li_200, li_240, li_255, li_289, li_290, li_300, li_302, li_314, li_326, li_860, li_880, li_900, li_999, li_1024, li_2801, li_3440, li_3441, li_3442, li_3443, li_3444, li_3447, li_3448, li_3449, li_3457, li_3465, li_3469, li_3473, li_3477, li_3501, li_3513, li_3525, li_3537, li_3633, li_3730, li_3742, li_3754, li_3766, li_4095, li_4096, li_4300, li_9011, li_9999, li_10000, li_36864, li_65536, li_1000000, ll_0, ll_1, ll_100, ll_11, ll_16, ll_20, ll_3, ll_32, ll_50, ll_8, ll_96, ll_99, ll_9999, ne_m1, e_if, e_ret, e_rz0, e_rz1, e_rzb, e_call, bCallX_eq, nI_add, nI_mul, nI_succ1, le_i, lt_i, eq_i, m1_i, m1_le, m1_lt, m1_ge, m1_eq, ite_true, ite_false, if_true, if_false, hk', it_s]
    exact c_needed1 h hk rfl (wNd_lt' W k) _
  · intro m
    show fX7_neededRopes_15 (m + 1) a _ _ _ _ s = _
    rw [qX7_neededRopes_15]
    simp (disch := omega) only [g_yr h, g_wa h, g_bo h, g_si h, g_ra h, g_rb h, g_dr h, g_pe h, g_fl h, g_apa h, g_adi h, g_aro h, g_afr h, g_ato h, g_aby h, g_afc h, g_pa h, g_di h, g_ro h, g_fr h, g_to h, g_by h, e_callV h.k, li_0, li_1, li_2, li_3, li_4, li_5, li_6, li_7, li_8, li_9, li_10, li_11, li_12, li_13, li_14, li_15, li_16, li_17, li_20, li_24, li_25, li_29, li_31, li_32, li_33, li_37, li_40, li_41, li_48, li_49, li_50, li_56, li_57, li_59, li_60, li_61, li_62, li_63, li_70, li_73, li_85, li_97, li_98, li_99, li_100, li_101, li_102, li_103, li_104, li_105, li_107, li_108, li_109, li_110, li_111, li_112, li_114, li_115, li_116, li_117, li_118, li_119, li_121, li_122, li_140, li_193, li_200, li_240, li_255, li_289, li_290, li_300, li_302, li_314, li_326, li_860, li_880, li_900, li_999, li_1024, li_2801, li_3440, li_3441, li_3442, li_3443, li_3444, li_3447, li_3448, li_3449, li_3457, li_3465, li_3469, li_3473, li_3477, li_3501, li_3513, li_3525, li_3537, li_3633, li_3730, li_3742, li_3754, li_3766, li_4095, li_4096, li_4300, li_9011, li_9999, li_10000, li_36864, li_65536, li_1000000, ll_0, ll_1, ll_100, ll_11, ll_16, ll_20, ll_3, ll_32, ll_50, ll_8, ll_96, ll_99, ll_9999, ne_m1, e_if, e_ret, e_rz0, e_rz1, e_rzb, e_call, bCallX_eq, nI_add, nI_mul, nI_succ1, le_i, lt_i, eq_i, m1_i, m1_le, m1_lt, m1_ge, m1_eq, ite_true, ite_false, if_true, if_false, Nat.le_refl]
    rfl
theorem wI_back (s : mS) (a j : Nat) (x y : Int32) (hy : sI s a j = y) : wI (wI s a j x) a j y = s := by
  subst hy
  refine Prod.ext ?_ rfl
  funext b i
  show (if b = a ∧ i = j then sI s a j else if b = a ∧ i = j then x else sI s b i) = sI s b i
  split
  · rename_i h; rw [h.1, h.2]
  · rfl
theorem RX.go (h : RX s W) {r : Nat} (hr : r < 12) : RX (wI s 118 (85 + r) (nI 0)) (wGo W r) := by
  obtain ⟨hT, e0, e1, e2, e3, e4, e5, e6, e7, e8, ep, ef, er, ew, el⟩ := h
  have hc : ∀ i, i ≠ 85 + r → sI (wI s 118 (85 + r) (nI 0)) 118 i = sI s 118 i := fun i hi => by
    rw [sI_wI, if_neg (by omega)]
  refine ⟨hT, ?_, ?_, ?_, ?_, ?_, ?_, ?_, ?_, ?_, fun p hp => ?_, fun f hf => ?_, fun q hq => ?_, wGo_ok ew r, ?_⟩
  · rw [hc _ (by omega)]; exact e0
  · rw [hc _ (by omega)]; exact e1
  · rw [hc _ (by omega)]; exact e2
  · rw [hc _ (by omega)]; exact e3
  · rw [hc _ (by omega)]; exact e4
  · rw [hc _ (by omega)]; exact e5
  · rw [hc _ (by omega)]; exact e6
  · rw [hc _ (by omega)]; exact e7
  · rw [hc _ (by omega)]; exact e8
  · have := ew.2.2.2.2.2.2.2.1
    have hp : p < wPe W := hp
    rw [hc _ (by omega), hc _ (by omega)]; exact ep p hp
  · have := ew.2.2.2.2.2.2.2.2.2.2.1
    have hf : f < wFl W := hf
    rw [hc _ (by omega), hc _ (by omega), hc _ (by omega)]; exact ef f hf
  · show RoR _ q (up (wRo W) r r0 q)
    by_cases h1 : q = r
    · subst h1
      rw [up_s]
      refine ⟨?_, fun h => absurd h (by show ¬ 0 < 0; omega)⟩
      rw [sI_wI, if_pos ⟨rfl, rfl⟩]
      rfl
    · rw [up_n _ _ h1]
      obtain ⟨a1, a2⟩ := er q hq
      refine ⟨by rw [hc _ (by omega)]; exact a1, fun h0 => ?_⟩
      obtain ⟨b1, b2, b3, b4, b5⟩ := a2 h0
      have i1 := (ew.2.2.2.2.2.2.2.2.2.2.2.2.1 q).1
      refine ⟨by rw [hc _ (by omega)]; exact b1, by rw [hc _ (by omega)]; exact b2, by rw [hc _ (by omega)]; exact b3, by rw [hc _ (by omega)]; exact b4, fun k hk => ?_⟩
      rw [hc _ (by omega), hc _ (by omega)]
      exact b5 k hk
  · obtain ⟨l1, l2, l3⟩ := el
    refine ⟨by rw [hc _ (by omega)]; exact l1, fun k hk => ?_, fun j hj => ?_⟩
    · rw [hc _ (by omega), hc _ (by omega), hc _ (by omega)]; exact l2 k hk
    · rw [hc _ (by omega), hc _ (by omega), hc _ (by omega)]; exact l3 j hj
theorem x_needed1 (h : RX s W) {b : Nat} (hb : b = pc (wDs W)) : fX9_needed_22 fu 113 (nI b) (nI 0) (nI 0) s = some (nI (wNd W), s) := by
  subst hb
  rw [wNd_eq h.wi]
  refine loop_n (fun m k => fX9_needed_22 m 113 (nI (pc (wDs W))) (nI (mk (fun r => rT (wRo W r) && decide (pc (wDs (wGo W r)) < pc (wDs W))) k)) (nI k) s) _ 12 ?_ ?_ fu 0 (by omega) (by unfold fu; omega)
  · intro m k hk
    have hk' : ¬ 12 ≤ k := by omega
    have hm := mk_lt (fun r => rT (wRo W r) && decide (pc (wDs (wGo W r)) < pc (wDs W))) k
    have h8 : (2 : Nat) ^ k ≤ 2 ^ 12 := Nat.pow_le_pow_right (by decide) (by omega)
    have hg := h.go hk
    have h9 := wDs_lt hg.wi
    have h10 := pc_le (wDs (wGo W k))
    have h11 := pc_le (wDs W)
    show fX9_needed_22 (m + 1) 113 _ _ _ s = _
    rw [qX9_needed_22]
    unfold fX9_needed_79
    simp (disch := omega) only [r_c h, r_wa h, r_bo h, r_si h, r_ra h, r_rb h, r_yr h, r_dr h, r_pe h, r_fl h, r_pa h, r_di h, r_fr h, r_to h, r_by h, e_callV h.k, x_isRope h hk, r_sz h hk, li_0, li_1, li_2, li_3, li_4, li_5, li_6, li_7, li_8, li_9, li_10, li_11, li_12, li_13, li_14, li_15, li_16, li_17, li_20, li_24, li_25, li_29, li_31, li_32, li_33, li_37, li_40, li_41, li_48, li_49, li_50, li_56, li_57, li_59, li_60, li_61, li_62, li_63, li_70, li_73, li_85, li_97, li_98, li_99, li_100, li_101, li_102, li_103, li_104, li_105, li_107, li_108, li_109, li_110, li_111, li_112, li_114, li_115, li_116, li_117, li_118, li_119, li_121, li_122, li_140, li_193, li_200, li_240, li_255, li_289, li_290, li_300, li_302, li_314, li_326, li_860, li_880, li_900, li_999, li_1024, li_2801, li_3440, li_3441, li_3442, li_3443, li_3444, li_3447, li_3448, li_3449, li_3457, li_3465, li_3469, li_3473, li_3477, li_3501, li_3513, li_3525, li_3537, li_3633, li_3730, li_3742, li_3754, li_3766, li_4095, li_4096, li_4300, li_9011, li_9999, li_10000, li_36864, li_65536, li_1000000, ll_0, ll_1, ll_100, ll_11, ll_16, ll_20, ll_3, ll_32, ll_50, ll_8, ll_96, ll_99, ll_9999, ne_m1, e_if, e_ret, e_rz0, e_rz1, e_rzb, e_call, bCallX_eq, nI_add, nI_mul, nI_succ1, le_i, lt_i, eq_i, m1_i, m1_le, m1_lt, m1_ge, m1_eq, ite_true, ite_false, if_true, if_false, bt0, hk', xSI h.1.2.2.2.2.2.2.2.2.2.2.2.2.2.2.2.2.1 (show 85 + k < 4300 by omega) (by decide)]
    simp (disch := omega) only [e_callV hg.k, x_drinkers hg, x_bits, r_c hg, li_0, li_1, li_2, li_3, li_4, li_5, li_6, li_7, li_8, li_9, li_10, li_11, li_12, li_13, li_14, li_15, li_16, li_17, li_20, li_24, li_25, li_29, li_31, li_32, li_33, li_37, li_40, li_41, li_48, li_49, li_50, li_56, li_57, li_59, li_60, li_61, li_62, li_63, li_70, li_73, li_85, li_97, li_98, li_99, li_100, li_101, li_102, li_103, li_104, li_105, li_107, li_108, li_109, li_110, li_111, li_112, li_114, li_115, li_116, li_117, li_118, li_119, li_121, li_122, li_140, li_193, li_200, li_240, li_255, li_289, li_290, li_300, li_302, li_314, li_326, li_860, li_880, li_900, li_999, li_1024, li_2801, li_3440, li_3441, li_3442, li_3443, li_3444, li_3447, li_3448, li_3449, li_3457, li_3465, li_3469, li_3473, li_3477, li_3501, li_3513, li_3525, li_3537, li_3633, li_3730, li_3742, li_3754, li_3766, li_4095, li_4096, li_4300, li_9011, li_9999, li_10000, li_36864, li_65536, li_1000000, ll_0, ll_1, ll_100, ll_11, ll_16, ll_20, ll_3, ll_32, ll_50, ll_8, ll_96, ll_99, ll_9999, ne_m1, e_if, e_ret, e_rz0, e_rz1, e_rzb, e_call, bCallX_eq, nI_add, nI_mul, nI_succ1, le_i, lt_i, eq_i, m1_i, m1_le, m1_lt, m1_ge, m1_eq, ite_true, ite_false, if_true, if_false, xSI hg.1.2.2.2.2.2.2.2.2.2.2.2.2.2.2.2.2.1 (show 85 + k < 4300 by omega) (by decide), wI_back s 118 (85 + k) (nI 0) (nI (rN (wRo W k))) (h.ro hk).1, one_shl, or_i, Nat.or_zero]
    unfold mk
    rw [it_s]
    by_cases h1 : rT (wRo W k) = true
    · by_cases h2 : pc (wDs (wGo W k)) < pc (wDs W)
      · have h3 : ¬ pc (wDs W) ≤ pc (wDs (wGo W k)) := by omega
        simp [h1, h2, h3]
      · have h3 : pc (wDs W) ≤ pc (wDs (wGo W k)) := by omega
        simp [h1, h2, h3]
    · simp [h1]
  · intro m
    show fX9_needed_22 (m + 1) 113 _ _ _ s = _
    rw [qX9_needed_22]
    simp (disch := omega) only [li_0, li_1, li_2, li_3, li_4, li_5, li_6, li_7, li_8, li_9, li_10, li_11, li_12, li_13, li_14, li_15, li_16, li_17, li_20, li_24, li_25, li_29, li_31, li_32, li_33, li_37, li_40, li_41, li_48, li_49, li_50, li_56, li_57, li_59, li_60, li_61, li_62, li_63, li_70, li_73, li_85, li_97, li_98, li_99, li_100, li_101, li_102, li_103, li_104, li_105, li_107, li_108, li_109, li_110, li_111, li_112, li_114, li_115, li_116, li_117, li_118, li_119, li_121, li_122, li_140, li_193, li_200, li_240, li_255, li_289, li_290, li_300, li_302, li_314, li_326, li_860, li_880, li_900, li_999, li_1024, li_2801, li_3440, li_3441, li_3442, li_3443, li_3444, li_3447, li_3448, li_3449, li_3457, li_3465, li_3469, li_3473, li_3477, li_3501, li_3513, li_3525, li_3537, li_3633, li_3730, li_3742, li_3754, li_3766, li_4095, li_4096, li_4300, li_9011, li_9999, li_10000, li_36864, li_65536, li_1000000, ll_0, ll_1, ll_100, ll_11, ll_16, ll_20, ll_3, ll_32, ll_50, ll_8, ll_96, ll_99, ll_9999, ne_m1, e_if, e_ret, e_rz0, e_rz1, e_rzb, e_call, bCallX_eq, nI_add, nI_mul, nI_succ1, le_i, lt_i, eq_i, m1_i, m1_le, m1_lt, m1_ge, m1_eq, ite_true, ite_false, if_true, if_false, Nat.le_refl]
end RD3

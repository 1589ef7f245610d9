/-! WHO DRINKS, BY THE REFERENCE -/
section RDR
variable {s : mS} {W : wW}
theorem x_childrenOf (h : RX s W) {p : Nat} (hp : p < 8) : fX9_childrenOf 113 (nI p) s = some (nI (wHe W p), s) := by
  unfold fX9_childrenOf
  obtain ⟨iY, iW, iB, iS, iR, iRb, iD, iP, iPa, iDi, iF, iFd, iRo, iOw, iBo, iLa⟩ := h.wi
  refine loop_n (fun m k => fX9_childrenOf_4 m 113 (nI p) (nI (mk (fun k => decide (wPa W k = some p) && wAl W k) k)) (nI k) s) _ (wPe W) ?_ ?_ fu 0 (by omega) (by unfold fu; omega)
  · intro m k hk
    have hk' : ¬ wPe W ≤ k := by omega
    have hm := mk_lt (fun k => decide (wPa W k = some p) && wAl W k) k
    have h8 : (2 : Nat) ^ k ≤ 2 ^ 8 := Nat.pow_le_pow_right (by decide) (by omega)
    show fX9_childrenOf_4 (m + 1) 113 _ _ _ s = _
    rw [qX9_childrenOf_4]
    unfold fX9_childrenOf_43 fX9_childrenOf_44
    simp (disch := omega) only [r_c h, r_wa h, r_bo h, r_si h, r_ra h, r_rb h, r_yr h, r_dr h, r_pe h, r_fl h, r_pa h, r_di h, r_fr h, r_to h, r_by h, e_callV h.k, x_isAlive h hk, li_0, li_1, li_2, li_3, li_4, li_5, li_6, li_7, li_8, li_9, li_10, li_11, li_12, li_13, li_14, li_15, li_16, li_17, li_20, li_24, li_25, li_29, li_31, li_32, li_33, li_37, li_40, li_41, li_48, li_49, li_50, li_56, li_57, li_59, li_60, li_61, li_62, li_63, li_70, li_73, li_85, li_97, li_98, li_99, li_100, li_101, li_102, li_103, li_104, li_105, li_107, li_108, li_109, li_110, li_111, li_112, li_114, li_115, li_116, li_117, li_118, li_119, li_121, li_122, li_140, li_193, li_200, li_240, li_255, li_289, li_290, li_300, li_302, li_314, li_326, li_860, li_880, li_900, li_999, li_1024, li_2801, li_3440, li_3441, li_3442, li_3443, li_3444, li_3447, li_3448, li_3449, li_3457, li_3465, li_3469, li_3473, li_3477, li_3501, li_3513, li_3525, li_3537, li_3633, li_3730, li_3742, li_3754, li_3766, li_4095, li_4096, li_4300, li_9011, li_9999, li_10000, li_36864, li_65536, li_1000000, ll_0, ll_1, ll_100, ll_11, ll_16, ll_20, ll_3, ll_32, ll_50, ll_8, ll_96, ll_99, ll_9999, ne_m1, e_if, e_ret, e_rz0, e_rz1, e_rzb, e_call, bCallX_eq, nI_add, nI_mul, nI_succ1, le_i, lt_i, eq_i, m1_i, m1_le, m1_lt, m1_ge, m1_eq, ite_true, ite_false, if_true, if_false, bt0, hk', oI_e (ob (iPa k)), one_shl, or_i]
    unfold mk
    rw [it_s]
    by_cases h1 : wPa W k = some p
    · cases h2 : wAl W k <;> simp [h1, h2]
    · simp [h1]
  · intro m
    show fX9_childrenOf_4 (m + 1) 113 _ _ _ s = _
    rw [qX9_childrenOf_4]
    simp (disch := omega) only [r_c h, r_wa h, r_bo h, r_si h, r_ra h, r_rb h, r_yr h, r_dr h, r_pe h, r_fl h, r_pa h, r_di h, r_fr h, r_to h, r_by h, e_callV h.k, li_0, li_1, li_2, li_3, li_4, li_5, li_6, li_7, li_8, li_9, li_10, li_11, li_12, li_13, li_14, li_15, li_16, li_17, li_20, li_24, li_25, li_29, li_31, li_32, li_33, li_37, li_40, li_41, li_48, li_49, li_50, li_56, li_57, li_59, li_60, li_61, li_62, li_63, li_70, li_73, li_85, li_97, li_98, li_99, li_100, li_101, li_102, li_103, li_104, li_105, li_107, li_108, li_109, li_110, li_111, li_112, li_114, li_115, li_116, li_117, li_118, li_119, li_121, li_122, li_140, li_193, li_200, li_240, li_255, li_289, li_290, li_300, li_302, li_314, li_326, li_860, li_880, li_900, li_999, li_1024, li_2801, li_3440, li_3441, li_3442, li_3443, li_3444, li_3447, li_3448, li_3449, li_3457, li_3465, li_3469, li_3473, li_3477, li_3501, li_3513, li_3525, li_3537, li_3633, li_3730, li_3742, li_3754, li_3766, li_4095, li_4096, li_4300, li_9011, li_9999, li_10000, li_36864, li_65536, li_1000000, ll_0, ll_1, ll_100, ll_11, ll_16, ll_20, ll_3, ll_32, ll_50, ll_8, ll_96, ll_99, ll_9999, ne_m1, e_if, e_ret, e_rz0, e_rz1, e_rzb, e_call, bCallX_eq, nI_add, nI_mul, nI_succ1, le_i, lt_i, eq_i, m1_i, m1_le, m1_lt, m1_ge, m1_eq, ite_true, ite_false, if_true, if_false, Nat.le_refl]
    rfl
theorem rT_p {ρ : rR} (h : rT ρ = true) : 0 < rN ρ := by simpa [rT] using h
theorem x_isDrinking (h : RX s W) {p : Nat} (hp : p < wPe W) : fX9_isDrinking 113 (nI p) s = some (nI (wDk W p).toNat, s) := by
  unfold fX9_isDrinking wDk
  obtain ⟨iY, iW, iB, iS, iR, iRb, iD, iP, iPa, iDi, iF, iFd, iRo, iOw, iBo, iLa⟩ := h.wi
  simp (disch := omega) only [r_c h, r_wa h, r_bo h, r_si h, r_ra h, r_rb h, r_yr h, r_dr h, r_pe h, r_fl h, r_pa h, r_di h, r_fr h, r_to h, r_by h, e_callV h.k, x_isAlive h hp, x_isDry h, li_0, li_1, li_2, li_3, li_4, li_5, li_6, li_7, li_8, li_9, li_10, li_11, li_12, li_13, li_14, li_15, li_16, li_17, li_20, li_24, li_25, li_29, li_31, li_32, li_33, li_37, li_40, li_41, li_48, li_49, li_50, li_56, li_57, li_59, li_60, li_61, li_62, li_63, li_70, li_73, li_85, li_97, li_98, li_99, li_100, li_101, li_102, li_103, li_104, li_105, li_107, li_108, li_109, li_110, li_111, li_112, li_114, li_115, li_116, li_117, li_118, li_119, li_121, li_122, li_140, li_193, li_200, li_240, li_255, li_289, li_290, li_300, li_302, li_314, li_326, li_860, li_880, li_900, li_999, li_1024, li_2801, li_3440, li_3441, li_3442, li_3443, li_3444, li_3447, li_3448, li_3449, li_3457, li_3465, li_3469, li_3473, li_3477, li_3501, li_3513, li_3525, li_3537, li_3633, li_3730, li_3742, li_3754, li_3766, li_4095, li_4096, li_4300, li_9011, li_9999, li_10000, li_36864, li_65536, li_1000000, ll_0, ll_1, ll_100, ll_11, ll_16, ll_20, ll_3, ll_32, ll_50, ll_8, ll_96, ll_99, ll_9999, ne_m1, e_if, e_ret, e_rz0, e_rz1, e_rzb, e_call, bCallX_eq, nI_add, nI_mul, nI_succ1, le_i, lt_i, eq_i, m1_i, m1_le, m1_lt, m1_ge, m1_eq, ite_true, ite_false, if_true, if_false, bt0]
  by_cases h1 : wAl W p = true
  case neg => simp [h1]
  by_cases h2 : wBo W < wDe W
  case pos => simp [h1, h2, show ¬ wDe W ≤ wBo W by omega]
  simp only [h1, h2, show wDe W ≤ wBo W by omega, decide_true, decide_false, Bool.true_eq_false, if_true, if_false, Bool.true_and]
  have hv : ∀ r, wSv W r p (wDe W) = ((rT (wRo W r) && decide (rHo (wRo W r) = some p)) && decide (wDe W ≤ rE (wRo W r))) := by
    intro r; unfold wSv; rw [Bool.and_assoc]
  have hc : ex (fun r => wSv W r p (wDe W)) 12 = decide (fs (fun r => wSv W r p (wDe W)) 12 < 12) := by
    rw [Bool.eq_iff_iff, ex_iff, decide_eq_true_eq]
    constructor
    · rintro ⟨r, h3, h4⟩
      rcases Nat.lt_or_ge (fs (fun r => wSv W r p (wDe W)) 12) 12 with h5 | h5
      · exact h5
      · have := fs_no (fun r => wSv W r p (wDe W)) 12 r (by omega)
        simp only [h4] at this
        cases this
    · intro h3
      exact ⟨_, h3, fs_yes _ _ h3⟩
  rw [hc]
  refine loop_x (fun m k => fX9_isDrinking_19 m 113 (nI p) (nI k) s) (fun r => wSv W r p (wDe W)) (fun k => some (nI (decide (k < 12)).toNat, s)) 12 ?_ ?_ ?_ fu (by unfold fu; omega)
  · intro m k hk hx
    have hk' : ¬ 12 ≤ k := by omega
    rw [hv, Bool.and_eq_true] at hx
    have h0 := rT_p (Bool.and_eq_true _ _ ▸ hx.1).1
    show fX9_isDrinking_19 (m + 1) 113 _ _ s = _
    rw [qX9_isDrinking_19]
    simp (disch := omega) only [r_c h, r_wa h, r_bo h, r_si h, r_ra h, r_rb h, r_yr h, r_dr h, r_pe h, r_fl h, r_pa h, r_di h, r_fr h, r_to h, r_by h, e_callV h.k, x_isHeld h hk (show p < 8 by omega), hx.1, x_reaches h hk h0, hx.2, li_0, li_1, li_2, li_3, li_4, li_5, li_6, li_7, li_8, li_9, li_10, li_11, li_12, li_13, li_14, li_15, li_16, li_17, li_20, li_24, li_25, li_29, li_31, li_32, li_33, li_37, li_40, li_41, li_48, li_49, li_50, li_56, li_57, li_59, li_60, li_61, li_62, li_63, li_70, li_73, li_85, li_97, li_98, li_99, li_100, li_101, li_102, li_103, li_104, li_105, li_107, li_108, li_109, li_110, li_111, li_112, li_114, li_115, li_116, li_117, li_118, li_119, li_121, li_122, li_140, li_193, li_200, li_240, li_255, li_289, li_290, li_300, li_302, li_314, li_326, li_860, li_880, li_900, li_999, li_1024, li_2801, li_3440, li_3441, li_3442, li_3443, li_3444, li_3447, li_3448, li_3449, li_3457, li_3465, li_3469, li_3473, li_3477, li_3501, li_3513, li_3525, li_3537, li_3633, li_3730, li_3742, li_3754, li_3766, li_4095, li_4096, li_4300, li_9011, li_9999, li_10000, li_36864, li_65536, li_1000000, ll_0, ll_1, ll_100, ll_11, ll_16, ll_20, ll_3, ll_32, ll_50, ll_8, ll_96, ll_99, ll_9999, ne_m1, e_if, e_ret, e_rz0, e_rz1, e_rzb, e_call, bCallX_eq, nI_add, nI_mul, nI_succ1, le_i, lt_i, eq_i, m1_i, m1_le, m1_lt, m1_ge, m1_eq, ite_true, ite_false, if_true, if_false, bt0, hk', Bool.true_eq_false, Bool.toNat_true, hk, decide_true, ite_false]
    rfl
  · intro m k hk hx
    have hk' : ¬ 12 ≤ k := by omega
    rw [hv] at hx
    show fX9_isDrinking_19 (m + 1) 113 _ _ s = _
    rw [qX9_isDrinking_19]
    simp (disch := omega) only [r_c h, r_wa h, r_bo h, r_si h, r_ra h, r_rb h, r_yr h, r_dr h, r_pe h, r_fl h, r_pa h, r_di h, r_fr h, r_to h, r_by h, e_callV h.k, x_isHeld h hk (show p < 8 by omega), li_0, li_1, li_2, li_3, li_4, li_5, li_6, li_7, li_8, li_9, li_10, li_11, li_12, li_13, li_14, li_15, li_16, li_17, li_20, li_24, li_25, li_29, li_31, li_32, li_33, li_37, li_40, li_41, li_48, li_49, li_50, li_56, li_57, li_59, li_60, li_61, li_62, li_63, li_70, li_73, li_85, li_97, li_98, li_99, li_100, li_101, li_102, li_103, li_104, li_105, li_107, li_108, li_109, li_110, li_111, li_112, li_114, li_115, li_116, li_117, li_118, li_119, li_121, li_122, li_140, li_193, li_200, li_240, li_255, li_289, li_290, li_300, li_302, li_314, li_326, li_860, li_880, li_900, li_999, li_1024, li_2801, li_3440, li_3441, li_3442, li_3443, li_3444, li_3447, li_3448, li_3449, li_3457, li_3465, li_3469, li_3473, li_3477, li_3501, li_3513, li_3525, li_3537, li_3633, li_3730, li_3742, li_3754, li_3766, li_4095, li_4096, li_4300, li_9011, li_9999, li_10000, li_36864, li_65536, li_1000000, ll_0, ll_1, ll_100, ll_11, ll_16, ll_20, ll_3, ll_32, ll_50, ll_8, ll_96, ll_99, ll_9999, ne_m1, e_if, e_ret, e_rz0, e_rz1, e_rzb, e_call, bCallX_eq, nI_add, nI_mul, nI_succ1, le_i, lt_i, eq_i, m1_i, m1_le, m1_lt, m1_ge, m1_eq, ite_true, ite_false, if_true, if_false, bt0, hk']
    by_cases h4 : (rT (wRo W k) && decide (rHo (wRo W k) = some p)) = true
    · rw [h4, Bool.true_and] at hx
      have h0 := rT_p (Bool.and_eq_true _ _ ▸ h4).1
      simp (disch := omega) only [r_c h, r_wa h, r_bo h, r_si h, r_ra h, r_rb h, r_yr h, r_dr h, r_pe h, r_fl h, r_pa h, r_di h, r_fr h, r_to h, r_by h, e_callV h.k, h4, x_reaches h hk h0, hx, li_0, li_1, li_2, li_3, li_4, li_5, li_6, li_7, li_8, li_9, li_10, li_11, li_12, li_13, li_14, li_15, li_16, li_17, li_20, li_24, li_25, li_29, li_31, li_32, li_33, li_37, li_40, li_41, li_48, li_49, li_50, li_56, li_57, li_59, li_60, li_61, li_62, li_63, li_70, li_73, li_85, li_97, li_98, li_99, li_100, li_101, li_102, li_103, li_104, li_105, li_107, li_108, li_109, li_110, li_111, li_112, li_114, li_115, li_116, li_117, li_118, li_119, li_121, li_122, li_140, li_193, li_200, li_240, li_255, li_289, li_290, li_300, li_302, li_314, li_326, li_860, li_880, li_900, li_999, li_1024, li_2801, li_3440, li_3441, li_3442, li_3443, li_3444, li_3447, li_3448, li_3449, li_3457, li_3465, li_3469, li_3473, li_3477, li_3501, li_3513, li_3525, li_3537, li_3633, li_3730, li_3742, li_3754, li_3766, li_4095, li_4096, li_4300, li_9011, li_9999, li_10000, li_36864, li_65536, li_1000000, ll_0, ll_1, ll_100, ll_11, ll_16, ll_20, ll_3, ll_32, ll_50, ll_8, ll_96, ll_99, ll_9999, ne_m1, e_if, e_ret, e_rz0, e_rz1, e_rzb, e_call, bCallX_eq, nI_add, nI_mul, nI_succ1, le_i, lt_i, eq_i, m1_i, m1_le, m1_lt, m1_ge, m1_eq, ite_true, ite_false, if_true, if_false, bt0, Bool.true_eq_false]
    · have h4 : (rT (wRo W k) && decide (rHo (wRo W k) = some p)) = false := by simpa using h4
      simp only [h4, if_true]
  · intro m
    show fX9_isDrinking_19 (m + 1) 113 _ _ s = _
    rw [qX9_isDrinking_19]
    simp (disch := omega) only [li_0, li_1, li_2, li_3, li_4, li_5, li_6, li_7, li_8, li_9, li_10, li_11, li_12, li_13, li_14, li_15, li_16, li_17, li_20, li_24, li_25, li_29, li_31, li_32, li_33, li_37, li_40, li_41, li_48, li_49, li_50, li_56, li_57, li_59, li_60, li_61, li_62, li_63, li_70, li_73, li_85, li_97, li_98, li_99, li_100, li_101, li_102, li_103, li_104, li_105, li_107, li_108, li_109, li_110, li_111, li_112, li_114, li_115, li_116, li_117, li_118, li_119, li_121, li_122, li_140, li_193, li_200, li_240, li_255, li_289, li_290, li_300, li_302, li_314, li_326, li_860, li_880, li_900, li_999, li_1024, li_2801, li_3440, li_3441, li_3442, li_3443, li_3444, li_3447, li_3448, li_3449, li_3457, li_3465, li_3469, li_3473, li_3477, li_3501, li_3513, li_3525, li_3537, li_3633, li_3730, li_3742, li_3754, li_3766, li_4095, li_4096, li_4300, li_9011, li_9999, li_10000, li_36864, li_65536, li_1000000, ll_0, ll_1, ll_100, ll_11, ll_16, ll_20, ll_3, ll_32, ll_50, ll_8, ll_96, ll_99, ll_9999, ne_m1, e_if, e_ret, e_rz0, e_rz1, e_rzb, e_call, bCallX_eq, nI_add, nI_mul, nI_succ1, le_i, lt_i, eq_i, m1_i, m1_le, m1_lt, m1_ge, m1_eq, ite_true, ite_false, if_true, if_false, Nat.le_refl]
    rfl
theorem x_drinkers (h : RX s W) : fX9_drinkers 113 s = some (nI (wDs W), s) := by
  unfold fX9_drinkers
  obtain ⟨iY, iW, iB, iS, iR, iRb, iD, iP, iPa, iDi, iF, iFd, iRo, iOw, iBo, iLa⟩ := h.wi
  refine loop_n (fun m k => fX9_drinkers_4 m 113 (nI (mk (wDk W) k)) (nI k) s) _ (wPe W) ?_ ?_ fu 0 (by omega) (by unfold fu; omega)
  · intro m k hk
    have hk' : ¬ wPe W ≤ k := by omega
    have hm := mk_lt (wDk W) k
    have h8 : (2 : Nat) ^ k ≤ 2 ^ 8 := Nat.pow_le_pow_right (by decide) (by omega)
    show fX9_drinkers_4 (m + 1) 113 _ _ s = _
    rw [qX9_drinkers_4]
    unfold fX9_drinkers_31
    simp (disch := omega) only [r_c h, r_wa h, r_bo h, r_si h, r_ra h, r_rb h, r_yr h, r_dr h, r_pe h, r_fl h, r_pa h, r_di h, r_fr h, r_to h, r_by h, e_callV h.k, x_isDrinking h hk, li_0, li_1, li_2, li_3, li_4, li_5, li_6, li_7, li_8, li_9, li_10, li_11, li_12, li_13, li_14, li_15, li_16, li_17, li_20, li_24, li_25, li_29, li_31, li_32, li_33, li_37, li_40, li_41, li_48, li_49, li_50, li_56, li_57, li_59, li_60, li_61, li_62, li_63, li_70, li_73, li_85, li_97, li_98, li_99, li_100, li_101, li_102, li_103, li_104, li_105, li_107, li_108, li_109, li_110, li_111, li_112, li_114, li_115, li_116, li_117, li_118, li_119, li_121, li_122, li_140, li_193, li_200, li_240, li_255, li_289, li_290, li_300, li_302, li_314, li_326, li_860, li_880, li_900, li_999, li_1024, li_2801, li_3440, li_3441, li_3442, li_3443, li_3444, li_3447, li_3448, li_3449, li_3457, li_3465, li_3469, li_3473, li_3477, li_3501, li_3513, li_3525, li_3537, li_3633, li_3730, li_3742, li_3754, li_3766, li_4095, li_4096, li_4300, li_9011, li_9999, li_10000, li_36864, li_65536, li_1000000, ll_0, ll_1, ll_100, ll_11, ll_16, ll_20, ll_3, ll_32, ll_50, ll_8, ll_96, ll_99, ll_9999, ne_m1, e_if, e_ret, e_rz0, e_rz1, e_rzb, e_call, bCallX_eq, nI_add, nI_mul, nI_succ1, le_i, lt_i, eq_i, m1_i, m1_le, m1_lt, m1_ge, m1_eq, ite_true, ite_false, if_true, if_false, bt0, hk', one_shl, or_i, Nat.or_zero]
    unfold mk
    rw [it_s]
    by_cases h1 : wDk W k = true
    · simp [h1]
    · simp [h1]
  · intro m
    show fX9_drinkers_4 (m + 1) 113 _ _ s = _
    rw [qX9_drinkers_4]
    simp (disch := omega) only [r_c h, r_wa h, r_bo h, r_si h, r_ra h, r_rb h, r_yr h, r_dr h, r_pe h, r_fl h, r_pa h, r_di h, r_fr h, r_to h, r_by h, e_callV h.k, li_0, li_1, li_2, li_3, li_4, li_5, li_6, li_7, li_8, li_9, li_10, li_11, li_12, li_13, li_14, li_15, li_16, li_17, li_20, li_24, li_25, li_29, li_31, li_32, li_33, li_37, li_40, li_41, li_48, li_49, li_50, li_56, li_57, li_59, li_60, li_61, li_62, li_63, li_70, li_73, li_85, li_97, li_98, li_99, li_100, li_101, li_102, li_103, li_104, li_105, li_107, li_108, li_109, li_110, li_111, li_112, li_114, li_115, li_116, li_117, li_118, li_119, li_121, li_122, li_140, li_193, li_200, li_240, li_255, li_289, li_290, li_300, li_302, li_314, li_326, li_860, li_880, li_900, li_999, li_1024, li_2801, li_3440, li_3441, li_3442, li_3443, li_3444, li_3447, li_3448, li_3449, li_3457, li_3465, li_3469, li_3473, li_3477, li_3501, li_3513, li_3525, li_3537, li_3633, li_3730, li_3742, li_3754, li_3766, li_4095, li_4096, li_4300, li_9011, li_9999, li_10000, li_36864, li_65536, li_1000000, ll_0, ll_1, ll_100, ll_11, ll_16, ll_20, ll_3, ll_32, ll_50, ll_8, ll_96, ll_99, ll_9999, ne_m1, e_if, e_ret, e_rz0, e_rz1, e_rzb, e_call, bCallX_eq, nI_add, nI_mul, nI_succ1, le_i, lt_i, eq_i, m1_i, m1_le, m1_lt, m1_ge, m1_eq, ite_true, ite_false, if_true, if_false, Nat.le_refl]
    rfl
theorem x_minutes (h : RX s W) {p : Nat} (hp : p < 8) : fX9_minutes 113 (nI p) s = some (nI (wMi W p), s) := by
  unfold fX9_minutes
  have hde := wDe_le h.wi
  refine loop_n (fun m k => fX9_minutes_5 m 113 (nI p) (nI (it (fun r n => if wSv W r p (wDe W) then min n (rK (wRo W r)) else n) 8 k)) (nI k) s) _ 12 ?_ ?_ fu 0 (by omega) (by unfold fu; omega)
  · intro m k hk
    have hk' : ¬ 12 ≤ k := by omega
    have h9 := wMk_le' W p k
    have h10 := (h.ri k).1
    have h11 : rK (wRo W k) ≤ 8 := by show rN (wRo W k) - 1 ≤ 8; omega
    show fX9_minutes_5 (m + 1) 113 _ _ _ s = _
    rw [qX9_minutes_5]
    simp (disch := omega) only [r_c h, r_wa h, r_bo h, r_si h, r_ra h, r_rb h, r_yr h, r_dr h, r_pe h, r_fl h, r_pa h, r_di h, r_fr h, r_to h, r_by h, e_callV h.k, x_isHeld h hk hp, li_0, li_1, li_2, li_3, li_4, li_5, li_6, li_7, li_8, li_9, li_10, li_11, li_12, li_13, li_14, li_15, li_16, li_17, li_20, li_24, li_25, li_29, li_31, li_32, li_33, li_37, li_40, li_41, li_48, li_49, li_50, li_56, li_57, li_59, li_60, li_61, li_62, li_63, li_70, li_73, li_85, li_97, li_98, li_99, li_100, li_101, li_102, li_103, li_104, li_105, li_107, li_108, li_109, li_110, li_111, li_112, li_114, li_115, li_116, li_117, li_118, li_119, li_121, li_122, li_140, li_193, li_200, li_240, li_255, li_289, li_290, li_300, li_302, li_314, li_326, li_860, li_880, li_900, li_999, li_1024, li_2801, li_3440, li_3441, li_3442, li_3443, li_3444, li_3447, li_3448, li_3449, li_3457, li_3465, li_3469, li_3473, li_3477, li_3501, li_3513, li_3525, li_3537, li_3633, li_3730, li_3742, li_3754, li_3766, li_4095, li_4096, li_4300, li_9011, li_9999, li_10000, li_36864, li_65536, li_1000000, ll_0, ll_1, ll_100, ll_11, ll_16, ll_20, ll_3, ll_32, ll_50, ll_8, ll_96, ll_99, ll_9999, ne_m1, e_if, e_ret, e_rz0, e_rz1, e_rzb, e_call, bCallX_eq, nI_add, nI_mul, nI_succ1, le_i, lt_i, eq_i, m1_i, m1_le, m1_lt, m1_ge, m1_eq, ite_true, ite_false, if_true, if_false, bt0, hk', it_s]
    have hv : wSv W k p (wDe W) = ((rT (wRo W k) && decide (rHo (wRo W k) = some p)) && decide (wDe W ≤ rE (wRo W k))) := by
      unfold wSv; rw [Bool.and_assoc]
    rw [hv]
    by_cases h4 : (rT (wRo W k) && decide (rHo (wRo W k) = some p)) = true
    · have h0 := rT_p (Bool.and_eq_true _ _ ▸ h4).1
      simp (disch := omega) only [r_c h, r_wa h, r_bo h, r_si h, r_ra h, r_rb h, r_yr h, r_dr h, r_pe h, r_fl h, r_pa h, r_di h, r_fr h, r_to h, r_by h, e_callV h.k, h4, x_reaches h hk h0, x_knotsOfRope h hk h0, li_0, li_1, li_2, li_3, li_4, li_5, li_6, li_7, li_8, li_9, li_10, li_11, li_12, li_13, li_14, li_15, li_16, li_17, li_20, li_24, li_25, li_29, li_31, li_32, li_33, li_37, li_40, li_41, li_48, li_49, li_50, li_56, li_57, li_59, li_60, li_61, li_62, li_63, li_70, li_73, li_85, li_97, li_98, li_99, li_100, li_101, li_102, li_103, li_104, li_105, li_107, li_108, li_109, li_110, li_111, li_112, li_114, li_115, li_116, li_117, li_118, li_119, li_121, li_122, li_140, li_193, li_200, li_240, li_255, li_289, li_290, li_300, li_302, li_314, li_326, li_860, li_880, li_900, li_999, li_1024, li_2801, li_3440, li_3441, li_3442, li_3443, li_3444, li_3447, li_3448, li_3449, li_3457, li_3465, li_3469, li_3473, li_3477, li_3501, li_3513, li_3525, li_3537, li_3633, li_3730, li_3742, li_3754, li_3766, li_4095, li_4096, li_4300, li_9011, li_9999, li_10000, li_36864, li_65536, li_1000000, ll_0, ll_1, ll_100, ll_11, ll_16, ll_20, ll_3, ll_32, ll_50, ll_8, ll_96, ll_99, ll_9999, ne_m1, e_if, e_ret, e_rz0, e_rz1, e_rzb, e_call, bCallX_eq, nI_add, nI_mul, nI_succ1, le_i, lt_i, eq_i, m1_i, m1_le, m1_lt, m1_ge, m1_eq, ite_true, ite_false, if_true, if_false, bt0, Bool.true_eq_false, Bool.true_and, jMin_i]
      by_cases h5 : wDe W ≤ rE (wRo W k) <;> simp [h5]
    · have h4 : (rT (wRo W k) && decide (rHo (wRo W k) = some p)) = false := by simpa using h4
      simp only [h4, if_true, Bool.false_and, Bool.false_eq_true, if_false]
  · intro m
    show fX9_minutes_5 (m + 1) 113 _ _ _ s = _
    rw [qX9_minutes_5]
    unfold fX9_minutes_44
    simp (disch := omega) only [r_c h, r_wa h, r_bo h, r_si h, r_ra h, r_rb h, r_yr h, r_dr h, r_pe h, r_fl h, r_pa h, r_di h, r_fr h, r_to h, r_by h, e_callV h.k, x_depthNow h, li_0, li_1, li_2, li_3, li_4, li_5, li_6, li_7, li_8, li_9, li_10, li_11, li_12, li_13, li_14, li_15, li_16, li_17, li_20, li_24, li_25, li_29, li_31, li_32, li_33, li_37, li_40, li_41, li_48, li_49, li_50, li_56, li_57, li_59, li_60, li_61, li_62, li_63, li_70, li_73, li_85, li_97, li_98, li_99, li_100, li_101, li_102, li_103, li_104, li_105, li_107, li_108, li_109, li_110, li_111, li_112, li_114, li_115, li_116, li_117, li_118, li_119, li_121, li_122, li_140, li_193, li_200, li_240, li_255, li_289, li_290, li_300, li_302, li_314, li_326, li_860, li_880, li_900, li_999, li_1024, li_2801, li_3440, li_3441, li_3442, li_3443, li_3444, li_3447, li_3448, li_3449, li_3457, li_3465, li_3469, li_3473, li_3477, li_3501, li_3513, li_3525, li_3537, li_3633, li_3730, li_3742, li_3754, li_3766, li_4095, li_4096, li_4300, li_9011, li_9999, li_10000, li_36864, li_65536, li_1000000, ll_0, ll_1, ll_100, ll_11, ll_16, ll_20, ll_3, ll_32, ll_50, ll_8, ll_96, ll_99, ll_9999, ne_m1, e_if, e_ret, e_rz0, e_rz1, e_rzb, e_call, bCallX_eq, nI_add, nI_mul, nI_succ1, le_i, lt_i, eq_i, m1_i, m1_le, m1_lt, m1_ge, m1_eq, ite_true, ite_false, if_true, if_false, Nat.le_refl]
    rfl
theorem x_poorestOf (h : RX s W) {m : Nat} (hm : m < 256) : fX9_poorestOf 113 (nI m) s = some (oI (wPo W m), s) := by
  unfold fX9_poorestOf
  obtain ⟨iY, iW, iB, iS, iR, iRb, iD, iP, iPa, iDi, iF, iFd, iRo, iOw, iBo, iLa⟩ := h.wi
  refine loop_n (fun n k => fX9_poorestOf_4 n 113 (nI m) (oI (it (fun p o => if m.testBit p then (match o with | none => some p | some b => if wHy W p < wHy W b then some p else some b) else o) none k)) (nI k) s) _ (wPe W) ?_ ?_ fu 0 (by omega) (by unfold fu; omega)
  · intro n k hk
    have hk' : ¬ wPe W ≤ k := by omega
    have hb := wPo_lt W m k
    have hyk := wY_le h.wi (fun r => rT (wRo W r) && decide (rHo (wRo W r) = some k)) 12
    show fX9_poorestOf_4 (n + 1) 113 _ _ _ s = _
    rw [qX9_poorestOf_4, it_s]
    generalize it (fun p o => if m.testBit p then (match o with | none => some p | some b => if wHy W p < wHy W b then some p else some b) else o) none k = o at hb ⊢
    unfold fX9_poorestOf_41
    simp (disch := omega) only [r_c h, r_wa h, r_bo h, r_si h, r_ra h, r_rb h, r_yr h, r_dr h, r_pe h, r_fl h, r_pa h, r_di h, r_fr h, r_to h, r_by h, e_callV h.k, li_0, li_1, li_2, li_3, li_4, li_5, li_6, li_7, li_8, li_9, li_10, li_11, li_12, li_13, li_14, li_15, li_16, li_17, li_20, li_24, li_25, li_29, li_31, li_32, li_33, li_37, li_40, li_41, li_48, li_49, li_50, li_56, li_57, li_59, li_60, li_61, li_62, li_63, li_70, li_73, li_85, li_97, li_98, li_99, li_100, li_101, li_102, li_103, li_104, li_105, li_107, li_108, li_109, li_110, li_111, li_112, li_114, li_115, li_116, li_117, li_118, li_119, li_121, li_122, li_140, li_193, li_200, li_240, li_255, li_289, li_290, li_300, li_302, li_314, li_326, li_860, li_880, li_900, li_999, li_1024, li_2801, li_3440, li_3441, li_3442, li_3443, li_3444, li_3447, li_3448, li_3449, li_3457, li_3465, li_3469, li_3473, li_3477, li_3501, li_3513, li_3525, li_3537, li_3633, li_3730, li_3742, li_3754, li_3766, li_4095, li_4096, li_4300, li_9011, li_9999, li_10000, li_36864, li_65536, li_1000000, ll_0, ll_1, ll_100, ll_11, ll_16, ll_20, ll_3, ll_32, ll_50, ll_8, ll_96, ll_99, ll_9999, ne_m1, e_if, e_ret, e_rz0, e_rz1, e_rzb, e_call, bCallX_eq, nI_add, nI_mul, nI_succ1, le_i, lt_i, eq_i, m1_i, m1_le, m1_lt, m1_ge, m1_eq, ite_true, ite_false, if_true, if_false, hk', bit_i, bt1]
    cases m.testBit k with
    | false => rfl
    | true =>
      cases o with
      | none => rfl
      | some b =>
        have hb := hb b rfl
        have hyb := wY_le h.wi (fun r => rT (wRo W r) && decide (rHo (wRo W r) = some b)) 12
        have e1 : wHy W k ≤ 1600 * 12 := hyk
        have e2 : wHy W b ≤ 1600 * 12 := hyb
        simp (disch := omega) only [oI_s, r_c h, r_wa h, r_bo h, r_si h, r_ra h, r_rb h, r_yr h, r_dr h, r_pe h, r_fl h, r_pa h, r_di h, r_fr h, r_to h, r_by h, e_callV h.k, x_yardsHeld h (show k < 8 by omega), x_yardsHeld h (show b < 8 by omega), li_0, li_1, li_2, li_3, li_4, li_5, li_6, li_7, li_8, li_9, li_10, li_11, li_12, li_13, li_14, li_15, li_16, li_17, li_20, li_24, li_25, li_29, li_31, li_32, li_33, li_37, li_40, li_41, li_48, li_49, li_50, li_56, li_57, li_59, li_60, li_61, li_62, li_63, li_70, li_73, li_85, li_97, li_98, li_99, li_100, li_101, li_102, li_103, li_104, li_105, li_107, li_108, li_109, li_110, li_111, li_112, li_114, li_115, li_116, li_117, li_118, li_119, li_121, li_122, li_140, li_193, li_200, li_240, li_255, li_289, li_290, li_300, li_302, li_314, li_326, li_860, li_880, li_900, li_999, li_1024, li_2801, li_3440, li_3441, li_3442, li_3443, li_3444, li_3447, li_3448, li_3449, li_3457, li_3465, li_3469, li_3473, li_3477, li_3501, li_3513, li_3525, li_3537, li_3633, li_3730, li_3742, li_3754, li_3766, li_4095, li_4096, li_4300, li_9011, li_9999, li_10000, li_36864, li_65536, li_1000000, ll_0, ll_1, ll_100, ll_11, ll_16, ll_20, ll_3, ll_32, ll_50, ll_8, ll_96, ll_99, ll_9999, ne_m1, e_if, e_ret, e_rz0, e_rz1, e_rzb, e_call, bCallX_eq, nI_add, nI_mul, nI_succ1, le_i, lt_i, eq_i, m1_i, m1_le, m1_lt, m1_ge, m1_eq, ite_true, ite_false, if_true, if_false, Nat.not_lt_zero]
        by_cases hc : wHy W k < wHy W b
        · rw [if_neg (show ¬ wHy W b ≤ wHy W k by omega)]; simp only [hc, if_true, oI_s]
        · rw [if_pos (show wHy W b ≤ wHy W k by omega)]; simp only [hc, if_false, oI_s]
  · intro n
    show fX9_poorestOf_4 (n + 1) 113 _ _ _ s = _
    rw [qX9_poorestOf_4]
    simp (disch := omega) only [r_c h, r_wa h, r_bo h, r_si h, r_ra h, r_rb h, r_yr h, r_dr h, r_pe h, r_fl h, r_pa h, r_di h, r_fr h, r_to h, r_by h, e_callV h.k, li_0, li_1, li_2, li_3, li_4, li_5, li_6, li_7, li_8, li_9, li_10, li_11, li_12, li_13, li_14, li_15, li_16, li_17, li_20, li_24, li_25, li_29, li_31, li_32, li_33, li_37, li_40, li_41, li_48, li_49, li_50, li_56, li_57, li_59, li_60, li_61, li_62, li_63, li_70, li_73, li_85, li_97, li_98, li_99, li_100, li_101, li_102, li_103, li_104, li_105, li_107, li_108, li_109, li_110, li_111, li_112, li_114, li_115, li_116, li_117, li_118, li_119, li_121, li_122, li_140, li_193, li_200, li_240, li_255, li_289, li_290, li_300, li_302, li_314, li_326, li_860, li_880, li_900, li_999, li_1024, li_2801, li_3440, li_3441, li_3442, li_3443, li_3444, li_3447, li_3448, li_3449, li_3457, li_3465, li_3469, li_3473, li_3477, li_3501, li_3513, li_3525, li_3537, li_3633, li_3730, li_3742, li_3754, li_3766, li_4095, li_4096, li_4300, li_9011, li_9999, li_10000, li_36864, li_65536, li_1000000, ll_0, ll_1, ll_100, ll_11, ll_16, ll_20, ll_3, ll_32, ll_50, ll_8, ll_96, ll_99, ll_9999, ne_m1, e_if, e_ret, e_rz0, e_rz1, e_rzb, e_call, bCallX_eq, nI_add, nI_mul, nI_succ1, le_i, lt_i, eq_i, m1_i, m1_le, m1_lt, m1_ge, m1_eq, ite_true, ite_false, if_true, if_false, Nat.le_refl]
    rfl
end RDR

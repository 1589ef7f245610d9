/-! FRACTIONS, POWERS, THE SAFEST ROPE -/
theorem t_power (b k : Nat) (hb : b < 2147483648) (hk : k ≤ 8) (s : mS) : fX3_power (nI b) (nI k) s = some (lN (b ^ k), s) := by
  unfold fX3_power
  refine loop_n (fun n j => fX3_power_5 n (nI b) (nI k) (lN (b ^ j)) (nI j) s) _ k ?_ ?_ fu 0 (by omega) (by unfold fu; omega)
  · intro n j hj
    show fX3_power_5 (n + 1) _ _ _ _ s = _
    rw [qX3_power_5]
    simp (disch := omega) only [li_0, li_1, li_2, li_3, li_4, li_5, li_6, li_7, li_8, li_9, li_10, li_11, li_12, li_13, li_14, li_15, li_16, li_17, li_20, li_24, li_25, li_29, li_31, li_32, li_33, li_37, li_40, li_41, li_48, li_49, li_50, li_56, li_57, li_59, li_60, li_61, li_62, li_63, li_70, li_73, li_85, li_97, li_98, li_99, li_100, li_101, li_102, li_103, li_104, li_105, li_107, li_108, li_109, li_110, li_111, li_112, li_114, li_115, li_116, li_117, li_118, li_119, li_121, li_122, li_140, li_193, li_200, li_240, li_255, li_289, li_290, li_300, li_302, li_314, li_326, li_860, li_880, li_900, li_999, li_1024, li_2801, li_3440, li_3441, li_3442, li_3443, li_3444, li_3447, li_3448, li_3449, li_3457, li_3465, li_3469, li_3473, li_3477, li_3501, li_3513, li_3525, li_3537, li_3633, li_3730, li_3742, li_3754, li_3766, li_4095, li_4096, li_4300, li_9011, li_9999, li_10000, li_36864, li_65536, li_1000000, ll_0, ll_1, ll_100, ll_11, ll_16, ll_20, ll_3, ll_32, ll_50, ll_8, ll_96, ll_99, ll_9999, ne_m1, e_if, e_ret, e_rz0, e_rz1, e_rzb, e_call, bCallX_eq, nI_add, nI_mul, nI_succ1, le_i, lt_i, eq_i, m1_i, m1_le, m1_lt, m1_ge, m1_eq, ite_true, ite_false, if_true, if_false, show ¬ k ≤ j by omega, l_i, lN_mul, ← Nat.pow_succ]
  · intro n
    show fX3_power_5 (n + 1) _ _ _ _ s = _
    rw [qX3_power_5]
    simp (disch := omega) only [li_0, li_1, li_2, li_3, li_4, li_5, li_6, li_7, li_8, li_9, li_10, li_11, li_12, li_13, li_14, li_15, li_16, li_17, li_20, li_24, li_25, li_29, li_31, li_32, li_33, li_37, li_40, li_41, li_48, li_49, li_50, li_56, li_57, li_59, li_60, li_61, li_62, li_63, li_70, li_73, li_85, li_97, li_98, li_99, li_100, li_101, li_102, li_103, li_104, li_105, li_107, li_108, li_109, li_110, li_111, li_112, li_114, li_115, li_116, li_117, li_118, li_119, li_121, li_122, li_140, li_193, li_200, li_240, li_255, li_289, li_290, li_300, li_302, li_314, li_326, li_860, li_880, li_900, li_999, li_1024, li_2801, li_3440, li_3441, li_3442, li_3443, li_3444, li_3447, li_3448, li_3449, li_3457, li_3465, li_3469, li_3473, li_3477, li_3501, li_3513, li_3525, li_3537, li_3633, li_3730, li_3742, li_3754, li_3766, li_4095, li_4096, li_4300, li_9011, li_9999, li_10000, li_36864, li_65536, li_1000000, ll_0, ll_1, ll_100, ll_11, ll_16, ll_20, ll_3, ll_32, ll_50, ll_8, ll_96, ll_99, ll_9999, ne_m1, e_if, e_ret, e_rz0, e_rz1, e_rzb, e_call, bCallX_eq, nI_add, nI_mul, nI_succ1, le_i, lt_i, eq_i, m1_i, m1_le, m1_lt, m1_ge, m1_eq, ite_true, ite_false, if_true, if_false, Nat.le_refl]
theorem x_power (b k : Nat) (hk : k ≤ 8) (s : mS) : fX9_power (lN b) (nI k) s = some (lN (b ^ k), s) := by
  unfold fX9_power
  refine loop_n (fun n j => fX9_power_5 n (lN b) (nI k) (lN (b ^ j)) (nI j) s) _ k ?_ ?_ fu 0 (by omega) (by unfold fu; omega)
  · intro n j hj
    show fX9_power_5 (n + 1) _ _ _ _ s = _
    rw [qX9_power_5]
    simp (disch := omega) only [li_0, li_1, li_2, li_3, li_4, li_5, li_6, li_7, li_8, li_9, li_10, li_11, li_12, li_13, li_14, li_15, li_16, li_17, li_20, li_24, li_25, li_29, li_31, li_32, li_33, li_37, li_40, li_41, li_48, li_49, li_50, li_56, li_57, li_59, li_60, li_61, li_62, li_63, li_70, li_73, li_85, li_97, li_98, li_99, li_100, li_101, li_102, li_103, li_104, li_105, li_107, li_108, li_109, li_110, li_111, li_112, li_114, li_115, li_116, li_117, li_118, li_119, li_121, li_122, li_140, li_193, li_200, li_240, li_255, li_289, li_290, li_300, li_302, li_314, li_326, li_860, li_880, li_900, li_999, li_1024, li_2801, li_3440, li_3441, li_3442, li_3443, li_3444, li_3447, li_3448, li_3449, li_3457, li_3465, li_3469, li_3473, li_3477, li_3501, li_3513, li_3525, li_3537, li_3633, li_3730, li_3742, li_3754, li_3766, li_4095, li_4096, li_4300, li_9011, li_9999, li_10000, li_36864, li_65536, li_1000000, ll_0, ll_1, ll_100, ll_11, ll_16, ll_20, ll_3, ll_32, ll_50, ll_8, ll_96, ll_99, ll_9999, ne_m1, e_if, e_ret, e_rz0, e_rz1, e_rzb, e_call, bCallX_eq, nI_add, nI_mul, nI_succ1, le_i, lt_i, eq_i, m1_i, m1_le, m1_lt, m1_ge, m1_eq, ite_true, ite_false, if_true, if_false, show ¬ k ≤ j by omega, lN_mul, ← Nat.pow_succ]
  · intro n
    show fX9_power_5 (n + 1) _ _ _ _ s = _
    rw [qX9_power_5]
    simp (disch := omega) only [li_0, li_1, li_2, li_3, li_4, li_5, li_6, li_7, li_8, li_9, li_10, li_11, li_12, li_13, li_14, li_15, li_16, li_17, li_20, li_24, li_25, li_29, li_31, li_32, li_33, li_37, li_40, li_41, li_48, li_49, li_50, li_56, li_57, li_59, li_60, li_61, li_62, li_63, li_70, li_73, li_85, li_97, li_98, li_99, li_100, li_101, li_102, li_103, li_104, li_105, li_107, li_108, li_109, li_110, li_111, li_112, li_114, li_115, li_116, li_117, li_118, li_119, li_121, li_122, li_140, li_193, li_200, li_240, li_255, li_289, li_290, li_300, li_302, li_314, li_326, li_860, li_880, li_900, li_999, li_1024, li_2801, li_3440, li_3441, li_3442, li_3443, li_3444, li_3447, li_3448, li_3449, li_3457, li_3465, li_3469, li_3473, li_3477, li_3501, li_3513, li_3525, li_3537, li_3633, li_3730, li_3742, li_3754, li_3766, li_4095, li_4096, li_4300, li_9011, li_9999, li_10000, li_36864, li_65536, li_1000000, ll_0, ll_1, ll_100, ll_11, ll_16, ll_20, ll_3, ll_32, ll_50, ll_8, ll_96, ll_99, ll_9999, ne_m1, e_if, e_ret, e_rz0, e_rz1, e_rzb, e_call, bCallX_eq, nI_add, nI_mul, nI_succ1, le_i, lt_i, eq_i, m1_i, m1_le, m1_lt, m1_ge, m1_eq, ite_true, ite_false, if_true, if_false, Nat.le_refl]
def rHt (ρ : rR) : Nat := (16 - rS ρ) ^ (rK ρ)
def rHb (ρ : rR) : Nat := 16 ^ (rK ρ)
theorem rHt_b {ρ : rR} (hI : rI ρ) : 1 ≤ rHt ρ ∧ rHt ρ ≤ 268435456 ∧ 1 ≤ rHb ρ ∧ rHb ρ ≤ 268435456 := by
  have h1 := hI.1
  have h2 := hI.2.2.1
  have hk : rK ρ ≤ 7 := by show rN ρ - 1 ≤ 7; omega
  have h3 : (16 : Nat) ^ rK ρ ≤ 16 ^ 7 := Nat.pow_le_pow_right (by decide) hk
  have h4 : (16 - rS ρ) ^ rK ρ ≤ 16 ^ rK ρ := Nat.pow_le_pow_left (by omega) _
  have h5 : 0 < (16 - rS ρ) ^ rK ρ := Nat.pow_pos (by omega)
  have h6 : 0 < (16 : Nat) ^ rK ρ := Nat.pow_pos (by omega)
  have e : (16 : Nat) ^ 7 = 268435456 := by decide
  unfold rHt rHb
  omega
theorem t_holdsTop {s : mS} {x : Nat} {ρ : rR} (hS : RoS s x) (hD : RoD s x ρ) (hI : rI ρ) (h0 : 0 < rN ρ) : fX3_holdsTop x s = some (lN (rHt ρ), s) := by
  have h1 := hI.1
  have h2 := hI.2.2.1
  have hk : rK ρ ≤ 7 := by show rN ρ - 1 ≤ 7; omega
  unfold fX3_holdsTop rHt
  simp (disch := omega) only [xGIe hS.1 hD.2.2.2.2.2.1, e_callV hS.1, t_knots hS hD h0, li_0, li_1, li_2, li_3, li_4, li_5, li_6, li_7, li_8, li_9, li_10, li_11, li_12, li_13, li_14, li_15, li_16, li_17, li_20, li_24, li_25, li_29, li_31, li_32, li_33, li_37, li_40, li_41, li_48, li_49, li_50, li_56, li_57, li_59, li_60, li_61, li_62, li_63, li_70, li_73, li_85, li_97, li_98, li_99, li_100, li_101, li_102, li_103, li_104, li_105, li_107, li_108, li_109, li_110, li_111, li_112, li_114, li_115, li_116, li_117, li_118, li_119, li_121, li_122, li_140, li_193, li_200, li_240, li_255, li_289, li_290, li_300, li_302, li_314, li_326, li_860, li_880, li_900, li_999, li_1024, li_2801, li_3440, li_3441, li_3442, li_3443, li_3444, li_3447, li_3448, li_3449, li_3457, li_3465, li_3469, li_3473, li_3477, li_3501, li_3513, li_3525, li_3537, li_3633, li_3730, li_3742, li_3754, li_3766, li_4095, li_4096, li_4300, li_9011, li_9999, li_10000, li_36864, li_65536, li_1000000, ll_0, ll_1, ll_100, ll_11, ll_16, ll_20, ll_3, ll_32, ll_50, ll_8, ll_96, ll_99, ll_9999, ne_m1, e_if, e_ret, e_rz0, e_rz1, e_rzb, e_call, bCallX_eq, nI_add, nI_mul, nI_succ1, le_i, lt_i, eq_i, m1_i, m1_le, m1_lt, m1_ge, m1_eq, ite_true, ite_false, if_true, if_false, sub_i, t_power]
theorem t_holdsBottom {s : mS} {x : Nat} {ρ : rR} (hS : RoS s x) (hD : RoD s x ρ) (hI : rI ρ) (h0 : 0 < rN ρ) : fX3_holdsBottom x s = some (lN (rHb ρ), s) := by
  have h1 := hI.1
  have hk : rK ρ ≤ 7 := by show rN ρ - 1 ≤ 7; omega
  unfold fX3_holdsBottom rHb
  simp (disch := omega) only [e_callV hS.1, t_knots hS hD h0, li_0, li_1, li_2, li_3, li_4, li_5, li_6, li_7, li_8, li_9, li_10, li_11, li_12, li_13, li_14, li_15, li_16, li_17, li_20, li_24, li_25, li_29, li_31, li_32, li_33, li_37, li_40, li_41, li_48, li_49, li_50, li_56, li_57, li_59, li_60, li_61, li_62, li_63, li_70, li_73, li_85, li_97, li_98, li_99, li_100, li_101, li_102, li_103, li_104, li_105, li_107, li_108, li_109, li_110, li_111, li_112, li_114, li_115, li_116, li_117, li_118, li_119, li_121, li_122, li_140, li_193, li_200, li_240, li_255, li_289, li_290, li_300, li_302, li_314, li_326, li_860, li_880, li_900, li_999, li_1024, li_2801, li_3440, li_3441, li_3442, li_3443, li_3444, li_3447, li_3448, li_3449, li_3457, li_3465, li_3469, li_3473, li_3477, li_3501, li_3513, li_3525, li_3537, li_3633, li_3730, li_3742, li_3754, li_3766, li_4095, li_4096, li_4300, li_9011, li_9999, li_10000, li_36864, li_65536, li_1000000, ll_0, ll_1, ll_100, ll_11, ll_16, ll_20, ll_3, ll_32, ll_50, ll_8, ll_96, ll_99, ll_9999, ne_m1, e_if, e_ret, e_rz0, e_rz1, e_rzb, e_call, bCallX_eq, nI_add, nI_mul, nI_succ1, le_i, lt_i, eq_i, m1_i, m1_le, m1_lt, m1_ge, m1_eq, ite_true, ite_false, if_true, if_false, t_power]
theorem mul_b {a b : Nat} (ha : a ≤ 268435456) (hb : b ≤ 268435456) : a * b < 2 ^ 63 := by
  have := Nat.mul_le_mul ha hb
  omega
def rSf (ρ σ : rR) : Bool := decide (rHt σ * rHb ρ < rHt ρ * rHb σ)
theorem t_isSaferThan {s : mS} {x y : Nat} {ρ σ : rR} (hS : RoS s x) (hD : RoD s x ρ) (hI : rI ρ) (h0 : 0 < rN ρ) (hS2 : RoS s y) (hD2 : RoD s y σ) (hI2 : rI σ) (h02 : 0 < rN σ) : fX3_isSaferThan x y s = some (nI (rSf ρ σ).toNat, s) := by
  obtain ⟨a1, a2, a3, a4⟩ := rHt_b hI
  obtain ⟨b1, b2, b3, b4⟩ := rHt_b hI2
  have m1 := mul_b a2 b4
  have m2 := mul_b b2 a4
  unfold fX3_isSaferThan
  simp (disch := omega) only [e_callV hS.1, e_callV hS2.1, t_holdsTop hS hD hI h0, t_holdsBottom hS hD hI h0, t_holdsTop hS2 hD2 hI2 h02, t_holdsBottom hS2 hD2 hI2 h02, li_0, li_1, li_2, li_3, li_4, li_5, li_6, li_7, li_8, li_9, li_10, li_11, li_12, li_13, li_14, li_15, li_16, li_17, li_20, li_24, li_25, li_29, li_31, li_32, li_33, li_37, li_40, li_41, li_48, li_49, li_50, li_56, li_57, li_59, li_60, li_61, li_62, li_63, li_70, li_73, li_85, li_97, li_98, li_99, li_100, li_101, li_102, li_103, li_104, li_105, li_107, li_108, li_109, li_110, li_111, li_112, li_114, li_115, li_116, li_117, li_118, li_119, li_121, li_122, li_140, li_193, li_200, li_240, li_255, li_289, li_290, li_300, li_302, li_314, li_326, li_860, li_880, li_900, li_999, li_1024, li_2801, li_3440, li_3441, li_3442, li_3443, li_3444, li_3447, li_3448, li_3449, li_3457, li_3465, li_3469, li_3473, li_3477, li_3501, li_3513, li_3525, li_3537, li_3633, li_3730, li_3742, li_3754, li_3766, li_4095, li_4096, li_4300, li_9011, li_9999, li_10000, li_36864, li_65536, li_1000000, ll_0, ll_1, ll_100, ll_11, ll_16, ll_20, ll_3, ll_32, ll_50, ll_8, ll_96, ll_99, ll_9999, ne_m1, e_if, e_ret, e_rz0, e_rz1, e_rzb, e_call, bCallX_eq, nI_add, nI_mul, nI_succ1, le_i, lt_i, eq_i, m1_i, m1_le, m1_lt, m1_ge, m1_eq, ite_true, ite_false, if_true, if_false, lN_mul, lg_le0, pk_lLE m1 m2]
  exact ite_01 (by unfold rSf; simp)
def rHd (ρ : rR) : Nat := rHt ρ * 16 ^ (7 - rK ρ)
theorem rHd_b {ρ : rR} (hI : rI ρ) : rHd ρ < 2 ^ 63 := by
  obtain ⟨a1, a2, -, -⟩ := rHt_b hI
  have h3 : (16 : Nat) ^ (7 - rK ρ) ≤ 16 ^ 7 := Nat.pow_le_pow_right (by decide) (by omega)
  exact mul_b a2 (by have e : (16 : Nat) ^ 7 = 268435456 := by decide
                     omega)
theorem rHd_lt {ρ σ : rR} (hI : rI ρ) (hI2 : rI σ) : (rHd σ < rHd ρ) ↔ rSf ρ σ = true := by
  have h1 := hI.1
  have h2 := hI2.1
  have k1 : rK ρ ≤ 7 := by show rN ρ - 1 ≤ 7; omega
  have k2 : rK σ ≤ 7 := by show rN σ - 1 ≤ 7; omega
  unfold rSf
  rw [decide_eq_true_eq]
  unfold rHd rHb
  have hp : 0 < (16 : Nat) ^ (rK ρ + rK σ) := Nat.pow_pos (by decide)
  have h7 : 0 < (16 : Nat) ^ 7 := by decide
  have hA : (rHt σ * 16 ^ (7 - rK σ) * 16 ^ (rK ρ + rK σ) < rHt ρ * 16 ^ (7 - rK ρ) * 16 ^ (rK ρ + rK σ)) ↔ _ := Nat.mul_lt_mul_right hp
  have hB : (rHt σ * 16 ^ rK ρ * 16 ^ 7 < rHt ρ * 16 ^ rK σ * 16 ^ 7) ↔ _ := Nat.mul_lt_mul_right h7
  rw [← hA, ← hB]
  have e1 : rHt σ * 16 ^ (7 - rK σ) * 16 ^ (rK ρ + rK σ) = rHt σ * 16 ^ rK ρ * 16 ^ 7 := by
    rw [Nat.mul_assoc, ← Nat.pow_add, Nat.mul_assoc, ← Nat.pow_add]
    congr 2
    omega
  have e2 : rHt ρ * 16 ^ (7 - rK ρ) * 16 ^ (rK ρ + rK σ) = rHt ρ * 16 ^ rK σ * 16 ^ 7 := by
    rw [Nat.mul_assoc, ← Nat.pow_add, Nat.mul_assoc, ← Nat.pow_add]
    congr 2
    omega
  rw [e1, e2]
theorem x_holding {s : mS} {W : wW} (h : RX s W) {r : Nat} (hr : r < 12) (h0 : 0 < rN (wRo W r)) : fX9_holding 113 (nI r) s = some (lN (rHd (wRo W r)), s) := by
  have hI := h.ri r
  have h1 := hI.1
  have h2 := hI.2.2.1
  have hk : rK (wRo W r) ≤ 7 := by show rN (wRo W r) - 1 ≤ 7; omega
  unfold fX9_holding rHd rHt
  simp (disch := omega) only [r_c h, r_wa h, r_bo h, r_si h, r_ra h, r_rb h, r_yr h, r_dr h, r_pe h, r_fl h, r_pa h, r_di h, r_fr h, r_to h, r_by h, e_callV h.k, r_sl h hr h0, x_knotsOfRope h hr h0, li_0, li_1, li_2, li_3, li_4, li_5, li_6, li_7, li_8, li_9, li_10, li_11, li_12, li_13, li_14, li_15, li_16, li_17, li_20, li_24, li_25, li_29, li_31, li_32, li_33, li_37, li_40, li_41, li_48, li_49, li_50, li_56, li_57, li_59, li_60, li_61, li_62, li_63, li_70, li_73, li_85, li_97, li_98, li_99, li_100, li_101, li_102, li_103, li_104, li_105, li_107, li_108, li_109, li_110, li_111, li_112, li_114, li_115, li_116, li_117, li_118, li_119, li_121, li_122, li_140, li_193, li_200, li_240, li_255, li_289, li_290, li_300, li_302, li_314, li_326, li_860, li_880, li_900, li_999, li_1024, li_2801, li_3440, li_3441, li_3442, li_3443, li_3444, li_3447, li_3448, li_3449, li_3457, li_3465, li_3469, li_3473, li_3477, li_3501, li_3513, li_3525, li_3537, li_3633, li_3730, li_3742, li_3754, li_3766, li_4095, li_4096, li_4300, li_9011, li_9999, li_10000, li_36864, li_65536, li_1000000, ll_0, ll_1, ll_100, ll_11, ll_16, ll_20, ll_3, ll_32, ll_50, ll_8, ll_96, ll_99, ll_9999, ne_m1, e_if, e_ret, e_rz0, e_rz1, e_rzb, e_call, bCallX_eq, nI_add, nI_mul, nI_succ1, le_i, lt_i, eq_i, m1_i, m1_le, m1_lt, m1_ge, m1_eq, ite_true, ite_false, if_true, if_false, l_i, lN_sub, x_power, sub_i, lN_mul]
def beS (W : wW) (p : Nat) (r : Nat) (o : Option Nat) : Option Nat := if wSv W r p (wDe W) then (match o with | none => some r | some b => if rSf (wRo W r) (wRo W b) then some r else o) else o
def wBe (W : wW) (p : Nat) : Option Nat := it (beS W p) none 12
theorem sv_t {W : wW} {r p d : Nat} (h : wSv W r p d = true) : 0 < rN (wRo W r) ∧ rHo (wRo W r) = some p ∧ d ≤ rE (wRo W r) := by
  unfold wSv at h
  rw [Bool.and_eq_true, Bool.and_eq_true, decide_eq_true_eq, decide_eq_true_eq] at h
  exact ⟨rT_p h.1, h.2.1, h.2.2⟩
theorem be_lt (W : wW) (p : Nat) : ∀ n b, it (beS W p) none n = some b → b < n ∧ 0 < rN (wRo W b)
  | 0, b, h => by cases h
  | n + 1, b, h => by
    have ih := be_lt W p n
    rw [it_s] at h
    generalize it (beS W p) none n = o at h ih
    unfold beS at h
    split at h
    · rename_i hc
      have h0 := (sv_t hc).1
      cases o with
      | none => cases h; exact ⟨by omega, h0⟩
      | some c =>
        dsimp only at h
        split at h
        · cases h; exact ⟨by omega, h0⟩
        · have := ih b h; exact ⟨by omega, this.2⟩
    · have := ih b h; exact ⟨by omega, this.2⟩
theorem be_some {W : wW} {p : Nat} (hd : wDk W p = true) : ∃ b, wBe W p = some b := by
  have key : ∀ n, ex (fun r => wSv W r p (wDe W)) n = true → ∃ b, it (beS W p) none n = some b := by
    intro n
    induction n with
    | zero => intro h; cases h
    | succ n ih =>
      intro h
      unfold ex at h ih
      rw [it_s, Bool.or_eq_true] at h
      rw [it_s]
      generalize hz : it (beS W p) none n = o at ih
      unfold beS
      by_cases h1 : wSv W n p (wDe W) = true
      · rw [if_pos h1]
        cases o with
        | none => exact ⟨n, rfl⟩
        | some c =>
          dsimp only
          split
          · exact ⟨_, rfl⟩
          · exact ⟨_, rfl⟩
      · rw [if_neg h1]
        rcases h with h | h
        · exact ih h
        · exact absurd h h1
  unfold wDk at hd
  rw [Bool.and_eq_true, Bool.and_eq_true] at hd
  exact key 12 hd.2.2
theorem s_best (x : Int32) : Sim (fX8_best 1 x) (fX9_best 113 x) := by
  refine Sim.rd fun s t D hC hR hD => ?_
  have hS := hC.1
  have h : CW s 4 (dW D) := hC.2.2.2.2.1
  have u : RX (q0 t) (dW D) := (hR.q0 hD).1
  have hT := hR.1.1
  obtain ⟨W, hW⟩ : ∃ W, W = dW D := ⟨_, rfl⟩
  rw [← hW] at h u
  have i8 := h.wi.2.2.2.2.2.2.2.1
  unfold fX8_best fX9_best
  rw [q0_b hT]
  have hde := wDe_le h.wi
  rcases prs W x with ⟨p, hp, rfl⟩ | hx
  · by_cases hd : wDk W p = true
    · obtain ⟨b, hb⟩ := be_some hd
      have hb12 := (be_lt W p 12 b hb).1
      have hc : fX8_best_45 fu 1 (nI p) mI (nI (wDe W)) (nI 0) s = fX8_best_105 1 (oI (wBe W p)) s := by
        refine loop_n (fun n k => fX8_best_45 n 1 (nI p) (oI (it (beS W p) none k)) (nI (wDe W)) (nI k) s) _ 12 ?_ ?_ fu 0 (by omega) (by unfold fu; omega)
        · intro n k hk
          have hk' : ¬ 12 ≤ k := by omega
          have hlt := be_lt W p k
          show fX8_best_45 (n + 1) 1 _ _ _ _ s = _
          rw [qX8_best_45, it_s]
          unfold fX8_best_96
          generalize it (beS W p) none k = o at hlt ⊢
          simp (disch := omega) only [k_now hS, k_cv hS, k_tell hS, k_none hS, k_refuse hS, k_accept hS, k_tellIf0 hS, k_tellIf1 hS, n10, e_callV h.k, c_servesFrom h hk (show p < 8 by omega) (show wDe W < 2147483648 by omega), li_0, li_1, li_2, li_3, li_4, li_5, li_6, li_7, li_8, li_9, li_10, li_11, li_12, li_13, li_14, li_15, li_16, li_17, li_20, li_24, li_25, li_29, li_31, li_32, li_33, li_37, li_40, li_41, li_48, li_49, li_50, li_56, li_57, li_59, li_60, li_61, li_62, li_63, li_70, li_73, li_85, li_97, li_98, li_99, li_100, li_101, li_102, li_103, li_104, li_105, li_107, li_108, li_109, li_110, li_111, li_112, li_114, li_115, li_116, li_117, li_118, li_119, li_121, li_122, li_140, li_193, li_200, li_240, li_255, li_289, li_290, li_300, li_302, li_314, li_326, li_860, li_880, li_900, li_999, li_1024, li_2801, li_3440, li_3441, li_3442, li_3443, li_3444, li_3447, li_3448, li_3449, li_3457, li_3465, li_3469, li_3473, li_3477, li_3501, li_3513, li_3525, li_3537, li_3633, li_3730, li_3742, li_3754, li_3766, li_4095, li_4096, li_4300, li_9011, li_9999, li_10000, li_36864, li_65536, li_1000000, ll_0, ll_1, ll_100, ll_11, ll_16, ll_20, ll_3, ll_32, ll_50, ll_8, ll_96, ll_99, ll_9999, ne_m1, e_if, e_ret, e_rz0, e_rz1, e_rzb, e_call, bCallX_eq, nI_add, nI_mul, nI_succ1, le_i, lt_i, eq_i, m1_i, m1_le, m1_lt, m1_ge, m1_eq, ite_true, ite_false, if_true, if_false, hk', bt0]
          unfold beS
          by_cases h1 : wSv W k p (wDe W) = true
          · obtain ⟨h0, -, -⟩ := sv_t h1
            cases o with
            | none => simp (disch := omega) only [h1, Bool.true_eq_false, if_true, if_false, oI_n, oI_s, e_if, m1_eq]
            | some c =>
              obtain ⟨hc1, hc2⟩ := hlt c rfl
              simp (disch := omega) only [h1, Bool.true_eq_false, if_true, if_false, oI_s, li_0, li_1, li_2, li_3, li_4, li_5, li_6, li_7, li_8, li_9, li_10, li_11, li_12, li_13, li_14, li_15, li_16, li_17, li_20, li_24, li_25, li_29, li_31, li_32, li_33, li_37, li_40, li_41, li_48, li_49, li_50, li_56, li_57, li_59, li_60, li_61, li_62, li_63, li_70, li_73, li_85, li_97, li_98, li_99, li_100, li_101, li_102, li_103, li_104, li_105, li_107, li_108, li_109, li_110, li_111, li_112, li_114, li_115, li_116, li_117, li_118, li_119, li_121, li_122, li_140, li_193, li_200, li_240, li_255, li_289, li_290, li_300, li_302, li_314, li_326, li_860, li_880, li_900, li_999, li_1024, li_2801, li_3440, li_3441, li_3442, li_3443, li_3444, li_3447, li_3448, li_3449, li_3457, li_3465, li_3469, li_3473, li_3477, li_3501, li_3513, li_3525, li_3537, li_3633, li_3730, li_3742, li_3754, li_3766, li_4095, li_4096, li_4300, li_9011, li_9999, li_10000, li_36864, li_65536, li_1000000, ll_0, ll_1, ll_100, ll_11, ll_16, ll_20, ll_3, ll_32, ll_50, ll_8, ll_96, ll_99, ll_9999, ne_m1, e_if, e_ret, e_rz0, e_rz1, e_rzb, e_call, bCallX_eq, nI_add, nI_mul, nI_succ1, le_i, lt_i, eq_i, m1_i, m1_le, m1_lt, m1_ge, m1_eq, ite_true, ite_false, if_true, if_false, k_now hS, k_cv hS, k_tell hS, k_none hS, k_refuse hS, k_accept hS, k_tellIf0 hS, k_tellIf1 hS, n10, g_aro h, g_ro h, e_callV (h.rs hk).1, t_isSaferThan (h.rs hk) (h.rd hk) (h.ri k) h0 (h.rs (show c < 12 by omega)) (h.rd (show c < 12 by omega)) (h.ri c) hc2, bt0]
              cases rSf (wRo W k) (wRo W c) <;> rfl
          · have h1 : wSv W k p (wDe W) = false := by simpa using h1
            simp [h1]
        · intro n
          show fX8_best_45 (n + 1) 1 _ _ _ _ s = _
          rw [qX8_best_45]
          simp (disch := omega) only [li_0, li_1, li_2, li_3, li_4, li_5, li_6, li_7, li_8, li_9, li_10, li_11, li_12, li_13, li_14, li_15, li_16, li_17, li_20, li_24, li_25, li_29, li_31, li_32, li_33, li_37, li_40, li_41, li_48, li_49, li_50, li_56, li_57, li_59, li_60, li_61, li_62, li_63, li_70, li_73, li_85, li_97, li_98, li_99, li_100, li_101, li_102, li_103, li_104, li_105, li_107, li_108, li_109, li_110, li_111, li_112, li_114, li_115, li_116, li_117, li_118, li_119, li_121, li_122, li_140, li_193, li_200, li_240, li_255, li_289, li_290, li_300, li_302, li_314, li_326, li_860, li_880, li_900, li_999, li_1024, li_2801, li_3440, li_3441, li_3442, li_3443, li_3444, li_3447, li_3448, li_3449, li_3457, li_3465, li_3469, li_3473, li_3477, li_3501, li_3513, li_3525, li_3537, li_3633, li_3730, li_3742, li_3754, li_3766, li_4095, li_4096, li_4300, li_9011, li_9999, li_10000, li_36864, li_65536, li_1000000, ll_0, ll_1, ll_100, ll_11, ll_16, ll_20, ll_3, ll_32, ll_50, ll_8, ll_96, ll_99, ll_9999, ne_m1, e_if, e_ret, e_rz0, e_rz1, e_rzb, e_call, bCallX_eq, nI_add, nI_mul, nI_succ1, le_i, lt_i, eq_i, m1_i, m1_le, m1_lt, m1_ge, m1_eq, ite_true, ite_false, if_true, if_false, Nat.le_refl]
          rfl
      have hr : fX9_best_43 fu 113 (nI p) mI (nI 0) (q0 t) = some (oI (wBe W p), q0 t) := by
        refine loop_n (fun n k => fX9_best_43 n 113 (nI p) (oI (it (beS W p) none k)) (nI k) (q0 t)) _ 12 ?_ ?_ fu 0 (by omega) (by unfold fu; omega)
        · intro n k hk
          have hk' : ¬ 12 ≤ k := by omega
          have hlt := be_lt W p k
          show fX9_best_43 (n + 1) 113 _ _ _ (q0 t) = _
          rw [qX9_best_43, it_s]
          unfold fX9_best_84
          generalize it (beS W p) none k = o at hlt ⊢
          simp (disch := omega) only [r_c u, r_wa u, r_bo u, r_si u, r_ra u, r_rb u, r_yr u, r_dr u, r_pe u, r_fl u, r_pa u, r_di u, r_fr u, r_to u, r_by u, e_callV u.k, q_refuse u.1, q_no u.1, n10, x_isHeld u hk (show p < 8 by omega), li_0, li_1, li_2, li_3, li_4, li_5, li_6, li_7, li_8, li_9, li_10, li_11, li_12, li_13, li_14, li_15, li_16, li_17, li_20, li_24, li_25, li_29, li_31, li_32, li_33, li_37, li_40, li_41, li_48, li_49, li_50, li_56, li_57, li_59, li_60, li_61, li_62, li_63, li_70, li_73, li_85, li_97, li_98, li_99, li_100, li_101, li_102, li_103, li_104, li_105, li_107, li_108, li_109, li_110, li_111, li_112, li_114, li_115, li_116, li_117, li_118, li_119, li_121, li_122, li_140, li_193, li_200, li_240, li_255, li_289, li_290, li_300, li_302, li_314, li_326, li_860, li_880, li_900, li_999, li_1024, li_2801, li_3440, li_3441, li_3442, li_3443, li_3444, li_3447, li_3448, li_3449, li_3457, li_3465, li_3469, li_3473, li_3477, li_3501, li_3513, li_3525, li_3537, li_3633, li_3730, li_3742, li_3754, li_3766, li_4095, li_4096, li_4300, li_9011, li_9999, li_10000, li_36864, li_65536, li_1000000, ll_0, ll_1, ll_100, ll_11, ll_16, ll_20, ll_3, ll_32, ll_50, ll_8, ll_96, ll_99, ll_9999, ne_m1, e_if, e_ret, e_rz0, e_rz1, e_rzb, e_call, bCallX_eq, nI_add, nI_mul, nI_succ1, le_i, lt_i, eq_i, m1_i, m1_le, m1_lt, m1_ge, m1_eq, ite_true, ite_false, if_true, if_false, hk', bt0]
          have hv : wSv W k p (wDe W) = ((rT (wRo W k) && decide (rHo (wRo W k) = some p)) && decide (wDe W ≤ rE (wRo W k))) := by
            unfold wSv; rw [Bool.and_assoc]
          unfold beS
          rw [hv]
          by_cases h4 : (rT (wRo W k) && decide (rHo (wRo W k) = some p)) = true
          · have h0 := rT_p (Bool.and_eq_true _ _ ▸ h4).1
            simp (disch := omega) only [r_c u, r_wa u, r_bo u, r_si u, r_ra u, r_rb u, r_yr u, r_dr u, r_pe u, r_fl u, r_pa u, r_di u, r_fr u, r_to u, r_by u, e_callV u.k, q_refuse u.1, q_no u.1, n10, h4, x_reaches u hk h0, li_0, li_1, li_2, li_3, li_4, li_5, li_6, li_7, li_8, li_9, li_10, li_11, li_12, li_13, li_14, li_15, li_16, li_17, li_20, li_24, li_25, li_29, li_31, li_32, li_33, li_37, li_40, li_41, li_48, li_49, li_50, li_56, li_57, li_59, li_60, li_61, li_62, li_63, li_70, li_73, li_85, li_97, li_98, li_99, li_100, li_101, li_102, li_103, li_104, li_105, li_107, li_108, li_109, li_110, li_111, li_112, li_114, li_115, li_116, li_117, li_118, li_119, li_121, li_122, li_140, li_193, li_200, li_240, li_255, li_289, li_290, li_300, li_302, li_314, li_326, li_860, li_880, li_900, li_999, li_1024, li_2801, li_3440, li_3441, li_3442, li_3443, li_3444, li_3447, li_3448, li_3449, li_3457, li_3465, li_3469, li_3473, li_3477, li_3501, li_3513, li_3525, li_3537, li_3633, li_3730, li_3742, li_3754, li_3766, li_4095, li_4096, li_4300, li_9011, li_9999, li_10000, li_36864, li_65536, li_1000000, ll_0, ll_1, ll_100, ll_11, ll_16, ll_20, ll_3, ll_32, ll_50, ll_8, ll_96, ll_99, ll_9999, ne_m1, e_if, e_ret, e_rz0, e_rz1, e_rzb, e_call, bCallX_eq, nI_add, nI_mul, nI_succ1, le_i, lt_i, eq_i, m1_i, m1_le, m1_lt, m1_ge, m1_eq, ite_true, ite_false, if_true, if_false, bt0, Bool.true_eq_false, Bool.true_and]
            by_cases h5 : wDe W ≤ rE (wRo W k)
            · cases o with
              | none => simp (disch := omega) only [h5, decide_true, Bool.true_eq_false, if_true, if_false, oI_n, oI_s, e_if, m1_lt]
              | some c =>
                obtain ⟨hc1, hc2⟩ := hlt c rfl
                have e1 := rHd_lt (u.ri k) (u.ri c)
                simp (disch := omega) only [h5, decide_true, Bool.true_eq_false, if_true, if_false, oI_s, li_0, li_1, li_2, li_3, li_4, li_5, li_6, li_7, li_8, li_9, li_10, li_11, li_12, li_13, li_14, li_15, li_16, li_17, li_20, li_24, li_25, li_29, li_31, li_32, li_33, li_37, li_40, li_41, li_48, li_49, li_50, li_56, li_57, li_59, li_60, li_61, li_62, li_63, li_70, li_73, li_85, li_97, li_98, li_99, li_100, li_101, li_102, li_103, li_104, li_105, li_107, li_108, li_109, li_110, li_111, li_112, li_114, li_115, li_116, li_117, li_118, li_119, li_121, li_122, li_140, li_193, li_200, li_240, li_255, li_289, li_290, li_300, li_302, li_314, li_326, li_860, li_880, li_900, li_999, li_1024, li_2801, li_3440, li_3441, li_3442, li_3443, li_3444, li_3447, li_3448, li_3449, li_3457, li_3465, li_3469, li_3473, li_3477, li_3501, li_3513, li_3525, li_3537, li_3633, li_3730, li_3742, li_3754, li_3766, li_4095, li_4096, li_4300, li_9011, li_9999, li_10000, li_36864, li_65536, li_1000000, ll_0, ll_1, ll_100, ll_11, ll_16, ll_20, ll_3, ll_32, ll_50, ll_8, ll_96, ll_99, ll_9999, ne_m1, e_if, e_ret, e_rz0, e_rz1, e_rzb, e_call, bCallX_eq, nI_add, nI_mul, nI_succ1, le_i, lt_i, eq_i, m1_i, m1_le, m1_lt, m1_ge, m1_eq, ite_true, ite_false, if_true, if_false, Nat.not_lt_zero, r_c u, r_wa u, r_bo u, r_si u, r_ra u, r_rb u, r_yr u, r_dr u, r_pe u, r_fl u, r_pa u, r_di u, r_fr u, r_to u, r_by u, e_callV u.k, q_refuse u.1, q_no u.1, n10, x_holding u hk h0, x_holding u (show c < 12 by omega) hc2, lg_le0, pk_lLE (rHd_b (u.ri k)) (rHd_b (u.ri c))]
                by_cases h6 : rSf (wRo W k) (wRo W c) = true
                · rw [if_neg (by have := e1.mpr h6; omega)]; simp only [h6, if_true, oI_s]
                · rw [if_pos (Nat.le_of_not_lt (fun h => h6 (e1.mp h)))]; simp only [h6, if_false, oI_s, Bool.false_eq_true]
            · simp [h5]
          · have h4 : (rT (wRo W k) && decide (rHo (wRo W k) = some p)) = false := by simpa using h4
            simp [h4]
        · intro n
          show fX9_best_43 (n + 1) 113 _ _ _ (q0 t) = _
          rw [qX9_best_43]
          simp (disch := omega) only [li_0, li_1, li_2, li_3, li_4, li_5, li_6, li_7, li_8, li_9, li_10, li_11, li_12, li_13, li_14, li_15, li_16, li_17, li_20, li_24, li_25, li_29, li_31, li_32, li_33, li_37, li_40, li_41, li_48, li_49, li_50, li_56, li_57, li_59, li_60, li_61, li_62, li_63, li_70, li_73, li_85, li_97, li_98, li_99, li_100, li_101, li_102, li_103, li_104, li_105, li_107, li_108, li_109, li_110, li_111, li_112, li_114, li_115, li_116, li_117, li_118, li_119, li_121, li_122, li_140, li_193, li_200, li_240, li_255, li_289, li_290, li_300, li_302, li_314, li_326, li_860, li_880, li_900, li_999, li_1024, li_2801, li_3440, li_3441, li_3442, li_3443, li_3444, li_3447, li_3448, li_3449, li_3457, li_3465, li_3469, li_3473, li_3477, li_3501, li_3513, li_3525, li_3537, li_3633, li_3730, li_3742, li_3754, li_3766, li_4095, li_4096, li_4300, li_9011, li_9999, li_10000, li_36864, li_65536, li_1000000, ll_0, ll_1, ll_100, ll_11, ll_16, ll_20, ll_3, ll_32, ll_50, ll_8, ll_96, ll_99, ll_9999, ne_m1, e_if, e_ret, e_rz0, e_rz1, e_rzb, e_call, bCallX_eq, nI_add, nI_mul, nI_succ1, le_i, lt_i, eq_i, m1_i, m1_le, m1_lt, m1_ge, m1_eq, ite_true, ite_false, if_true, if_false, Nat.le_refl]
          rfl
      refine ⟨nI b, 0, by decide, ?_, Or.inr ⟨rfl, ?_⟩⟩
      · simp (disch := omega) only [k_now hS, k_cv hS, k_tell hS, k_none hS, k_refuse hS, k_accept hS, k_tellIf0 hS, k_tellIf1 hS, n10, r_c u, r_wa u, r_bo u, r_si u, r_ra u, r_rb u, r_yr u, r_dr u, r_pe u, r_fl u, r_pa u, r_di u, r_fr u, r_to u, r_by u, e_callV u.k, q_refuse u.1, q_no u.1, n10, g_yr h, g_wa h, g_bo h, g_si h, g_ra h, g_rb h, g_dr h, g_pe h, g_fl h, g_apa h, g_adi h, g_aro h, g_afr h, g_ato h, g_aby h, g_afc h, g_pa h, g_di h, g_ro h, g_fr h, g_to h, g_by h, e_callV h.k, li_0, li_1, li_2, li_3, li_4, li_5, li_6, li_7, li_8, li_9, li_10, li_11, li_12, li_13, li_14, li_15, li_16, li_17, li_20, li_24, li_25, li_29, li_31, li_32, li_33, li_37, li_40, li_41, li_48, li_49, li_50, li_56, li_57, li_59, li_60, li_61, li_62, li_63, li_70, li_73, li_85, li_97, li_98, li_99, li_100, li_101, li_102, li_103, li_104, li_105, li_107, li_108, li_109, li_110, li_111, li_112, li_114, li_115, li_116, li_117, li_118, li_119, li_121, li_122, li_140, li_193, li_200, li_240, li_255, li_289, li_290, li_300, li_302, li_314, li_326, li_860, li_880, li_900, li_999, li_1024, li_2801, li_3440, li_3441, li_3442, li_3443, li_3444, li_3447, li_3448, li_3449, li_3457, li_3465, li_3469, li_3473, li_3477, li_3501, li_3513, li_3525, li_3537, li_3633, li_3730, li_3742, li_3754, li_3766, li_4095, li_4096, li_4300, li_9011, li_9999, li_10000, li_36864, li_65536, li_1000000, ll_0, ll_1, ll_100, ll_11, ll_16, ll_20, ll_3, ll_32, ll_50, ll_8, ll_96, ll_99, ll_9999, ne_m1, e_if, e_ret, e_rz0, e_rz1, e_rzb, e_call, bCallX_eq, nI_add, nI_mul, nI_succ1, le_i, lt_i, eq_i, m1_i, m1_le, m1_lt, m1_ge, m1_eq, ite_true, ite_false, if_true, if_false, Nat.zero_le, true_and, and_true, and_false, false_and, decide_true, decide_false, Bool.toNat_true, Bool.toNat_false, Nat.not_lt_zero, oI_g0, n10, x_in, l_i, sub_i, k_isPerson hS h hp, c_isDrinking h hp, c_depthNow h, hd, Bool.true_eq_false, bt0]
        rw [hc, hb]
        unfold fX8_best_105 fX8_best_116
        simp (disch := omega) only [k_now hS, k_cv hS, k_tell hS, k_none hS, k_refuse hS, k_accept hS, k_tellIf0 hS, k_tellIf1 hS, n10, r_c u, r_wa u, r_bo u, r_si u, r_ra u, r_rb u, r_yr u, r_dr u, r_pe u, r_fl u, r_pa u, r_di u, r_fr u, r_to u, r_by u, e_callV u.k, q_refuse u.1, q_no u.1, n10, g_yr h, g_wa h, g_bo h, g_si h, g_ra h, g_rb h, g_dr h, g_pe h, g_fl h, g_apa h, g_adi h, g_aro h, g_afr h, g_ato h, g_aby h, g_afc h, g_pa h, g_di h, g_ro h, g_fr h, g_to h, g_by h, e_callV h.k, li_0, li_1, li_2, li_3, li_4, li_5, li_6, li_7, li_8, li_9, li_10, li_11, li_12, li_13, li_14, li_15, li_16, li_17, li_20, li_24, li_25, li_29, li_31, li_32, li_33, li_37, li_40, li_41, li_48, li_49, li_50, li_56, li_57, li_59, li_60, li_61, li_62, li_63, li_70, li_73, li_85, li_97, li_98, li_99, li_100, li_101, li_102, li_103, li_104, li_105, li_107, li_108, li_109, li_110, li_111, li_112, li_114, li_115, li_116, li_117, li_118, li_119, li_121, li_122, li_140, li_193, li_200, li_240, li_255, li_289, li_290, li_300, li_302, li_314, li_326, li_860, li_880, li_900, li_999, li_1024, li_2801, li_3440, li_3441, li_3442, li_3443, li_3444, li_3447, li_3448, li_3449, li_3457, li_3465, li_3469, li_3473, li_3477, li_3501, li_3513, li_3525, li_3537, li_3633, li_3730, li_3742, li_3754, li_3766, li_4095, li_4096, li_4300, li_9011, li_9999, li_10000, li_36864, li_65536, li_1000000, ll_0, ll_1, ll_100, ll_11, ll_16, ll_20, ll_3, ll_32, ll_50, ll_8, ll_96, ll_99, ll_9999, ne_m1, e_if, e_ret, e_rz0, e_rz1, e_rzb, e_call, bCallX_eq, nI_add, nI_mul, nI_succ1, le_i, lt_i, eq_i, m1_i, m1_le, m1_lt, m1_ge, m1_eq, ite_true, ite_false, if_true, if_false, Nat.zero_le, true_and, and_true, and_false, false_and, decide_true, decide_false, Bool.toNat_true, Bool.toNat_false, Nat.not_lt_zero, oI_g0, n10, x_in, l_i, sub_i, oI_s]
      · simp (disch := omega) only [k_now hS, k_cv hS, k_tell hS, k_none hS, k_refuse hS, k_accept hS, k_tellIf0 hS, k_tellIf1 hS, n10, r_c u, r_wa u, r_bo u, r_si u, r_ra u, r_rb u, r_yr u, r_dr u, r_pe u, r_fl u, r_pa u, r_di u, r_fr u, r_to u, r_by u, e_callV u.k, q_refuse u.1, q_no u.1, n10, g_yr h, g_wa h, g_bo h, g_si h, g_ra h, g_rb h, g_dr h, g_pe h, g_fl h, g_apa h, g_adi h, g_aro h, g_afr h, g_ato h, g_aby h, g_afc h, g_pa h, g_di h, g_ro h, g_fr h, g_to h, g_by h, e_callV h.k, li_0, li_1, li_2, li_3, li_4, li_5, li_6, li_7, li_8, li_9, li_10, li_11, li_12, li_13, li_14, li_15, li_16, li_17, li_20, li_24, li_25, li_29, li_31, li_32, li_33, li_37, li_40, li_41, li_48, li_49, li_50, li_56, li_57, li_59, li_60, li_61, li_62, li_63, li_70, li_73, li_85, li_97, li_98, li_99, li_100, li_101, li_102, li_103, li_104, li_105, li_107, li_108, li_109, li_110, li_111, li_112, li_114, li_115, li_116, li_117, li_118, li_119, li_121, li_122, li_140, li_193, li_200, li_240, li_255, li_289, li_290, li_300, li_302, li_314, li_326, li_860, li_880, li_900, li_999, li_1024, li_2801, li_3440, li_3441, li_3442, li_3443, li_3444, li_3447, li_3448, li_3449, li_3457, li_3465, li_3469, li_3473, li_3477, li_3501, li_3513, li_3525, li_3537, li_3633, li_3730, li_3742, li_3754, li_3766, li_4095, li_4096, li_4300, li_9011, li_9999, li_10000, li_36864, li_65536, li_1000000, ll_0, ll_1, ll_100, ll_11, ll_16, ll_20, ll_3, ll_32, ll_50, ll_8, ll_96, ll_99, ll_9999, ne_m1, e_if, e_ret, e_rz0, e_rz1, e_rzb, e_call, bCallX_eq, nI_add, nI_mul, nI_succ1, le_i, lt_i, eq_i, m1_i, m1_le, m1_lt, m1_ge, m1_eq, ite_true, ite_false, if_true, if_false, Nat.zero_le, true_and, and_true, and_false, false_and, decide_true, decide_false, Bool.toNat_true, Bool.toNat_false, Nat.not_lt_zero, oI_g0, n10, x_in, l_i, sub_i, q_isPerson u hp, x_isDrinking u hp, hd, Bool.true_eq_false, bt0]
        rw [hr, hb]
        rfl
    · have hd : wDk W p = false := by simpa using hd
      refine ⟨mI, 8, by decide, ?_, Or.inl ?_⟩
      · simp (disch := omega) only [k_now hS, k_cv hS, k_tell hS, k_none hS, k_refuse hS, k_accept hS, k_tellIf0 hS, k_tellIf1 hS, n10, r_c u, r_wa u, r_bo u, r_si u, r_ra u, r_rb u, r_yr u, r_dr u, r_pe u, r_fl u, r_pa u, r_di u, r_fr u, r_to u, r_by u, e_callV u.k, q_refuse u.1, q_no u.1, n10, g_yr h, g_wa h, g_bo h, g_si h, g_ra h, g_rb h, g_dr h, g_pe h, g_fl h, g_apa h, g_adi h, g_aro h, g_afr h, g_ato h, g_aby h, g_afc h, g_pa h, g_di h, g_ro h, g_fr h, g_to h, g_by h, e_callV h.k, li_0, li_1, li_2, li_3, li_4, li_5, li_6, li_7, li_8, li_9, li_10, li_11, li_12, li_13, li_14, li_15, li_16, li_17, li_20, li_24, li_25, li_29, li_31, li_32, li_33, li_37, li_40, li_41, li_48, li_49, li_50, li_56, li_57, li_59, li_60, li_61, li_62, li_63, li_70, li_73, li_85, li_97, li_98, li_99, li_100, li_101, li_102, li_103, li_104, li_105, li_107, li_108, li_109, li_110, li_111, li_112, li_114, li_115, li_116, li_117, li_118, li_119, li_121, li_122, li_140, li_193, li_200, li_240, li_255, li_289, li_290, li_300, li_302, li_314, li_326, li_860, li_880, li_900, li_999, li_1024, li_2801, li_3440, li_3441, li_3442, li_3443, li_3444, li_3447, li_3448, li_3449, li_3457, li_3465, li_3469, li_3473, li_3477, li_3501, li_3513, li_3525, li_3537, li_3633, li_3730, li_3742, li_3754, li_3766, li_4095, li_4096, li_4300, li_9011, li_9999, li_10000, li_36864, li_65536, li_1000000, ll_0, ll_1, ll_100, ll_11, ll_16, ll_20, ll_3, ll_32, ll_50, ll_8, ll_96, ll_99, ll_9999, ne_m1, e_if, e_ret, e_rz0, e_rz1, e_rzb, e_call, bCallX_eq, nI_add, nI_mul, nI_succ1, le_i, lt_i, eq_i, m1_i, m1_le, m1_lt, m1_ge, m1_eq, ite_true, ite_false, if_true, if_false, Nat.zero_le, true_and, and_true, and_false, false_and, decide_true, decide_false, Bool.toNat_true, Bool.toNat_false, Nat.not_lt_zero, oI_g0, n10, x_in, l_i, sub_i, k_isPerson hS h hp, c_isDrinking h hp, hd, bt0]
      · simp (disch := omega) only [k_now hS, k_cv hS, k_tell hS, k_none hS, k_refuse hS, k_accept hS, k_tellIf0 hS, k_tellIf1 hS, n10, r_c u, r_wa u, r_bo u, r_si u, r_ra u, r_rb u, r_yr u, r_dr u, r_pe u, r_fl u, r_pa u, r_di u, r_fr u, r_to u, r_by u, e_callV u.k, q_refuse u.1, q_no u.1, n10, g_yr h, g_wa h, g_bo h, g_si h, g_ra h, g_rb h, g_dr h, g_pe h, g_fl h, g_apa h, g_adi h, g_aro h, g_afr h, g_ato h, g_aby h, g_afc h, g_pa h, g_di h, g_ro h, g_fr h, g_to h, g_by h, e_callV h.k, li_0, li_1, li_2, li_3, li_4, li_5, li_6, li_7, li_8, li_9, li_10, li_11, li_12, li_13, li_14, li_15, li_16, li_17, li_20, li_24, li_25, li_29, li_31, li_32, li_33, li_37, li_40, li_41, li_48, li_49, li_50, li_56, li_57, li_59, li_60, li_61, li_62, li_63, li_70, li_73, li_85, li_97, li_98, li_99, li_100, li_101, li_102, li_103, li_104, li_105, li_107, li_108, li_109, li_110, li_111, li_112, li_114, li_115, li_116, li_117, li_118, li_119, li_121, li_122, li_140, li_193, li_200, li_240, li_255, li_289, li_290, li_300, li_302, li_314, li_326, li_860, li_880, li_900, li_999, li_1024, li_2801, li_3440, li_3441, li_3442, li_3443, li_3444, li_3447, li_3448, li_3449, li_3457, li_3465, li_3469, li_3473, li_3477, li_3501, li_3513, li_3525, li_3537, li_3633, li_3730, li_3742, li_3754, li_3766, li_4095, li_4096, li_4300, li_9011, li_9999, li_10000, li_36864, li_65536, li_1000000, ll_0, ll_1, ll_100, ll_11, ll_16, ll_20, ll_3, ll_32, ll_50, ll_8, ll_96, ll_99, ll_9999, ne_m1, e_if, e_ret, e_rz0, e_rz1, e_rzb, e_call, bCallX_eq, nI_add, nI_mul, nI_succ1, le_i, lt_i, eq_i, m1_i, m1_le, m1_lt, m1_ge, m1_eq, ite_true, ite_false, if_true, if_false, Nat.zero_le, true_and, and_true, and_false, false_and, decide_true, decide_false, Bool.toNat_true, Bool.toNat_false, Nat.not_lt_zero, oI_g0, n10, x_in, l_i, sub_i, q_isPerson u hp, x_isDrinking u hp, hd, bt0]
  · refine ⟨mI, 2, by decide, ?_, Or.inl ?_⟩
    · simp (disch := omega) only [k_now hS, k_cv hS, k_tell hS, k_none hS, k_refuse hS, k_accept hS, k_tellIf0 hS, k_tellIf1 hS, n10, r_c u, r_wa u, r_bo u, r_si u, r_ra u, r_rb u, r_yr u, r_dr u, r_pe u, r_fl u, r_pa u, r_di u, r_fr u, r_to u, r_by u, e_callV u.k, q_refuse u.1, q_no u.1, n10, g_yr h, g_wa h, g_bo h, g_si h, g_ra h, g_rb h, g_dr h, g_pe h, g_fl h, g_apa h, g_adi h, g_aro h, g_afr h, g_ato h, g_aby h, g_afc h, g_pa h, g_di h, g_ro h, g_fr h, g_to h, g_by h, e_callV h.k, li_0, li_1, li_2, li_3, li_4, li_5, li_6, li_7, li_8, li_9, li_10, li_11, li_12, li_13, li_14, li_15, li_16, li_17, li_20, li_24, li_25, li_29, li_31, li_32, li_33, li_37, li_40, li_41, li_48, li_49, li_50, li_56, li_57, li_59, li_60, li_61, li_62, li_63, li_70, li_73, li_85, li_97, li_98, li_99, li_100, li_101, li_102, li_103, li_104, li_105, li_107, li_108, li_109, li_110, li_111, li_112, li_114, li_115, li_116, li_117, li_118, li_119, li_121, li_122, li_140, li_193, li_200, li_240, li_255, li_289, li_290, li_300, li_302, li_314, li_326, li_860, li_880, li_900, li_999, li_1024, li_2801, li_3440, li_3441, li_3442, li_3443, li_3444, li_3447, li_3448, li_3449, li_3457, li_3465, li_3469, li_3473, li_3477, li_3501, li_3513, li_3525, li_3537, li_3633, li_3730, li_3742, li_3754, li_3766, li_4095, li_4096, li_4300, li_9011, li_9999, li_10000, li_36864, li_65536, li_1000000, ll_0, ll_1, ll_100, ll_11, ll_16, ll_20, ll_3, ll_32, ll_50, ll_8, ll_96, ll_99, ll_9999, ne_m1, e_if, e_ret, e_rz0, e_rz1, e_rzb, e_call, bCallX_eq, nI_add, nI_mul, nI_succ1, le_i, lt_i, eq_i, m1_i, m1_le, m1_lt, m1_ge, m1_eq, ite_true, ite_false, if_true, if_false, Nat.zero_le, true_and, and_true, and_false, false_and, decide_true, decide_false, Bool.toNat_true, Bool.toNat_false, Nat.not_lt_zero, oI_g0, n10, x_in, l_i, sub_i, k_noPerson hS h hx]
    · simp (disch := omega) only [k_now hS, k_cv hS, k_tell hS, k_none hS, k_refuse hS, k_accept hS, k_tellIf0 hS, k_tellIf1 hS, n10, r_c u, r_wa u, r_bo u, r_si u, r_ra u, r_rb u, r_yr u, r_dr u, r_pe u, r_fl u, r_pa u, r_di u, r_fr u, r_to u, r_by u, e_callV u.k, q_refuse u.1, q_no u.1, n10, g_yr h, g_wa h, g_bo h, g_si h, g_ra h, g_rb h, g_dr h, g_pe h, g_fl h, g_apa h, g_adi h, g_aro h, g_afr h, g_ato h, g_aby h, g_afc h, g_pa h, g_di h, g_ro h, g_fr h, g_to h, g_by h, e_callV h.k, li_0, li_1, li_2, li_3, li_4, li_5, li_6, li_7, li_8, li_9, li_10, li_11, li_12, li_13, li_14, li_15, li_16, li_17, li_20, li_24, li_25, li_29, li_31, li_32, li_33, li_37, li_40, li_41, li_48, li_49, li_50, li_56, li_57, li_59, li_60, li_61, li_62, li_63, li_70, li_73, li_85, li_97, li_98, li_99, li_100, li_101, li_102, li_103, li_104, li_105, li_107, li_108, li_109, li_110, li_111, li_112, li_114, li_115, li_116, li_117, li_118, li_119, li_121, li_122, li_140, li_193, li_200, li_240, li_255, li_289, li_290, li_300, li_302, li_314, li_326, li_860, li_880, li_900, li_999, li_1024, li_2801, li_3440, li_3441, li_3442, li_3443, li_3444, li_3447, li_3448, li_3449, li_3457, li_3465, li_3469, li_3473, li_3477, li_3501, li_3513, li_3525, li_3537, li_3633, li_3730, li_3742, li_3754, li_3766, li_4095, li_4096, li_4300, li_9011, li_9999, li_10000, li_36864, li_65536, li_1000000, ll_0, ll_1, ll_100, ll_11, ll_16, ll_20, ll_3, ll_32, ll_50, ll_8, ll_96, ll_99, ll_9999, ne_m1, e_if, e_ret, e_rz0, e_rz1, e_rzb, e_call, bCallX_eq, nI_add, nI_mul, nI_succ1, le_i, lt_i, eq_i, m1_i, m1_le, m1_lt, m1_ge, m1_eq, ite_true, ite_false, if_true, if_false, Nat.zero_le, true_and, and_true, and_false, false_and, decide_true, decide_false, Bool.toNat_true, Bool.toNat_false, Nat.not_lt_zero, oI_g0, n10, x_in, l_i, sub_i, q_noPerson u hx]

/-! WHO DRINKS, AND WHAT HANGS ON IT -/
theorem it_or_bit (C : Nat → Bool) (g : Nat → Nat) (i : Nat) : ∀ n, (it (fun r m => if C r then m ||| 2 ^ g r else m) 0 n).testBit i = ex (fun r => C r && decide (g r = i)) n
  | 0 => by simp [it, ex]
  | n + 1 => by
    have h := it_or_bit C g i n
    unfold ex at h ⊢
    rw [it_s, it_s]
    split
    · rename_i hc
      rw [Nat.testBit_or, h, Nat.testBit_two_pow]
      by_cases h1 : g n = i <;> simp [h1, hc]
    · rename_i hc
      rw [h]
      simp [hc]
theorem it_or_lt (C : Nat → Bool) (g : Nat → Nat) (k : Nat) (hg : ∀ r, C r = true → g r < k) : ∀ n, it (fun r m => if C r then m ||| 2 ^ g r else m) 0 n < 2 ^ k
  | 0 => Nat.two_pow_pos k
  | n + 1 => by
    have h := it_or_lt C g k hg n
    rw [it_s]
    split
    · rename_i hc
      exact Nat.or_lt_two_pow h (Nat.pow_lt_pow_right (by decide) (hg n hc))
    · exact h
def oG (o : Option Nat) : Nat := o.getD 0
/-- by whom a rope is held, who is alive -/
def wAH (W : wW) (r : Nat) : Bool := match rHo (wRo W r) with
  | none => false
  | some q => wAl W q && wSv W r q (wDe W)
theorem wDs_eq {W : wW} (hW : wOk W) (hd : wDe W ≤ wBo W) : it (fun r m => if wAH W r then m ||| 2 ^ oG (rHo (wRo W r)) else m) 0 12 = wDs W := by
  apply Nat.eq_of_testBit_eq
  intro i
  rw [it_or_bit, wDs, mk_bit]
  have hHo : ∀ r q, rHo (wRo W r) = some q → q < wPe W := by
    intro r q hq
    obtain ⟨iY, iW, iB, iS, iR, iRb, iD, iP, iPa, iDi, iF, iFd, iRo, iOw, iBo, iLa⟩ := hW
    unfold rHo at hq
    split at hq
    · exact iOw r q hq
    · rename_i q' hq'
      cases hq
      exact iBo r q hq'
  rw [Bool.eq_iff_iff, ex_iff, Bool.and_eq_true, decide_eq_true_eq]
  unfold wDk
  rw [Bool.and_eq_true, Bool.and_eq_true, ex_iff, decide_eq_true_eq]
  constructor
  · rintro ⟨r, h1, h2⟩
    rw [Bool.and_eq_true, decide_eq_true_eq] at h2
    obtain ⟨h2, h3⟩ := h2
    unfold wAH at h2
    cases h4 : rHo (wRo W r) with
    | none => rw [h4] at h2; cases h2
    | some q =>
      rw [h4] at h2 h3
      have h3 : q = i := h3
      subst h3
      rw [Bool.and_eq_true] at h2
      exact ⟨hHo r q h4, h2.1, hd, r, h1, h2.2⟩
  · rintro ⟨h1, h2, -, r, h3, h4⟩
    refine ⟨r, h3, ?_⟩
    rw [Bool.and_eq_true, decide_eq_true_eq]
    have h5 : rHo (wRo W r) = some i := by
      unfold wSv at h4
      rw [Bool.and_eq_true, Bool.and_eq_true, decide_eq_true_eq] at h4
      exact h4.2.1
    unfold wAH
    rw [h5]
    refine ⟨?_, rfl⟩
    rw [Bool.and_eq_true]
    exact ⟨h2, h4⟩
theorem wDs_0 {W : wW} (hd : ¬ wDe W ≤ wBo W) : wDs W = 0 := by
  apply Nat.eq_of_testBit_eq
  intro i
  rw [wDs, mk_bit, Nat.zero_testBit]
  unfold wDk
  simp [hd]
theorem wDs_lt {W : wW} (hW : wOk W) : wDs W < 256 := by
  have h1 := mk_lt (wDk W) (wPe W)
  have h2 : (2 : Nat) ^ wPe W ≤ 2 ^ 8 := Nat.pow_le_pow_right (by decide) hW.2.2.2.2.2.2.2.1
  unfold wDs
  omega
theorem wDs_bit {W : wW} {p : Nat} (hp : p < wPe W) : (wDs W).testBit p = wDk W p := by
  rw [wDs, mk_bit]
  simp [hp]
theorem wHe_lt {W : wW} (hW : wOk W) (p : Nat) : wHe W p < 256 := by
  have h1 := mk_lt (fun k => decide (wPa W k = some p) && wAl W k) (wPe W)
  have h2 : (2 : Nat) ^ wPe W ≤ 2 ^ 8 := Nat.pow_le_pow_right (by decide) hW.2.2.2.2.2.2.2.1
  unfold wHe
  omega
def wPo (W : wW) (m : Nat) : Option Nat := it (fun p o => if m.testBit p then (match o with | none => some p | some b => if wHy W p < wHy W b then some p else some b) else o) none (wPe W)
def wMk (W : wW) (p : Nat) : Nat := it (fun r n => if wSv W r p (wDe W) then min n (rK (wRo W r)) else n) 8 12
def wMi (W : wW) (p : Nat) : Nat := 2 * wDe W + 1 + 3 * wMk W p
theorem wMk_le' (W : wW) (p : Nat) : ∀ n, it (fun r n => if wSv W r p (wDe W) then min n (rK (wRo W r)) else n) 8 n ≤ 8
  | 0 => Nat.le_refl _
  | n + 1 => by
    have := wMk_le' W p n
    rw [it_s]
    split <;> omega
theorem wMk_le (W : wW) (p : Nat) : wMk W p ≤ 8 := wMk_le' W p 12
theorem wPo_lt (W : wW) (m : Nat) : ∀ n p, it (fun p o => if m.testBit p then (match o with | none => some p | some b => if wHy W p < wHy W b then some p else some b) else o) none n = some p → p < n
  | 0, p, h => by cases h
  | n + 1, p, h => by
    rw [it_s] at h
    split at h
    · split at h
      · cases h; omega
      · rename_i b hb
        have := wPo_lt W m n b hb
        split at h
        · cases h; omega
        · cases h; omega
    · have := wPo_lt W m n p h
      omega
section DR
variable {s : mS} {a : Nat} {W : wW}
theorem c_drinkers (h : CW s a W) : fX7_drinkers a s = some (nI (wDs W), s) := by
  unfold fX7_drinkers
  obtain ⟨iY, iW, iB, iS, iR, iRb, iD, iP, iPa, iDi, iF, iFd, iRo, iOw, iBo, iLa⟩ := h.wi
  have hde := wDe_le h.wi
  simp (disch := omega) only [c_depthNow h, g_yr h, g_wa h, g_bo h, g_si h, g_ra h, g_rb h, g_dr h, g_pe h, g_fl h, g_apa h, g_adi h, g_aro h, g_afr h, g_ato h, g_aby h, g_afc h, g_pa h, g_di h, g_ro h, g_fr h, g_to h, g_by h, e_callV h.k, li_0, li_1, li_2, li_3, li_4, li_5, li_6, li_7, li_8, li_9, li_10, li_11, li_12, li_13, li_14, li_15, li_16, li_17, li_20, li_24, li_25, li_29, li_31, li_32, li_33, li_37, li_40, li_41, li_48, li_49, li_50, li_56, li_57, li_59, li_60, li_61, li_62, li_63, li_70, li_73, li_85, li_97, li_98, li_99, li_100, li_101, li_102, li_103, li_104, li_105, li_107, li_108, li_109, li_110, li_111, li_112, li_114, li_115, li_116, li_117, li_118, li_119, li_121, li_122, li_140, li_193, li_200, li_240, li_255, li_289, li_290, li_300, li_302, li_314, li_326, li_860, li_880, li_900, li_999, li_1024, li_2801, li_3440, li_3441, li_3442, li_3443, li_3444, li_3447, li_3448, li_3449, li_3457, li_3465, li_3469, li_3473, li_3477, li_3501, li_3513, li_3525, li_3537, li_3633, li_3730, li_3742, li_3754, li_3766, li_4095, li_4096, li_4300, li_9011, li_9999, li_10000, li_36864, li_65536, li_1000000, ll_0, ll_1, ll_100, ll_11, ll_16, ll_20, ll_3, ll_32, ll_50, ll_8, ll_96, ll_99, ll_9999, ne_m1, e_if, e_ret, e_rz0, e_rz1, e_rzb, e_call, bCallX_eq, nI_add, nI_mul, nI_succ1, le_i, lt_i, eq_i, m1_i, m1_le, m1_lt, m1_ge, m1_eq, ite_true, ite_false, if_true, if_false]
  by_cases hd : wDe W ≤ wBo W
  · rw [if_pos hd, ← wDs_eq h.wi hd]
    refine loop_n (fun m k => fX7_drinkers_19 m a (nI (wDe W)) (nI (it (fun r m => if wAH W r then m ||| 2 ^ oG (rHo (wRo W r)) else m) 0 k)) (nI k) s) _ 12 ?_ ?_ fu 0 (by omega) (by unfold fu; omega)
    · intro m k hk
      have hk' : ¬ 12 ≤ k := by omega
      show fX7_drinkers_19 (m + 1) a _ _ _ s = _
      rw [qX7_drinkers_19]
      have hlt := it_or_lt (wAH W) (fun r => oG (rHo (wRo W r))) 8 (by
        intro r hr
        unfold wAH at hr
        cases hq : rHo (wRo W r) with
        | none => rw [hq] at hr; cases hr
        | some q => exact rHo_b (iRo r) q hq) k
      simp (disch := omega) only [g_aro h, g_ro h, e_callV (h.rs hk).1, t_holder (h.rs hk) (h.rd hk) (h.ri k), li_0, li_1, li_2, li_3, li_4, li_5, li_6, li_7, li_8, li_9, li_10, li_11, li_12, li_13, li_14, li_15, li_16, li_17, li_20, li_24, li_25, li_29, li_31, li_32, li_33, li_37, li_40, li_41, li_48, li_49, li_50, li_56, li_57, li_59, li_60, li_61, li_62, li_63, li_70, li_73, li_85, li_97, li_98, li_99, li_100, li_101, li_102, li_103, li_104, li_105, li_107, li_108, li_109, li_110, li_111, li_112, li_114, li_115, li_116, li_117, li_118, li_119, li_121, li_122, li_140, li_193, li_200, li_240, li_255, li_289, li_290, li_300, li_302, li_314, li_326, li_860, li_880, li_900, li_999, li_1024, li_2801, li_3440, li_3441, li_3442, li_3443, li_3444, li_3447, li_3448, li_3449, li_3457, li_3465, li_3469, li_3473, li_3477, li_3501, li_3513, li_3525, li_3537, li_3633, li_3730, li_3742, li_3754, li_3766, li_4095, li_4096, li_4300, li_9011, li_9999, li_10000, li_36864, li_65536, li_1000000, ll_0, ll_1, ll_100, ll_11, ll_16, ll_20, ll_3, ll_32, ll_50, ll_8, ll_96, ll_99, ll_9999, ne_m1, e_if, e_ret, e_rz0, e_rz1, e_rzb, e_call, bCallX_eq, nI_add, nI_mul, nI_succ1, le_i, lt_i, eq_i, m1_i, m1_le, m1_lt, m1_ge, m1_eq, ite_true, ite_false, if_true, if_false, hk', oI_m (ob (rHo_b (h.ri k)))]
      rw [it_s]
      generalize it (fun r m => if wAH W r then m ||| 2 ^ oG (rHo (wRo W r)) else m) 0 k = M at hlt ⊢
      unfold wAH
      cases hq : rHo (wRo W k) with
      | none => rfl
      | some q =>
        have hq8 : q < wPe W := by
          unfold rHo at hq
          split at hq
          · exact iOw k q hq
          · rename_i q' hq'
            cases hq
            exact iBo k q hq'
        have h2q : 2 ^ q < 2147483648 := Nat.lt_of_lt_of_le (Nat.pow_lt_pow_right (by decide) (show q < 31 by omega)) (by decide)
        simp (disch := omega) only [oI_s, g_yr h, g_wa h, g_bo h, g_si h, g_ra h, g_rb h, g_dr h, g_pe h, g_fl h, g_apa h, g_adi h, g_aro h, g_afr h, g_ato h, g_aby h, g_afc h, g_pa h, g_di h, g_ro h, g_fr h, g_to h, g_by h, e_callV h.k, c_isAlive h hq8, c_servesFrom h hk (show q < 8 by omega) (show wDe W < 2147483648 by omega), li_0, li_1, li_2, li_3, li_4, li_5, li_6, li_7, li_8, li_9, li_10, li_11, li_12, li_13, li_14, li_15, li_16, li_17, li_20, li_24, li_25, li_29, li_31, li_32, li_33, li_37, li_40, li_41, li_48, li_49, li_50, li_56, li_57, li_59, li_60, li_61, li_62, li_63, li_70, li_73, li_85, li_97, li_98, li_99, li_100, li_101, li_102, li_103, li_104, li_105, li_107, li_108, li_109, li_110, li_111, li_112, li_114, li_115, li_116, li_117, li_118, li_119, li_121, li_122, li_140, li_193, li_200, li_240, li_255, li_289, li_290, li_300, li_302, li_314, li_326, li_860, li_880, li_900, li_999, li_1024, li_2801, li_3440, li_3441, li_3442, li_3443, li_3444, li_3447, li_3448, li_3449, li_3457, li_3465, li_3469, li_3473, li_3477, li_3501, li_3513, li_3525, li_3537, li_3633, li_3730, li_3742, li_3754, li_3766, li_4095, li_4096, li_4300, li_9011, li_9999, li_10000, li_36864, li_65536, li_1000000, ll_0, ll_1, ll_100, ll_11, ll_16, ll_20, ll_3, ll_32, ll_50, ll_8, ll_96, ll_99, ll_9999, ne_m1, e_if, e_ret, e_rz0, e_rz1, e_rzb, e_call, bCallX_eq, nI_add, nI_mul, nI_succ1, le_i, lt_i, eq_i, m1_i, m1_le, m1_lt, m1_ge, m1_eq, ite_true, ite_false, if_true, if_false, bt0, reduceCtorEq, one_shl, or_i]
        by_cases hA : wAl W q = true
        · by_cases hB : wSv W k q (wDe W) = true
          · simp [hA, hB, oG]
          · simp [hA, hB]
        · simp [hA]
    · intro m
      show fX7_drinkers_19 (m + 1) a _ _ _ s = _
      rw [qX7_drinkers_19]
      simp (disch := omega) only [li_0, li_1, li_2, li_3, li_4, li_5, li_6, li_7, li_8, li_9, li_10, li_11, li_12, li_13, li_14, li_15, li_16, li_17, li_20, li_24, li_25, li_29, li_31, li_32, li_33, li_37, li_40, li_41, li_48, li_49, li_50, li_56, li_57, li_59, li_60, li_61, li_62, li_63, li_70, li_73, li_85, li_97, li_98, li_99, li_100, li_101, li_102, li_103, li_104, li_105, li_107, li_108, li_109, li_110, li_111, li_112, li_114, li_115, li_116, li_117, li_118, li_119, li_121, li_122, li_140, li_193, li_200, li_240, li_255, li_289, li_290, li_300, li_302, li_314, li_326, li_860, li_880, li_900, li_999, li_1024, li_2801, li_3440, li_3441, li_3442, li_3443, li_3444, li_3447, li_3448, li_3449, li_3457, li_3465, li_3469, li_3473, li_3477, li_3501, li_3513, li_3525, li_3537, li_3633, li_3730, li_3742, li_3754, li_3766, li_4095, li_4096, li_4300, li_9011, li_9999, li_10000, li_36864, li_65536, li_1000000, ll_0, ll_1, ll_100, ll_11, ll_16, ll_20, ll_3, ll_32, ll_50, ll_8, ll_96, ll_99, ll_9999, ne_m1, e_if, e_ret, e_rz0, e_rz1, e_rzb, e_call, bCallX_eq, nI_add, nI_mul, nI_succ1, le_i, lt_i, eq_i, m1_i, m1_le, m1_lt, m1_ge, m1_eq, ite_true, ite_false, if_true, if_false, Nat.le_refl]
  · rw [if_neg hd, wDs_0 hd]
theorem c_isDrinking (h : CW s a W) {p : Nat} (hp : p < wPe W) : fX7_isDrinking a (nI p) s = some (nI (wDk W p).toNat, s) := by
  unfold fX7_isDrinking
  have i8 := h.wi.2.2.2.2.2.2.2.1
  have := wDs_lt h.wi
  simp (disch := omega) only [g_yr h, g_wa h, g_bo h, g_si h, g_ra h, g_rb h, g_dr h, g_pe h, g_fl h, g_apa h, g_adi h, g_aro h, g_afr h, g_ato h, g_aby h, g_afc h, g_pa h, g_di h, g_ro h, g_fr h, g_to h, g_by h, e_callV h.k, c_drinkers h, li_0, li_1, li_2, li_3, li_4, li_5, li_6, li_7, li_8, li_9, li_10, li_11, li_12, li_13, li_14, li_15, li_16, li_17, li_20, li_24, li_25, li_29, li_31, li_32, li_33, li_37, li_40, li_41, li_48, li_49, li_50, li_56, li_57, li_59, li_60, li_61, li_62, li_63, li_70, li_73, li_85, li_97, li_98, li_99, li_100, li_101, li_102, li_103, li_104, li_105, li_107, li_108, li_109, li_110, li_111, li_112, li_114, li_115, li_116, li_117, li_118, li_119, li_121, li_122, li_140, li_193, li_200, li_240, li_255, li_289, li_290, li_300, li_302, li_314, li_326, li_860, li_880, li_900, li_999, li_1024, li_2801, li_3440, li_3441, li_3442, li_3443, li_3444, li_3447, li_3448, li_3449, li_3457, li_3465, li_3469, li_3473, li_3477, li_3501, li_3513, li_3525, li_3537, li_3633, li_3730, li_3742, li_3754, li_3766, li_4095, li_4096, li_4300, li_9011, li_9999, li_10000, li_36864, li_65536, li_1000000, ll_0, ll_1, ll_100, ll_11, ll_16, ll_20, ll_3, ll_32, ll_50, ll_8, ll_96, ll_99, ll_9999, ne_m1, e_if, e_ret, e_rz0, e_rz1, e_rzb, e_call, bCallX_eq, nI_add, nI_mul, nI_succ1, le_i, lt_i, eq_i, m1_i, m1_le, m1_lt, m1_ge, m1_eq, ite_true, ite_false, if_true, if_false, bit_i, bt1]
  rw [wDs_bit hp]
  exact ite_10 Iff.rfl
theorem c_countThirsty (h : CW s a W) : fX7_countThirsty a s = some (nI (wAn W) - nI (pc (wDs W)), s) := by
  unfold fX7_countThirsty
  have := wDs_lt h.wi
  simp (disch := omega) only [g_yr h, g_wa h, g_bo h, g_si h, g_ra h, g_rb h, g_dr h, g_pe h, g_fl h, g_apa h, g_adi h, g_aro h, g_afr h, g_ato h, g_aby h, g_afc h, g_pa h, g_di h, g_ro h, g_fr h, g_to h, g_by h, e_callV h.k, c_drinkers h, c_countAlive h, j_bitCount, li_0, li_1, li_2, li_3, li_4, li_5, li_6, li_7, li_8, li_9, li_10, li_11, li_12, li_13, li_14, li_15, li_16, li_17, li_20, li_24, li_25, li_29, li_31, li_32, li_33, li_37, li_40, li_41, li_48, li_49, li_50, li_56, li_57, li_59, li_60, li_61, li_62, li_63, li_70, li_73, li_85, li_97, li_98, li_99, li_100, li_101, li_102, li_103, li_104, li_105, li_107, li_108, li_109, li_110, li_111, li_112, li_114, li_115, li_116, li_117, li_118, li_119, li_121, li_122, li_140, li_193, li_200, li_240, li_255, li_289, li_290, li_300, li_302, li_314, li_326, li_860, li_880, li_900, li_999, li_1024, li_2801, li_3440, li_3441, li_3442, li_3443, li_3444, li_3447, li_3448, li_3449, li_3457, li_3465, li_3469, li_3473, li_3477, li_3501, li_3513, li_3525, li_3537, li_3633, li_3730, li_3742, li_3754, li_3766, li_4095, li_4096, li_4300, li_9011, li_9999, li_10000, li_36864, li_65536, li_1000000, ll_0, ll_1, ll_100, ll_11, ll_16, ll_20, ll_3, ll_32, ll_50, ll_8, ll_96, ll_99, ll_9999, ne_m1, e_if, e_ret, e_rz0, e_rz1, e_rzb, e_call, bCallX_eq, nI_add, nI_mul, nI_succ1, le_i, lt_i, eq_i, m1_i, m1_le, m1_lt, m1_ge, m1_eq, ite_true, ite_false, if_true, if_false]
theorem c_minutesOf (h : CW s a W) {p : Nat} (hp : p < wPe W) : fX7_minutesOf a (nI p) s = some (if wDk W p then nI (wMi W p) else mI, s) := by
  unfold fX7_minutesOf
  have i8 := h.wi.2.2.2.2.2.2.2.1
  have hde := wDe_le h.wi
  simp (disch := omega) only [g_yr h, g_wa h, g_bo h, g_si h, g_ra h, g_rb h, g_dr h, g_pe h, g_fl h, g_apa h, g_adi h, g_aro h, g_afr h, g_ato h, g_aby h, g_afc h, g_pa h, g_di h, g_ro h, g_fr h, g_to h, g_by h, e_callV h.k, c_isDrinking h hp, c_depthNow h, li_0, li_1, li_2, li_3, li_4, li_5, li_6, li_7, li_8, li_9, li_10, li_11, li_12, li_13, li_14, li_15, li_16, li_17, li_20, li_24, li_25, li_29, li_31, li_32, li_33, li_37, li_40, li_41, li_48, li_49, li_50, li_56, li_57, li_59, li_60, li_61, li_62, li_63, li_70, li_73, li_85, li_97, li_98, li_99, li_100, li_101, li_102, li_103, li_104, li_105, li_107, li_108, li_109, li_110, li_111, li_112, li_114, li_115, li_116, li_117, li_118, li_119, li_121, li_122, li_140, li_193, li_200, li_240, li_255, li_289, li_290, li_300, li_302, li_314, li_326, li_860, li_880, li_900, li_999, li_1024, li_2801, li_3440, li_3441, li_3442, li_3443, li_3444, li_3447, li_3448, li_3449, li_3457, li_3465, li_3469, li_3473, li_3477, li_3501, li_3513, li_3525, li_3537, li_3633, li_3730, li_3742, li_3754, li_3766, li_4095, li_4096, li_4300, li_9011, li_9999, li_10000, li_36864, li_65536, li_1000000, ll_0, ll_1, ll_100, ll_11, ll_16, ll_20, ll_3, ll_32, ll_50, ll_8, ll_96, ll_99, ll_9999, ne_m1, e_if, e_ret, e_rz0, e_rz1, e_rzb, e_call, bCallX_eq, nI_add, nI_mul, nI_succ1, le_i, lt_i, eq_i, m1_i, m1_le, m1_lt, m1_ge, m1_eq, ite_true, ite_false, if_true, if_false, bt0]
  cases hd : wDk W p with
  | false => rfl
  | true =>
    simp only [Bool.true_eq_false, if_false, if_true]
    refine loop_n (fun m k => fX7_minutesOf_21 m a (nI p) (nI (wDe W)) (nI (it (fun r n => if wSv W r p (wDe W) then min n (rK (wRo W r)) else n) 8 k)) (nI k) s) _ 12 ?_ ?_ fu 0 (by omega) (by unfold fu; omega)
    · intro m k hk
      have hk' : ¬ 12 ≤ k := by omega
      have h9 := wMk_le' W p k
      have h10 := (h.ri k).1
      have h11 : rK (wRo W k) ≤ 8 := by show rN (wRo W k) - 1 ≤ 8; omega
      show fX7_minutesOf_21 (m + 1) a _ _ _ _ s = _
      rw [qX7_minutesOf_21]
      simp (disch := omega) only [g_yr h, g_wa h, g_bo h, g_si h, g_ra h, g_rb h, g_dr h, g_pe h, g_fl h, g_apa h, g_adi h, g_aro h, g_afr h, g_ato h, g_aby h, g_afc h, g_pa h, g_di h, g_ro h, g_fr h, g_to h, g_by h, e_callV h.k, c_servesFrom h hk (show p < 8 by omega) (show wDe W < 2147483648 by omega), e_callV (h.rs hk).1, li_0, li_1, li_2, li_3, li_4, li_5, li_6, li_7, li_8, li_9, li_10, li_11, li_12, li_13, li_14, li_15, li_16, li_17, li_20, li_24, li_25, li_29, li_31, li_32, li_33, li_37, li_40, li_41, li_48, li_49, li_50, li_56, li_57, li_59, li_60, li_61, li_62, li_63, li_70, li_73, li_85, li_97, li_98, li_99, li_100, li_101, li_102, li_103, li_104, li_105, li_107, li_108, li_109, li_110, li_111, li_112, li_114, li_115, li_116, li_117, li_118, li_119, li_121, li_122, li_140, li_193, li_200, li_240, li_255, li_289, li_290, li_300, li_302, li_314, li_326, li_860, li_880, li_900, li_999, li_1024, li_2801, li_3440, li_3441, li_3442, li_3443, li_3444, li_3447, li_3448, li_3449, li_3457, li_3465, li_3469, li_3473, li_3477, li_3501, li_3513, li_3525, li_3537, li_3633, li_3730, li_3742, li_3754, li_3766, li_4095, li_4096, li_4300, li_9011, li_9999, li_10000, li_36864, li_65536, li_1000000, ll_0, ll_1, ll_100, ll_11, ll_16, ll_20, ll_3, ll_32, ll_50, ll_8, ll_96, ll_99, ll_9999, ne_m1, e_if, e_ret, e_rz0, e_rz1, e_rzb, e_call, bCallX_eq, nI_add, nI_mul, nI_succ1, le_i, lt_i, eq_i, m1_i, m1_le, m1_lt, m1_ge, m1_eq, ite_true, ite_false, if_true, if_false, bt0, hk', it_s]
      cases h12 : wSv W k p (wDe W) with
      | false => rfl
      | true =>
        have h13 : 0 < rN (wRo W k) := by
          unfold wSv rT at h12
          simp at h12
          exact h12.1
        simp (disch := omega) only [t_knots (h.rs hk) (h.rd hk) h13, jMin_i, Bool.true_eq_false, if_false, if_true]
    · intro m
      show fX7_minutesOf_21 (m + 1) a _ _ _ _ s = _
      rw [qX7_minutesOf_21]
      simp (disch := omega) only [li_0, li_1, li_2, li_3, li_4, li_5, li_6, li_7, li_8, li_9, li_10, li_11, li_12, li_13, li_14, li_15, li_16, li_17, li_20, li_24, li_25, li_29, li_31, li_32, li_33, li_37, li_40, li_41, li_48, li_49, li_50, li_56, li_57, li_59, li_60, li_61, li_62, li_63, li_70, li_73, li_85, li_97, li_98, li_99, li_100, li_101, li_102, li_103, li_104, li_105, li_107, li_108, li_109, li_110, li_111, li_112, li_114, li_115, li_116, li_117, li_118, li_119, li_121, li_122, li_140, li_193, li_200, li_240, li_255, li_289, li_290, li_300, li_302, li_314, li_326, li_860, li_880, li_900, li_999, li_1024, li_2801, li_3440, li_3441, li_3442, li_3443, li_3444, li_3447, li_3448, li_3449, li_3457, li_3465, li_3469, li_3473, li_3477, li_3501, li_3513, li_3525, li_3537, li_3633, li_3730, li_3742, li_3754, li_3766, li_4095, li_4096, li_4300, li_9011, li_9999, li_10000, li_36864, li_65536, li_1000000, ll_0, ll_1, ll_100, ll_11, ll_16, ll_20, ll_3, ll_32, ll_50, ll_8, ll_96, ll_99, ll_9999, ne_m1, e_if, e_ret, e_rz0, e_rz1, e_rzb, e_call, bCallX_eq, nI_add, nI_mul, nI_succ1, le_i, lt_i, eq_i, m1_i, m1_le, m1_lt, m1_ge, m1_eq, ite_true, ite_false, if_true, if_false, Nat.le_refl]
      unfold fX7_minutesOf_60
      simp (disch := omega) only [li_0, li_1, li_2, li_3, li_4, li_5, li_6, li_7, li_8, li_9, li_10, li_11, li_12, li_13, li_14, li_15, li_16, li_17, li_20, li_24, li_25, li_29, li_31, li_32, li_33, li_37, li_40, li_41, li_48, li_49, li_50, li_56, li_57, li_59, li_60, li_61, li_62, li_63, li_70, li_73, li_85, li_97, li_98, li_99, li_100, li_101, li_102, li_103, li_104, li_105, li_107, li_108, li_109, li_110, li_111, li_112, li_114, li_115, li_116, li_117, li_118, li_119, li_121, li_122, li_140, li_193, li_200, li_240, li_255, li_289, li_290, li_300, li_302, li_314, li_326, li_860, li_880, li_900, li_999, li_1024, li_2801, li_3440, li_3441, li_3442, li_3443, li_3444, li_3447, li_3448, li_3449, li_3457, li_3465, li_3469, li_3473, li_3477, li_3501, li_3513, li_3525, li_3537, li_3633, li_3730, li_3742, li_3754, li_3766, li_4095, li_4096, li_4300, li_9011, li_9999, li_10000, li_36864, li_65536, li_1000000, ll_0, ll_1, ll_100, ll_11, ll_16, ll_20, ll_3, ll_32, ll_50, ll_8, ll_96, ll_99, ll_9999, ne_m1, e_if, e_ret, e_rz0, e_rz1, e_rzb, e_call, bCallX_eq, nI_add, nI_mul, nI_succ1, le_i, lt_i, eq_i, m1_i, m1_le, m1_lt, m1_ge, m1_eq, ite_true, ite_false, if_true, if_false]
      rfl
theorem c_poorestOf (h : CW s a W) {m : Nat} (hm : m < 256) : fX7_poorestOf a (nI m) s = some (oI (wPo W m), s) := by
  unfold fX7_poorestOf
  obtain ⟨iY, iW, iB, iS, iR, iRb, iD, iP, iPa, iDi, iF, iFd, iRo, iOw, iBo, iLa⟩ := h.wi
  refine loop_n (fun n k => fX7_poorestOf_7 n a (nI m) (oI (it (fun p o => if m.testBit p then (match o with | none => some p | some b => if wHy W p < wHy W b then some p else some b) else o) none k)) (match it (fun p o => if m.testBit p then (match o with | none => some p | some b => if wHy W p < wHy W b then some p else some b) else o) none k with | none => nI 0 | some b => nI (wHy W b)) (nI k) s) _ (wPe W) ?_ ?_ fu 0 (by omega) (by unfold fu; omega)
  · intro n k hk
    have hk' : ¬ wPe W ≤ k := by omega
    have hb := wPo_lt W m k
    have hyk := wY_le h.wi (fun r => rT (wRo W r) && decide (rHo (wRo W r) = some k)) 12
    show fX7_poorestOf_7 (n + 1) a _ _ _ _ s = _
    rw [qX7_poorestOf_7, it_s]
    generalize it (fun p o => if m.testBit p then (match o with | none => some p | some b => if wHy W p < wHy W b then some p else some b) else o) none k = o at hb ⊢
    unfold fX7_poorestOf_45
    simp (disch := omega) only [g_yr h, g_wa h, g_bo h, g_si h, g_ra h, g_rb h, g_dr h, g_pe h, g_fl h, g_apa h, g_adi h, g_aro h, g_afr h, g_ato h, g_aby h, g_afc h, g_pa h, g_di h, g_ro h, g_fr h, g_to h, g_by h, e_callV h.k, c_heldYards h (show k < 8 by omega), li_0, li_1, li_2, li_3, li_4, li_5, li_6, li_7, li_8, li_9, li_10, li_11, li_12, li_13, li_14, li_15, li_16, li_17, li_20, li_24, li_25, li_29, li_31, li_32, li_33, li_37, li_40, li_41, li_48, li_49, li_50, li_56, li_57, li_59, li_60, li_61, li_62, li_63, li_70, li_73, li_85, li_97, li_98, li_99, li_100, li_101, li_102, li_103, li_104, li_105, li_107, li_108, li_109, li_110, li_111, li_112, li_114, li_115, li_116, li_117, li_118, li_119, li_121, li_122, li_140, li_193, li_200, li_240, li_255, li_289, li_290, li_300, li_302, li_314, li_326, li_860, li_880, li_900, li_999, li_1024, li_2801, li_3440, li_3441, li_3442, li_3443, li_3444, li_3447, li_3448, li_3449, li_3457, li_3465, li_3469, li_3473, li_3477, li_3501, li_3513, li_3525, li_3537, li_3633, li_3730, li_3742, li_3754, li_3766, li_4095, li_4096, li_4300, li_9011, li_9999, li_10000, li_36864, li_65536, li_1000000, ll_0, ll_1, ll_100, ll_11, ll_16, ll_20, ll_3, ll_32, ll_50, ll_8, ll_96, ll_99, ll_9999, ne_m1, e_if, e_ret, e_rz0, e_rz1, e_rzb, e_call, bCallX_eq, nI_add, nI_mul, nI_succ1, le_i, lt_i, eq_i, m1_i, m1_le, m1_lt, m1_ge, m1_eq, ite_true, ite_false, if_true, if_false, hk', bit_i, bt1]
    cases m.testBit k with
    | false => rfl
    | true =>
      cases o with
      | none => rfl
      | some b =>
        have hyb := wY_le h.wi (fun r => rT (wRo W r) && decide (rHo (wRo W r) = some b)) 12
        have e1 : wHy W k ≤ 1600 * 12 := hyk
        have e2 : wHy W b ≤ 1600 * 12 := hyb
        have := hb b rfl
        simp (disch := omega) only [oI_s, li_0, li_1, li_2, li_3, li_4, li_5, li_6, li_7, li_8, li_9, li_10, li_11, li_12, li_13, li_14, li_15, li_16, li_17, li_20, li_24, li_25, li_29, li_31, li_32, li_33, li_37, li_40, li_41, li_48, li_49, li_50, li_56, li_57, li_59, li_60, li_61, li_62, li_63, li_70, li_73, li_85, li_97, li_98, li_99, li_100, li_101, li_102, li_103, li_104, li_105, li_107, li_108, li_109, li_110, li_111, li_112, li_114, li_115, li_116, li_117, li_118, li_119, li_121, li_122, li_140, li_193, li_200, li_240, li_255, li_289, li_290, li_300, li_302, li_314, li_326, li_860, li_880, li_900, li_999, li_1024, li_2801, li_3440, li_3441, li_3442, li_3443, li_3444, li_3447, li_3448, li_3449, li_3457, li_3465, li_3469, li_3473, li_3477, li_3501, li_3513, li_3525, li_3537, li_3633, li_3730, li_3742, li_3754, li_3766, li_4095, li_4096, li_4300, li_9011, li_9999, li_10000, li_36864, li_65536, li_1000000, ll_0, ll_1, ll_100, ll_11, ll_16, ll_20, ll_3, ll_32, ll_50, ll_8, ll_96, ll_99, ll_9999, ne_m1, e_if, e_ret, e_rz0, e_rz1, e_rzb, e_call, bCallX_eq, nI_add, nI_mul, nI_succ1, le_i, lt_i, eq_i, m1_i, m1_le, m1_lt, m1_ge, m1_eq, ite_true, ite_false, if_true, if_false]
        by_cases hc : wHy W k < wHy W b
        · rw [if_neg (show ¬ wHy W b ≤ wHy W k by omega)]; simp only [hc, if_true, oI_s]
        · rw [if_pos (show wHy W b ≤ wHy W k by omega)]; simp only [hc, if_false, oI_s]
  · intro n
    show fX7_poorestOf_7 (n + 1) a _ _ _ _ s = _
    rw [qX7_poorestOf_7]
    simp (disch := omega) only [g_yr h, g_wa h, g_bo h, g_si h, g_ra h, g_rb h, g_dr h, g_pe h, g_fl h, g_apa h, g_adi h, g_aro h, g_afr h, g_ato h, g_aby h, g_afc h, g_pa h, g_di h, g_ro h, g_fr h, g_to h, g_by h, e_callV h.k, li_0, li_1, li_2, li_3, li_4, li_5, li_6, li_7, li_8, li_9, li_10, li_11, li_12, li_13, li_14, li_15, li_16, li_17, li_20, li_24, li_25, li_29, li_31, li_32, li_33, li_37, li_40, li_41, li_48, li_49, li_50, li_56, li_57, li_59, li_60, li_61, li_62, li_63, li_70, li_73, li_85, li_97, li_98, li_99, li_100, li_101, li_102, li_103, li_104, li_105, li_107, li_108, li_109, li_110, li_111, li_112, li_114, li_115, li_116, li_117, li_118, li_119, li_121, li_122, li_140, li_193, li_200, li_240, li_255, li_289, li_290, li_300, li_302, li_314, li_326, li_860, li_880, li_900, li_999, li_1024, li_2801, li_3440, li_3441, li_3442, li_3443, li_3444, li_3447, li_3448, li_3449, li_3457, li_3465, li_3469, li_3473, li_3477, li_3501, li_3513, li_3525, li_3537, li_3633, li_3730, li_3742, li_3754, li_3766, li_4095, li_4096, li_4300, li_9011, li_9999, li_10000, li_36864, li_65536, li_1000000, ll_0, ll_1, ll_100, ll_11, ll_16, ll_20, ll_3, ll_32, ll_50, ll_8, ll_96, ll_99, ll_9999, ne_m1, e_if, e_ret, e_rz0, e_rz1, e_rzb, e_call, bCallX_eq, nI_add, nI_mul, nI_succ1, le_i, lt_i, eq_i, m1_i, m1_le, m1_lt, m1_ge, m1_eq, ite_true, ite_false, if_true, if_false, Nat.le_refl]
    rfl
end DR

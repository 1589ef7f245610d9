/-! WHO DIES LEAVES ROPES: the class -/
def wFe (W : wW) (r hs : Nat) : Bool := !rH (wRo W r) && (decide (pc hs ≤ rL (wRo W r)) && decide (wRn W + pc hs ≤ 13))
def wHd (W : wW) (r hs : Nat) : wW :=
  if hs = 0 ∨ lWhom (wFx W r hs) (wLa W) = 4 then wOw W r none
  else if lWhom (wFx W r hs) (wLa W) = 1 then wOw W r (some (gr hs))
  else if lWhom (wFx W r hs) (wLa W) = 2 then wOw W r (wPo W hs)
  else if lWhom (wFx W r hs) (wLa W) = 3 ∧ wFe W r hs = true then wSh W r hs
  else wOw W r (some (lo hs))
theorem lWhom_le (fx : Nat → Nat) : ∀ (L : List (List (Nat × Nat × Nat) × Nat)), (∀ q ∈ L, q.2 ≤ 4) → lWhom fx L ≤ 4
  | [], _ => by show 0 ≤ 4; decide
  | q :: L, h => by
    have ih := lWhom_le fx L (fun x hx => h x (List.mem_cons_of_mem _ hx))
    have h1 := h q List.mem_cons_self
    show (if sHd (sRun fx [] q.1) then q.2 else lWhom fx L) ≤ 4
    split
    · exact h1
    · exact ih
theorem bit_lt {m n i : Nat} (h : m < 2 ^ n) (hb : m.testBit i = true) : i < n := by
  rcases Nat.lt_or_ge i n with h1 | h1
  · exact h1
  · rw [Nat.testBit_lt_two_pow (Nat.lt_of_lt_of_le h (Nat.pow_le_pow_right (n := 2) (by decide) h1))] at hb
    cases hb
theorem lo_pe {W : wW} {hs : Nat} (hP8 : wPe W ≤ 8) (h : hs < 2 ^ wPe W) (h0 : hs ≠ 0) : lo hs < wPe W := by
  have h8 : (2 : Nat) ^ wPe W ≤ 2 ^ 8 := Nat.pow_le_pow_right (by decide) hP8
  have h1 := lo_lt (m := hs) (by omega) h0
  exact bit_lt h (fs_yes (fun p => hs.testBit p) 8 h1)
theorem gr_pe {W : wW} {hs : Nat} (hP8 : wPe W ≤ 8) (h : hs < 2 ^ wPe W) (h0 : hs ≠ 0) : gr hs < wPe W := by
  have h8 : (2 : Nat) ^ wPe W ≤ 2 ^ 8 := Nat.pow_le_pow_right (by decide) hP8
  have h1 := gr_lt (m := hs) (by omega) h0
  exact bit_lt h (fs_yes (fun p => hs.testBit (7 - p)) 8 h1)
theorem pc_pos {m : Nat} (hm : m < 256) (h0 : m ≠ 0) : 0 < pc m := by
  obtain ⟨i, h1, h2⟩ := bit_ex hm h0
  have := pc_strict (a := m) (b := 0) (fun j _ hj => by rw [Nat.zero_testBit] at hj; cases hj) ⟨i, by omega, h2, Nat.zero_testBit _⟩
  omega
theorem wHe_lt2 (W : wW) (p : Nat) : wHe W p < 2 ^ wPe W := mk_lt _ _
section BC
variable {s : mS} {a r : Nat} {W : wW}
theorem FI.f7 {t : mS} (h : FI (fun b => b = a + 7) s t) : FI (wA a) s t := h.mo fun b hb => by
  have hb : b = a + 7 := hb
  exact ⟨by omega, by omega⟩
theorem c_hd33 (h : CW s a W) (ha : a + 44 ≤ 124) (hr : r < 12) (h0 : 0 < rN (wRo W r)) {hs wh : Nat} (hs8 : hs < 2 ^ wPe W) (hwh : wh = lWhom (wFx W r hs) (wLa W)) : ∃ t, fX7_handDown_33 a (nI r) (nI hs) (nI wh) s = some ((), t) ∧ FI (wA a) s t ∧ CW t a (wHd W r hs) := by
  have hP8 := h.wi.2.2.2.2.2.2.2.1
  have h28 : (2 : Nat) ^ wPe W ≤ 2 ^ 8 := Nat.pow_le_pow_right (by decide) hP8
  have hw4 : wh ≤ 4 := by
    rw [hwh]
    exact lWhom_le _ _ (fun q hq => (h.wi.2.2.2.2.2.2.2.2.2.2.2.2.2.2.2.2.2 q hq).1)
  have hFw : ∀ x, FI (wA a) s (wI s (a + 8 + 3 * r) 0 x) := fun x => FI.w _ _ ⟨by omega, by omega⟩
  unfold fX7_handDown_33 fX7_handDown_43 fX7_handDown_130 wHd
  rw [← hwh]
  simp (disch := omega) only [li_0, li_1, li_2, li_3, li_4, li_5, li_6, li_7, li_8, li_9, li_10, li_11, li_12, li_13, li_14, li_15, li_16, li_17, li_20, li_24, li_25, li_29, li_31, li_32, li_33, li_37, li_40, li_41, li_48, li_49, li_50, li_56, li_57, li_59, li_60, li_61, li_62, li_63, li_70, li_73, li_85, li_97, li_98, li_99, li_100, li_101, li_102, li_103, li_104, li_105, li_107, li_108, li_109, li_110, li_111, li_112, li_114, li_115, li_116, li_117, li_118, li_119, li_121, li_122, li_140, li_193, li_200, li_240, li_255, li_289, li_290, li_300, li_302, li_314, li_326, li_860, li_880, li_900, li_999, li_1024, li_2801, li_3440, li_3441, li_3442, li_3443, li_3444, li_3447, li_3448, li_3449, li_3457, li_3465, li_3469, li_3473, li_3477, li_3501, li_3513, li_3525, li_3537, li_3633, li_3730, li_3742, li_3754, li_3766, li_4095, li_4096, li_4300, li_9011, li_9999, li_10000, li_36864, li_65536, li_1000000, ll_0, ll_1, ll_100, ll_11, ll_16, ll_20, ll_3, ll_32, ll_50, ll_8, ll_96, ll_99, ll_9999, ne_m1, e_if, e_ret, e_rz0, e_rz1, e_rzb, e_call, bCallX_eq, nI_add, nI_mul, nI_succ1, le_i, lt_i, eq_i, m1_i, m1_le, m1_lt, m1_ge, m1_eq, ite_true, ite_false, if_true, if_false]
  by_cases h1 : hs = 0
  · rw [if_pos h1, if_pos (Or.inl h1)]
    refine ⟨_, ?_, hFw mI, c_own (o := none) h ha hr h0 (fun p e => by cases e)⟩
    simp (disch := omega) only [g_aro h, g_ro h, xPI (h.rs hr).1, li_0, li_1, li_2, li_3, li_4, li_5, li_6, li_7, li_8, li_9, li_10, li_11, li_12, li_13, li_14, li_15, li_16, li_17, li_20, li_24, li_25, li_29, li_31, li_32, li_33, li_37, li_40, li_41, li_48, li_49, li_50, li_56, li_57, li_59, li_60, li_61, li_62, li_63, li_70, li_73, li_85, li_97, li_98, li_99, li_100, li_101, li_102, li_103, li_104, li_105, li_107, li_108, li_109, li_110, li_111, li_112, li_114, li_115, li_116, li_117, li_118, li_119, li_121, li_122, li_140, li_193, li_200, li_240, li_255, li_289, li_290, li_300, li_302, li_314, li_326, li_860, li_880, li_900, li_999, li_1024, li_2801, li_3440, li_3441, li_3442, li_3443, li_3444, li_3447, li_3448, li_3449, li_3457, li_3465, li_3469, li_3473, li_3477, li_3501, li_3513, li_3525, li_3537, li_3633, li_3730, li_3742, li_3754, li_3766, li_4095, li_4096, li_4300, li_9011, li_9999, li_10000, li_36864, li_65536, li_1000000, ll_0, ll_1, ll_100, ll_11, ll_16, ll_20, ll_3, ll_32, ll_50, ll_8, ll_96, ll_99, ll_9999, ne_m1, e_if, e_ret, e_rz0, e_rz1, e_rzb, e_call, bCallX_eq, nI_add, nI_mul, nI_succ1, le_i, lt_i, eq_i, m1_i, m1_le, m1_lt, m1_ge, m1_eq, ite_true, ite_false, if_true, if_false]
  · rw [if_neg h1]
    have hlo := lo_lt (m := hs) (by omega) h1
    have hlop := lo_pe hP8 hs8 h1
    by_cases h4 : wh = 4
    · rw [if_pos h4, if_pos (Or.inr h4)]
      refine ⟨_, ?_, hFw mI, c_own (o := none) h ha hr h0 (fun p e => by cases e)⟩
      simp (disch := omega) only [g_aro h, g_ro h, xPI (h.rs hr).1, li_0, li_1, li_2, li_3, li_4, li_5, li_6, li_7, li_8, li_9, li_10, li_11, li_12, li_13, li_14, li_15, li_16, li_17, li_20, li_24, li_25, li_29, li_31, li_32, li_33, li_37, li_40, li_41, li_48, li_49, li_50, li_56, li_57, li_59, li_60, li_61, li_62, li_63, li_70, li_73, li_85, li_97, li_98, li_99, li_100, li_101, li_102, li_103, li_104, li_105, li_107, li_108, li_109, li_110, li_111, li_112, li_114, li_115, li_116, li_117, li_118, li_119, li_121, li_122, li_140, li_193, li_200, li_240, li_255, li_289, li_290, li_300, li_302, li_314, li_326, li_860, li_880, li_900, li_999, li_1024, li_2801, li_3440, li_3441, li_3442, li_3443, li_3444, li_3447, li_3448, li_3449, li_3457, li_3465, li_3469, li_3473, li_3477, li_3501, li_3513, li_3525, li_3537, li_3633, li_3730, li_3742, li_3754, li_3766, li_4095, li_4096, li_4300, li_9011, li_9999, li_10000, li_36864, li_65536, li_1000000, ll_0, ll_1, ll_100, ll_11, ll_16, ll_20, ll_3, ll_32, ll_50, ll_8, ll_96, ll_99, ll_9999, ne_m1, e_if, e_ret, e_rz0, e_rz1, e_rzb, e_call, bCallX_eq, nI_add, nI_mul, nI_succ1, le_i, lt_i, eq_i, m1_i, m1_le, m1_lt, m1_ge, m1_eq, ite_true, ite_false, if_true, if_false]
    · rw [if_neg h4, if_neg (show ¬ (hs = 0 ∨ wh = 4) by omega)]
      by_cases h2 : wh = 1
      · rw [if_pos h2, if_pos h2]
        refine ⟨_, ?_, hFw (nI (gr hs)), c_own (o := some (gr hs)) h ha hr h0 (fun p e => by cases e; exact gr_pe hP8 hs8 h1)⟩
        simp (disch := omega) only [g_aro h, g_ro h, xPI (h.rs hr).1, c_greatestOf (show hs < 256 by omega) h1, li_0, li_1, li_2, li_3, li_4, li_5, li_6, li_7, li_8, li_9, li_10, li_11, li_12, li_13, li_14, li_15, li_16, li_17, li_20, li_24, li_25, li_29, li_31, li_32, li_33, li_37, li_40, li_41, li_48, li_49, li_50, li_56, li_57, li_59, li_60, li_61, li_62, li_63, li_70, li_73, li_85, li_97, li_98, li_99, li_100, li_101, li_102, li_103, li_104, li_105, li_107, li_108, li_109, li_110, li_111, li_112, li_114, li_115, li_116, li_117, li_118, li_119, li_121, li_122, li_140, li_193, li_200, li_240, li_255, li_289, li_290, li_300, li_302, li_314, li_326, li_860, li_880, li_900, li_999, li_1024, li_2801, li_3440, li_3441, li_3442, li_3443, li_3444, li_3447, li_3448, li_3449, li_3457, li_3465, li_3469, li_3473, li_3477, li_3501, li_3513, li_3525, li_3537, li_3633, li_3730, li_3742, li_3754, li_3766, li_4095, li_4096, li_4300, li_9011, li_9999, li_10000, li_36864, li_65536, li_1000000, ll_0, ll_1, ll_100, ll_11, ll_16, ll_20, ll_3, ll_32, ll_50, ll_8, ll_96, ll_99, ll_9999, ne_m1, e_if, e_ret, e_rz0, e_rz1, e_rzb, e_call, bCallX_eq, nI_add, nI_mul, nI_succ1, le_i, lt_i, eq_i, m1_i, m1_le, m1_lt, m1_ge, m1_eq, ite_true, ite_false, if_true, if_false]
      · rw [if_neg h2, if_neg h2]
        by_cases h3 : wh = 2
        · rw [if_pos h3, if_pos h3]
          refine ⟨_, ?_, hFw (oI (wPo W hs)), c_own (o := wPo W hs) h ha hr h0 (fun p e => wPo_lt W hs _ p e)⟩
          simp (disch := omega) only [g_aro h, g_ro h, xPI (h.rs hr).1, e_callV h.k, c_poorestOf h (show hs < 256 by omega), li_0, li_1, li_2, li_3, li_4, li_5, li_6, li_7, li_8, li_9, li_10, li_11, li_12, li_13, li_14, li_15, li_16, li_17, li_20, li_24, li_25, li_29, li_31, li_32, li_33, li_37, li_40, li_41, li_48, li_49, li_50, li_56, li_57, li_59, li_60, li_61, li_62, li_63, li_70, li_73, li_85, li_97, li_98, li_99, li_100, li_101, li_102, li_103, li_104, li_105, li_107, li_108, li_109, li_110, li_111, li_112, li_114, li_115, li_116, li_117, li_118, li_119, li_121, li_122, li_140, li_193, li_200, li_240, li_255, li_289, li_290, li_300, li_302, li_314, li_326, li_860, li_880, li_900, li_999, li_1024, li_2801, li_3440, li_3441, li_3442, li_3443, li_3444, li_3447, li_3448, li_3449, li_3457, li_3465, li_3469, li_3473, li_3477, li_3501, li_3513, li_3525, li_3537, li_3633, li_3730, li_3742, li_3754, li_3766, li_4095, li_4096, li_4300, li_9011, li_9999, li_10000, li_36864, li_65536, li_1000000, ll_0, ll_1, ll_100, ll_11, ll_16, ll_20, ll_3, ll_32, ll_50, ll_8, ll_96, ll_99, ll_9999, ne_m1, e_if, e_ret, e_rz0, e_rz1, e_rzb, e_call, bCallX_eq, nI_add, nI_mul, nI_succ1, le_i, lt_i, eq_i, m1_i, m1_le, m1_lt, m1_ge, m1_eq, ite_true, ite_false, if_true, if_false]
        · rw [if_neg h3, if_neg h3]
          have helse : ∃ t, (bGR 7 a 10 (fun x1 => bAR 14 x1 (nI r) (fun x2 => bCall (fX7_leastOf (nI hs)) (fun x3 => bPI 3 x2 0 x3 (bRet ()))))) s = some ((), t) ∧ FI (wA a) s t ∧ CW t a (wOw W r (some (lo hs))) := by
            refine ⟨_, ?_, hFw (nI (lo hs)), c_own (o := some (lo hs)) h ha hr h0 (fun p e => by cases e; exact hlop)⟩
            simp (disch := omega) only [g_aro h, g_ro h, xPI (h.rs hr).1, c_leastOf (show hs < 2147483648 by omega), li_0, li_1, li_2, li_3, li_4, li_5, li_6, li_7, li_8, li_9, li_10, li_11, li_12, li_13, li_14, li_15, li_16, li_17, li_20, li_24, li_25, li_29, li_31, li_32, li_33, li_37, li_40, li_41, li_48, li_49, li_50, li_56, li_57, li_59, li_60, li_61, li_62, li_63, li_70, li_73, li_85, li_97, li_98, li_99, li_100, li_101, li_102, li_103, li_104, li_105, li_107, li_108, li_109, li_110, li_111, li_112, li_114, li_115, li_116, li_117, li_118, li_119, li_121, li_122, li_140, li_193, li_200, li_240, li_255, li_289, li_290, li_300, li_302, li_314, li_326, li_860, li_880, li_900, li_999, li_1024, li_2801, li_3440, li_3441, li_3442, li_3443, li_3444, li_3447, li_3448, li_3449, li_3457, li_3465, li_3469, li_3473, li_3477, li_3501, li_3513, li_3525, li_3537, li_3633, li_3730, li_3742, li_3754, li_3766, li_4095, li_4096, li_4300, li_9011, li_9999, li_10000, li_36864, li_65536, li_1000000, ll_0, ll_1, ll_100, ll_11, ll_16, ll_20, ll_3, ll_32, ll_50, ll_8, ll_96, ll_99, ll_9999, ne_m1, e_if, e_ret, e_rz0, e_rz1, e_rzb, e_call, bCallX_eq, nI_add, nI_mul, nI_succ1, le_i, lt_i, eq_i, m1_i, m1_le, m1_lt, m1_ge, m1_eq, ite_true, ite_false, if_true, if_false, nO, hlo]
          by_cases h5 : wh = 3
          · rw [if_pos h5]
            have hpc := pc_le hs
            have hpos := pc_pos (m := hs) (by omega) h1
            have hrn : wRn W ≤ 12 := wRn_le W 12
            have hrl := rL_b (h.ri r)
            have hfe : fX7_isForEach a (a + 8 + 3 * r) (nI (pc hs)) s = some (nI (wFe W r hs).toNat, s) := by
              unfold fX7_isForEach wFe
              simp (disch := omega) only [xGIe (h.rs hr).1 (h.rd hr).2.2.2.2.1, xGIe (h.rs hr).1 (h.rd hr).2.2.2.1, e_callV h.k, c_countRopes h, li_0, li_1, li_2, li_3, li_4, li_5, li_6, li_7, li_8, li_9, li_10, li_11, li_12, li_13, li_14, li_15, li_16, li_17, li_20, li_24, li_25, li_29, li_31, li_32, li_33, li_37, li_40, li_41, li_48, li_49, li_50, li_56, li_57, li_59, li_60, li_61, li_62, li_63, li_70, li_73, li_85, li_97, li_98, li_99, li_100, li_101, li_102, li_103, li_104, li_105, li_107, li_108, li_109, li_110, li_111, li_112, li_114, li_115, li_116, li_117, li_118, li_119, li_121, li_122, li_140, li_193, li_200, li_240, li_255, li_289, li_290, li_300, li_302, li_314, li_326, li_860, li_880, li_900, li_999, li_1024, li_2801, li_3440, li_3441, li_3442, li_3443, li_3444, li_3447, li_3448, li_3449, li_3457, li_3465, li_3469, li_3473, li_3477, li_3501, li_3513, li_3525, li_3537, li_3633, li_3730, li_3742, li_3754, li_3766, li_4095, li_4096, li_4300, li_9011, li_9999, li_10000, li_36864, li_65536, li_1000000, ll_0, ll_1, ll_100, ll_11, ll_16, ll_20, ll_3, ll_32, ll_50, ll_8, ll_96, ll_99, ll_9999, ne_m1, e_if, e_ret, e_rz0, e_rz1, e_rzb, e_call, bCallX_eq, nI_add, nI_mul, nI_succ1, le_i, lt_i, eq_i, m1_i, m1_le, m1_lt, m1_ge, m1_eq, ite_true, ite_false, if_true, if_false, bt0, sub_i]
              cases rH (wRo W r) with
              | true => rfl
              | false =>
                simp only [if_true]
                by_cases c1 : rL (wRo W r) < pc hs
                · rw [if_pos c1]; simp [show ¬ pc hs ≤ rL (wRo W r) by omega]
                · rw [if_neg c1]
                  exact ite_01 (by simp; omega)
            simp (disch := omega) only [g_aro h, g_ro h, j_bitCount, e_callV h.k, hfe, li_0, li_1, li_2, li_3, li_4, li_5, li_6, li_7, li_8, li_9, li_10, li_11, li_12, li_13, li_14, li_15, li_16, li_17, li_20, li_24, li_25, li_29, li_31, li_32, li_33, li_37, li_40, li_41, li_48, li_49, li_50, li_56, li_57, li_59, li_60, li_61, li_62, li_63, li_70, li_73, li_85, li_97, li_98, li_99, li_100, li_101, li_102, li_103, li_104, li_105, li_107, li_108, li_109, li_110, li_111, li_112, li_114, li_115, li_116, li_117, li_118, li_119, li_121, li_122, li_140, li_193, li_200, li_240, li_255, li_289, li_290, li_300, li_302, li_314, li_326, li_860, li_880, li_900, li_999, li_1024, li_2801, li_3440, li_3441, li_3442, li_3443, li_3444, li_3447, li_3448, li_3449, li_3457, li_3465, li_3469, li_3473, li_3477, li_3501, li_3513, li_3525, li_3537, li_3633, li_3730, li_3742, li_3754, li_3766, li_4095, li_4096, li_4300, li_9011, li_9999, li_10000, li_36864, li_65536, li_1000000, ll_0, ll_1, ll_100, ll_11, ll_16, ll_20, ll_3, ll_32, ll_50, ll_8, ll_96, ll_99, ll_9999, ne_m1, e_if, e_ret, e_rz0, e_rz1, e_rzb, e_call, bCallX_eq, nI_add, nI_mul, nI_succ1, le_i, lt_i, eq_i, m1_i, m1_le, m1_lt, m1_ge, m1_eq, ite_true, ite_false, if_true, if_false, bt0]
            by_cases h6 : wFe W r hs = true
            · have h7 := h6
              unfold wFe at h7
              rw [Bool.and_eq_true, Bool.and_eq_true, decide_eq_true_eq, decide_eq_true_eq] at h7
              obtain ⟨t, t1, t2, t3⟩ := c_shareOut h ha hr h0 hs8 hpos h7.2.1 h7.2.2
              refine ⟨t, ?_, t2, ?_⟩
              · rw [if_neg (by rw [h6]; decide)]
                simp only [t1]
              · rw [if_pos ⟨h5, h6⟩]; exact t3
            · have h6' : wFe W r hs = false := by simpa using h6
              rw [if_pos h6', if_neg (fun e => h6 e.2)]
              obtain ⟨t, t1, t2, t3⟩ := helse
              refine ⟨t, ?_, t2, t3⟩
              first
                | exact t1
                | (rw [← t1]; simp (disch := omega) only [g_aro h, g_ro h, li_0, li_1, li_2, li_3, li_4, li_5, li_6, li_7, li_8, li_9, li_10, li_11, li_12, li_13, li_14, li_15, li_16, li_17, li_20, li_24, li_25, li_29, li_31, li_32, li_33, li_37, li_40, li_41, li_48, li_49, li_50, li_56, li_57, li_59, li_60, li_61, li_62, li_63, li_70, li_73, li_85, li_97, li_98, li_99, li_100, li_101, li_102, li_103, li_104, li_105, li_107, li_108, li_109, li_110, li_111, li_112, li_114, li_115, li_116, li_117, li_118, li_119, li_121, li_122, li_140, li_193, li_200, li_240, li_255, li_289, li_290, li_300, li_302, li_314, li_326, li_860, li_880, li_900, li_999, li_1024, li_2801, li_3440, li_3441, li_3442, li_3443, li_3444, li_3447, li_3448, li_3449, li_3457, li_3465, li_3469, li_3473, li_3477, li_3501, li_3513, li_3525, li_3537, li_3633, li_3730, li_3742, li_3754, li_3766, li_4095, li_4096, li_4300, li_9011, li_9999, li_10000, li_36864, li_65536, li_1000000, ll_0, ll_1, ll_100, ll_11, ll_16, ll_20, ll_3, ll_32, ll_50, ll_8, ll_96, ll_99, ll_9999, ne_m1, e_if, e_ret, e_rz0, e_rz1, e_rzb, e_call, bCallX_eq, nI_add, nI_mul, nI_succ1, le_i, lt_i, eq_i, m1_i, m1_le, m1_lt, m1_ge, m1_eq, ite_true, ite_false, if_true, if_false])
          · rw [if_neg h5, if_neg (fun e => h5 e.1)]
            obtain ⟨t, t1, t2, t3⟩ := helse
            refine ⟨t, ?_, t2, t3⟩
            first
              | exact t1
              | (rw [← t1]; simp (disch := omega) only [g_aro h, g_ro h, li_0, li_1, li_2, li_3, li_4, li_5, li_6, li_7, li_8, li_9, li_10, li_11, li_12, li_13, li_14, li_15, li_16, li_17, li_20, li_24, li_25, li_29, li_31, li_32, li_33, li_37, li_40, li_41, li_48, li_49, li_50, li_56, li_57, li_59, li_60, li_61, li_62, li_63, li_70, li_73, li_85, li_97, li_98, li_99, li_100, li_101, li_102, li_103, li_104, li_105, li_107, li_108, li_109, li_110, li_111, li_112, li_114, li_115, li_116, li_117, li_118, li_119, li_121, li_122, li_140, li_193, li_200, li_240, li_255, li_289, li_290, li_300, li_302, li_314, li_326, li_860, li_880, li_900, li_999, li_1024, li_2801, li_3440, li_3441, li_3442, li_3443, li_3444, li_3447, li_3448, li_3449, li_3457, li_3465, li_3469, li_3473, li_3477, li_3501, li_3513, li_3525, li_3537, li_3633, li_3730, li_3742, li_3754, li_3766, li_4095, li_4096, li_4300, li_9011, li_9999, li_10000, li_36864, li_65536, li_1000000, ll_0, ll_1, ll_100, ll_11, ll_16, ll_20, ll_3, ll_32, ll_50, ll_8, ll_96, ll_99, ll_9999, ne_m1, e_if, e_ret, e_rz0, e_rz1, e_rzb, e_call, bCallX_eq, nI_add, nI_mul, nI_succ1, le_i, lt_i, eq_i, m1_i, m1_le, m1_lt, m1_ge, m1_eq, ite_true, ite_false, if_true, if_false])
theorem c_handDown (h : CW s a W) (ha : a + 44 ≤ 124) (hr : r < 12) (h0 : 0 < rN (wRo W r)) {hs : Nat} (hs8 : hs < 2 ^ wPe W) : ∃ t, fX7_handDown a (nI r) (nI hs) s = some ((), t) ∧ FI (wA a) s t ∧ CW t a (wHd W r hs) := by
  have hP8 := h.wi.2.2.2.2.2.2.2.1
  have h28 : (2 : Nat) ^ wPe W ≤ 2 ^ 8 := Nat.pow_le_pow_right (by decide) hP8
  obtain ⟨t1, e1, e2, e3, e4⟩ := c_findFacts h ha hr h0 (hs := hs) (by omega)
  obtain ⟨t2, f1, f2, f3⟩ := c_hd33 e3 ha hr h0 hs8 rfl
  refine ⟨t2, ?_, e2.f7.tr f2, f3⟩
  unfold fX7_handDown
  simp (disch := omega) only [g_aro h, g_ro h, e_callV h.k, e1, li_0, li_1, li_2, li_3, li_4, li_5, li_6, li_7, li_8, li_9, li_10, li_11, li_12, li_13, li_14, li_15, li_16, li_17, li_20, li_24, li_25, li_29, li_31, li_32, li_33, li_37, li_40, li_41, li_48, li_49, li_50, li_56, li_57, li_59, li_60, li_61, li_62, li_63, li_70, li_73, li_85, li_97, li_98, li_99, li_100, li_101, li_102, li_103, li_104, li_105, li_107, li_108, li_109, li_110, li_111, li_112, li_114, li_115, li_116, li_117, li_118, li_119, li_121, li_122, li_140, li_193, li_200, li_240, li_255, li_289, li_290, li_300, li_302, li_314, li_326, li_860, li_880, li_900, li_999, li_1024, li_2801, li_3440, li_3441, li_3442, li_3443, li_3444, li_3447, li_3448, li_3449, li_3457, li_3465, li_3469, li_3473, li_3477, li_3501, li_3513, li_3525, li_3537, li_3633, li_3730, li_3742, li_3754, li_3766, li_4095, li_4096, li_4300, li_9011, li_9999, li_10000, li_36864, li_65536, li_1000000, ll_0, ll_1, ll_100, ll_11, ll_16, ll_20, ll_3, ll_32, ll_50, ll_8, ll_96, ll_99, ll_9999, ne_m1, e_if, e_ret, e_rz0, e_rz1, e_rzb, e_call, bCallX_eq, nI_add, nI_mul, nI_succ1, le_i, lt_i, eq_i, m1_i, m1_le, m1_lt, m1_ge, m1_eq, ite_true, ite_false, if_true, if_false]
  rw [w_G16 e3.1]
  by_cases hl : sP t1 a 16 = 0
  · rw [e_if, if_neg (fun h => h hl)]
    have hL : wLa W = [] := by
      rcases e3.2.2.2 with hh | hh
      · exact hh.2
      · omega
    rw [hL] at f1
    exact f1
  · rw [e_if, if_pos hl, w_G16 e3.1, g_afc e3]
    have hk : (sH t1 (sP t1 a 16)).1 = 0 := by
      rcases e3.2.2.2 with hh | hh
      · exact absurd hh.1 hl
      · exact hh.2.1
    have hw := l_whomFor e3.2.2.2 (e3.wi.2.2.2.2.2.2.2.2.2.2.2.2.2.2.2) hl (g := a + 7) e3.1.2.2.2.2.2.2.2.2.2.2.2.2.2.2.1 e4 (wFx_b e3.wi r hs)
    rw [e_callV hk, x_call hw]
    exact f1
end BC
def wCk (W : wW) (p k : Nat) : wW := wSetRo W (fun r => if r < k ∧ rB (wRo W r) = some p then roB (wRo W r) none else wRo W r)
def wBk (W : wW) (p : Nat) (k : Nat) : wW := it (fun r V => if rT (wRo V r) && decide (rO (wRo V r) = some p) then wHd (wBw V r none) r (wHe W p) else V) (wCk W p 12) k
def wBu (W : wW) (p : Nat) : wW := wBk W p 12
/-- the same but for the ropes -/
def RS (W V : wW) : Prop := ∃ f, V = wSetRo W f
theorem RS.rf (W : wW) : RS W W := ⟨wRo W, rfl⟩
theorem RS.set (W : wW) (f : Nat → rR) : RS W (wSetRo W f) := ⟨f, rfl⟩
theorem RS.tr {W V U : wW} (h1 : RS W V) (h2 : RS V U) : RS W U := by
  obtain ⟨f, rfl⟩ := h1
  obtain ⟨g, rfl⟩ := h2
  exact ⟨g, rfl⟩
theorem RS.pe {W V : wW} (h : RS W V) : wPe V = wPe W := by obtain ⟨f, rfl⟩ := h; rfl
theorem RS.yr {W V : wW} (h : RS W V) : wYr V = wYr W := by obtain ⟨f, rfl⟩ := h; rfl
theorem RS.di {W V : wW} (h : RS W V) : wDi V = wDi W := by obtain ⟨f, rfl⟩ := h; rfl
theorem RS.he {W V : wW} (h : RS W V) (p : Nat) : wHe V p = wHe W p := by obtain ⟨f, rfl⟩ := h; rfl
theorem RS.la {W V : wW} (h : RS W V) : wLa V = wLa W := by obtain ⟨f, rfl⟩ := h; rfl
theorem RS.sh (W : wW) (r hs : Nat) : ∀ p, RS W (shS W r hs p).1
  | 0 => RS.rf W
  | p + 1 => by
    have ih := RS.sh W r hs p
    show RS W (shP _ _ _ _ p (shS W r hs p)).1
    unfold shP
    split
    · split
      · exact ih.tr ((RS.set _ _).tr (RS.set _ _))
      · exact ih.tr (RS.set _ _)
    · exact ih
theorem RS.hd (W : wW) (r hs : Nat) : RS W (wHd W r hs) := by
  unfold wHd
  split
  · exact RS.set _ _
  · split
    · exact RS.set _ _
    · split
      · exact RS.set _ _
      · split
        · exact RS.sh W r hs _
        · exact RS.set _ _
theorem RS.bk (W : wW) (p : Nat) : ∀ k, RS W (wBk W p k)
  | 0 => RS.set _ _
  | k + 1 => by
    have ih := RS.bk W p k
    show RS W (if _ then _ else _)
    split
    · exact ih.tr ((RS.set _ _).tr (RS.hd _ _ _))
    · exact ih
theorem wCk_s (W : wW) (p k : Nat) : wCk W p (k + 1) = if rB (wRo W k) = some p then wBw (wCk W p k) k none else wCk W p k := by
  have hk : wRo (wCk W p k) k = wRo W k := by
    show (if k < k ∧ _ then _ else _) = _
    rw [if_neg (by omega)]
  by_cases h : rB (wRo W k) = some p
  · rw [if_pos h]
    unfold wBw
    rw [hk]
    show wSetRo W _ = wSetRo W _
    congr 1
    funext r
    show _ = up _ k _ r
    by_cases hr : r = k
    · subst hr; rw [up_s, if_pos ⟨by omega, h⟩]
    · rw [up_n _ _ hr]
      show _ = (if r < k ∧ _ then _ else _)
      by_cases h2 : r < k
      · by_cases h3 : rB (wRo W r) = some p
        · rw [if_pos ⟨by omega, h3⟩, if_pos ⟨h2, h3⟩]
        · rw [if_neg (fun e => h3 e.2), if_neg (fun e => h3 e.2)]
      · rw [if_neg (by omega), if_neg (fun e => h2 e.1)]
  · rw [if_neg h]
    show wSetRo W _ = wSetRo W _
    congr 1
    funext r
    by_cases h2 : r < k
    · by_cases h3 : rB (wRo W r) = some p
      · rw [if_pos ⟨by omega, h3⟩, if_pos ⟨h2, h3⟩]
      · rw [if_neg (fun e => h3 e.2), if_neg (fun e => h3 e.2)]
    · rw [if_neg (fun e : r < k ∧ rB (wRo W r) = some p => h2 e.1)]
      by_cases h4 : r = k
      · rw [h4, if_neg (fun e => h e.2)]
      · rw [if_neg (by omega)]
section BC2
variable {s : mS} {a : Nat} {W : wW}
theorem c_bury (h : CW s a W) (ha : a + 44 ≤ 124) {p : Nat} (hp : p < wPe W) : ∃ t, fX7_bury a (nI p) s = some ((), t) ∧ FI (wA a) s t ∧ CW t a (wBu W p) := by
  have hP8 := h.wi.2.2.2.2.2.2.2.1
  unfold fX7_bury
  have hFw : ∀ (u : mS) (r : Nat) (x : Int32), r < 12 → FI (wA a) u (wI u (a + 8 + 3 * r) 1 x) := fun u r x hr => FI.w _ _ ⟨by omega, by omega⟩
  have key2 : ∀ u, FI (wA a) s u → CW u a (wCk W p 12) → ∃ q, fX7_bury_37 a (nI p) u = some q ∧ FI (wA a) s q.2 ∧ CW q.2 a (wBu W p) := by
    intro u hF hu
    have hRS0 : RS W (wCk W p 12) := RS.set _ _
    unfold fX7_bury_37
    rw [e_callV hu.k, x_call (c_heirSet hu (show p < wPe (wCk W p 12) from hp)), hRS0.he]
    refine loop_s (fun n k => fX7_bury_45 n a (nI p) (nI (wHe W p)) (nI k)) (fun k v => FI (wA a) s v ∧ CW v a (wBk W p k)) 12 (fun q => FI (wA a) s q.2 ∧ CW q.2 a (wBu W p)) ?_ ?_ fu 0 u (by omega) (by unfold fu; omega) ⟨hF, hu⟩
    · rintro n k v hk ⟨hFv, hv⟩
      have hk' : ¬ 12 ≤ k := by omega
      have hRS := RS.bk W p k
      have eS : wBk W p (k + 1) = if rT (wRo (wBk W p k) k) && decide (rO (wRo (wBk W p k) k) = some p) then wHd (wBw (wBk W p k) k none) k (wHe W p) else wBk W p k := rfl
      rw [eS]
      generalize wBk W p k = V at hv hRS
      have hb := hv.ri k
      by_cases h1 : rT (wRo V k) = true
      · have h0 := rT_p h1
        by_cases h2 : rO (wRo V k) = some p
        · have hv1 := c_bor0 hv ha hk
          have hh : wHe W p < 2 ^ wPe (wBw V k none) := by
            rw [show wPe (wBw V k none) = wPe V from rfl, hRS.pe]
            exact wHe_lt2 W p
          have h00 : 0 < rN (wRo (wBw V k none) k) := by
            rw [show wRo (wBw V k none) k = roB (wRo V k) none from up_s _ _ _]
            exact h0
          obtain ⟨t, t1, t2, t3⟩ := c_handDown hv1 ha hk h00 hh
          refine ⟨t, ⟨(hFv.tr (hFw v k mI hk)).tr t2, ?_⟩, ?_⟩
          · rw [if_pos (by rw [h1, h2]; simp)]; exact t3
          · show fX7_bury_45 (n + 1) a _ _ _ v = _
            rw [qX7_bury_45]
            simp (disch := omega) only [g_aro hv, g_ro hv, e_callV (hv.rs hk).1, t_isThere (hv.rs hk) (hv.rd hk) hb, xGIe (hv.rs hk).1 (hv.rd hk).1, xPI (hv.rs hk).1, li_0, li_1, li_2, li_3, li_4, li_5, li_6, li_7, li_8, li_9, li_10, li_11, li_12, li_13, li_14, li_15, li_16, li_17, li_20, li_24, li_25, li_29, li_31, li_32, li_33, li_37, li_40, li_41, li_48, li_49, li_50, li_56, li_57, li_59, li_60, li_61, li_62, li_63, li_70, li_73, li_85, li_97, li_98, li_99, li_100, li_101, li_102, li_103, li_104, li_105, li_107, li_108, li_109, li_110, li_111, li_112, li_114, li_115, li_116, li_117, li_118, li_119, li_121, li_122, li_140, li_193, li_200, li_240, li_255, li_289, li_290, li_300, li_302, li_314, li_326, li_860, li_880, li_900, li_999, li_1024, li_2801, li_3440, li_3441, li_3442, li_3443, li_3444, li_3447, li_3448, li_3449, li_3457, li_3465, li_3469, li_3473, li_3477, li_3501, li_3513, li_3525, li_3537, li_3633, li_3730, li_3742, li_3754, li_3766, li_4095, li_4096, li_4300, li_9011, li_9999, li_10000, li_36864, li_65536, li_1000000, ll_0, ll_1, ll_100, ll_11, ll_16, ll_20, ll_3, ll_32, ll_50, ll_8, ll_96, ll_99, ll_9999, ne_m1, e_if, e_ret, e_rz0, e_rz1, e_rzb, e_call, bCallX_eq, nI_add, nI_mul, nI_succ1, le_i, lt_i, eq_i, m1_i, m1_le, m1_lt, m1_ge, m1_eq, ite_true, ite_false, if_true, if_false, bt0, hk', h1, h2, oI_s, Bool.true_eq_false, e_callV hv1.k, t1]
        · refine ⟨v, ⟨hFv, ?_⟩, ?_⟩
          · rw [if_neg (by simp [h2])]; exact hv
          · show fX7_bury_45 (n + 1) a _ _ _ v = _
            rw [qX7_bury_45]
            simp (disch := omega) only [g_aro hv, g_ro hv, e_callV (hv.rs hk).1, t_isThere (hv.rs hk) (hv.rd hk) hb, xGIe (hv.rs hk).1 (hv.rd hk).1, li_0, li_1, li_2, li_3, li_4, li_5, li_6, li_7, li_8, li_9, li_10, li_11, li_12, li_13, li_14, li_15, li_16, li_17, li_20, li_24, li_25, li_29, li_31, li_32, li_33, li_37, li_40, li_41, li_48, li_49, li_50, li_56, li_57, li_59, li_60, li_61, li_62, li_63, li_70, li_73, li_85, li_97, li_98, li_99, li_100, li_101, li_102, li_103, li_104, li_105, li_107, li_108, li_109, li_110, li_111, li_112, li_114, li_115, li_116, li_117, li_118, li_119, li_121, li_122, li_140, li_193, li_200, li_240, li_255, li_289, li_290, li_300, li_302, li_314, li_326, li_860, li_880, li_900, li_999, li_1024, li_2801, li_3440, li_3441, li_3442, li_3443, li_3444, li_3447, li_3448, li_3449, li_3457, li_3465, li_3469, li_3473, li_3477, li_3501, li_3513, li_3525, li_3537, li_3633, li_3730, li_3742, li_3754, li_3766, li_4095, li_4096, li_4300, li_9011, li_9999, li_10000, li_36864, li_65536, li_1000000, ll_0, ll_1, ll_100, ll_11, ll_16, ll_20, ll_3, ll_32, ll_50, ll_8, ll_96, ll_99, ll_9999, ne_m1, e_if, e_ret, e_rz0, e_rz1, e_rzb, e_call, bCallX_eq, nI_add, nI_mul, nI_succ1, le_i, lt_i, eq_i, m1_i, m1_le, m1_lt, m1_ge, m1_eq, ite_true, ite_false, if_true, if_false, bt0, hk', h1, h2, oI_e (ob hb.2.2.2.1), Bool.true_eq_false]
      · have h1' : rT (wRo V k) = false := by simpa using h1
        refine ⟨v, ⟨hFv, ?_⟩, ?_⟩
        · rw [if_neg (by rw [h1']; simp)]; exact hv
        · show fX7_bury_45 (n + 1) a _ _ _ v = _
          rw [qX7_bury_45]
          simp (disch := omega) only [g_aro hv, g_ro hv, e_callV (hv.rs hk).1, t_isThere (hv.rs hk) (hv.rd hk) hb, li_0, li_1, li_2, li_3, li_4, li_5, li_6, li_7, li_8, li_9, li_10, li_11, li_12, li_13, li_14, li_15, li_16, li_17, li_20, li_24, li_25, li_29, li_31, li_32, li_33, li_37, li_40, li_41, li_48, li_49, li_50, li_56, li_57, li_59, li_60, li_61, li_62, li_63, li_70, li_73, li_85, li_97, li_98, li_99, li_100, li_101, li_102, li_103, li_104, li_105, li_107, li_108, li_109, li_110, li_111, li_112, li_114, li_115, li_116, li_117, li_118, li_119, li_121, li_122, li_140, li_193, li_200, li_240, li_255, li_289, li_290, li_300, li_302, li_314, li_326, li_860, li_880, li_900, li_999, li_1024, li_2801, li_3440, li_3441, li_3442, li_3443, li_3444, li_3447, li_3448, li_3449, li_3457, li_3465, li_3469, li_3473, li_3477, li_3501, li_3513, li_3525, li_3537, li_3633, li_3730, li_3742, li_3754, li_3766, li_4095, li_4096, li_4300, li_9011, li_9999, li_10000, li_36864, li_65536, li_1000000, ll_0, ll_1, ll_100, ll_11, ll_16, ll_20, ll_3, ll_32, ll_50, ll_8, ll_96, ll_99, ll_9999, ne_m1, e_if, e_ret, e_rz0, e_rz1, e_rzb, e_call, bCallX_eq, nI_add, nI_mul, nI_succ1, le_i, lt_i, eq_i, m1_i, m1_le, m1_lt, m1_ge, m1_eq, ite_true, ite_false, if_true, if_false, bt0, hk', h1']
    · rintro n v ⟨hFv, hv⟩
      refine ⟨((), v), ?_, hFv, hv⟩
      show fX7_bury_45 (n + 1) a _ _ _ v = _
      rw [qX7_bury_45]
      simp (disch := omega) only [li_0, li_1, li_2, li_3, li_4, li_5, li_6, li_7, li_8, li_9, li_10, li_11, li_12, li_13, li_14, li_15, li_16, li_17, li_20, li_24, li_25, li_29, li_31, li_32, li_33, li_37, li_40, li_41, li_48, li_49, li_50, li_56, li_57, li_59, li_60, li_61, li_62, li_63, li_70, li_73, li_85, li_97, li_98, li_99, li_100, li_101, li_102, li_103, li_104, li_105, li_107, li_108, li_109, li_110, li_111, li_112, li_114, li_115, li_116, li_117, li_118, li_119, li_121, li_122, li_140, li_193, li_200, li_240, li_255, li_289, li_290, li_300, li_302, li_314, li_326, li_860, li_880, li_900, li_999, li_1024, li_2801, li_3440, li_3441, li_3442, li_3443, li_3444, li_3447, li_3448, li_3449, li_3457, li_3465, li_3469, li_3473, li_3477, li_3501, li_3513, li_3525, li_3537, li_3633, li_3730, li_3742, li_3754, li_3766, li_4095, li_4096, li_4300, li_9011, li_9999, li_10000, li_36864, li_65536, li_1000000, ll_0, ll_1, ll_100, ll_11, ll_16, ll_20, ll_3, ll_32, ll_50, ll_8, ll_96, ll_99, ll_9999, ne_m1, e_if, e_ret, e_rz0, e_rz1, e_rzb, e_call, bCallX_eq, nI_add, nI_mul, nI_succ1, le_i, lt_i, eq_i, m1_i, m1_le, m1_lt, m1_ge, m1_eq, ite_true, ite_false, if_true, if_false, Nat.le_refl]
  have key := loop_s (fun n k => fX7_bury_2 n a (nI p) (nI k)) (fun k v => FI (wA a) s v ∧ CW v a (wCk W p k)) 12 (fun q => FI (wA a) s q.2 ∧ CW q.2 a (wBu W p)) ?_ ?_ fu 0 s (by omega) (by unfold fu; omega) ⟨FI.rf, ?_⟩
  · obtain ⟨⟨⟨⟩, t⟩, h3, h4⟩ := key
    exact ⟨t, h3, h4⟩
  · rintro n k v hk ⟨hFv, hv⟩
    have hk' : ¬ 12 ≤ k := by omega
    have hb := hv.ri k
    have hkk : wRo (wCk W p k) k = wRo W k := by
      show (if k < k ∧ _ then _ else _) = _
      rw [if_neg (by omega)]
    rw [wCk_s]
    rw [hkk] at hb
    have hd := (hv.rd hk).2.1
    rw [hkk] at hd
    by_cases h1 : rB (wRo W k) = some p
    · refine ⟨wI v (a + 8 + 3 * k) 1 mI, ⟨hFv.tr (hFw v k mI hk), ?_⟩, ?_⟩
      · rw [if_pos h1]; exact c_bor0 hv ha hk
      · show fX7_bury_2 (n + 1) a _ _ v = _
        rw [qX7_bury_2]
        simp (disch := omega) only [g_aro hv, g_ro hv, xGIe (hv.rs hk).1 hd, xPI (hv.rs hk).1, li_0, li_1, li_2, li_3, li_4, li_5, li_6, li_7, li_8, li_9, li_10, li_11, li_12, li_13, li_14, li_15, li_16, li_17, li_20, li_24, li_25, li_29, li_31, li_32, li_33, li_37, li_40, li_41, li_48, li_49, li_50, li_56, li_57, li_59, li_60, li_61, li_62, li_63, li_70, li_73, li_85, li_97, li_98, li_99, li_100, li_101, li_102, li_103, li_104, li_105, li_107, li_108, li_109, li_110, li_111, li_112, li_114, li_115, li_116, li_117, li_118, li_119, li_121, li_122, li_140, li_193, li_200, li_240, li_255, li_289, li_290, li_300, li_302, li_314, li_326, li_860, li_880, li_900, li_999, li_1024, li_2801, li_3440, li_3441, li_3442, li_3443, li_3444, li_3447, li_3448, li_3449, li_3457, li_3465, li_3469, li_3473, li_3477, li_3501, li_3513, li_3525, li_3537, li_3633, li_3730, li_3742, li_3754, li_3766, li_4095, li_4096, li_4300, li_9011, li_9999, li_10000, li_36864, li_65536, li_1000000, ll_0, ll_1, ll_100, ll_11, ll_16, ll_20, ll_3, ll_32, ll_50, ll_8, ll_96, ll_99, ll_9999, ne_m1, e_if, e_ret, e_rz0, e_rz1, e_rzb, e_call, bCallX_eq, nI_add, nI_mul, nI_succ1, le_i, lt_i, eq_i, m1_i, m1_le, m1_lt, m1_ge, m1_eq, ite_true, ite_false, if_true, if_false, hk', h1, oI_s]
    · refine ⟨v, ⟨hFv, ?_⟩, ?_⟩
      · rw [if_neg h1]; exact hv
      · show fX7_bury_2 (n + 1) a _ _ v = _
        rw [qX7_bury_2]
        simp (disch := omega) only [g_aro hv, g_ro hv, xGIe (hv.rs hk).1 hd, li_0, li_1, li_2, li_3, li_4, li_5, li_6, li_7, li_8, li_9, li_10, li_11, li_12, li_13, li_14, li_15, li_16, li_17, li_20, li_24, li_25, li_29, li_31, li_32, li_33, li_37, li_40, li_41, li_48, li_49, li_50, li_56, li_57, li_59, li_60, li_61, li_62, li_63, li_70, li_73, li_85, li_97, li_98, li_99, li_100, li_101, li_102, li_103, li_104, li_105, li_107, li_108, li_109, li_110, li_111, li_112, li_114, li_115, li_116, li_117, li_118, li_119, li_121, li_122, li_140, li_193, li_200, li_240, li_255, li_289, li_290, li_300, li_302, li_314, li_326, li_860, li_880, li_900, li_999, li_1024, li_2801, li_3440, li_3441, li_3442, li_3443, li_3444, li_3447, li_3448, li_3449, li_3457, li_3465, li_3469, li_3473, li_3477, li_3501, li_3513, li_3525, li_3537, li_3633, li_3730, li_3742, li_3754, li_3766, li_4095, li_4096, li_4300, li_9011, li_9999, li_10000, li_36864, li_65536, li_1000000, ll_0, ll_1, ll_100, ll_11, ll_16, ll_20, ll_3, ll_32, ll_50, ll_8, ll_96, ll_99, ll_9999, ne_m1, e_if, e_ret, e_rz0, e_rz1, e_rzb, e_call, bCallX_eq, nI_add, nI_mul, nI_succ1, le_i, lt_i, eq_i, m1_i, m1_le, m1_lt, m1_ge, m1_eq, ite_true, ite_false, if_true, if_false, hk', h1, oI_e (ob hb.2.2.2.2.1)]
  · rintro n v ⟨hFv, hv⟩
    show ∃ q, fX7_bury_2 (n + 1) a _ _ v = some q ∧ _
    rw [qX7_bury_2]
    simp (disch := omega) only [li_0, li_1, li_2, li_3, li_4, li_5, li_6, li_7, li_8, li_9, li_10, li_11, li_12, li_13, li_14, li_15, li_16, li_17, li_20, li_24, li_25, li_29, li_31, li_32, li_33, li_37, li_40, li_41, li_48, li_49, li_50, li_56, li_57, li_59, li_60, li_61, li_62, li_63, li_70, li_73, li_85, li_97, li_98, li_99, li_100, li_101, li_102, li_103, li_104, li_105, li_107, li_108, li_109, li_110, li_111, li_112, li_114, li_115, li_116, li_117, li_118, li_119, li_121, li_122, li_140, li_193, li_200, li_240, li_255, li_289, li_290, li_300, li_302, li_314, li_326, li_860, li_880, li_900, li_999, li_1024, li_2801, li_3440, li_3441, li_3442, li_3443, li_3444, li_3447, li_3448, li_3449, li_3457, li_3465, li_3469, li_3473, li_3477, li_3501, li_3513, li_3525, li_3537, li_3633, li_3730, li_3742, li_3754, li_3766, li_4095, li_4096, li_4300, li_9011, li_9999, li_10000, li_36864, li_65536, li_1000000, ll_0, ll_1, ll_100, ll_11, ll_16, ll_20, ll_3, ll_32, ll_50, ll_8, ll_96, ll_99, ll_9999, ne_m1, e_if, e_ret, e_rz0, e_rz1, e_rzb, e_call, bCallX_eq, nI_add, nI_mul, nI_succ1, le_i, lt_i, eq_i, m1_i, m1_le, m1_lt, m1_ge, m1_eq, ite_true, ite_false, if_true, if_false, Nat.le_refl]
    exact key2 v hFv hv
  · have e : wCk W p 0 = W := by
      unfold wCk
      have : (fun r => if r < 0 ∧ rB (wRo W r) = some p then roB (wRo W r) none else wRo W r) = wRo W := by
        funext r
        rw [if_neg (by omega)]
      rw [this]
      rfl
    rw [e]
    exact h
end BC2

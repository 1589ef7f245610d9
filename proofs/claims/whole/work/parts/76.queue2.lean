/-! THE QUEUE: its status, how it waits, how it is put in order -/
theorem neg_ltn {x : Int32} {n : Nat} (h : x < 0) (hn : n < 2147483648) : (x < nI n) = True := by
  apply eq_true
  rw [Int32.lt_iff_toInt_lt]
  have h1 := Int32.lt_iff_toInt_lt.mp h
  have e0 : (0 : Int32).toInt = 0 := by decide
  have e1 : (nI n).toInt = n := nI_toInt hn
  omega
theorem queue {s t : mS} {D : dD} (hC : CP s D) (hR : RP t D) (hD : DOk D) (x y : Int32) : ∃ st s1 t1, st < 12 ∧ fX8_queueStatus 1 x y s = some (nI st, s1) ∧ FI (fun b => b = 97) s s1 ∧ fX9_whyNoQueue 113 x y t = some (nI st, t1) ∧ FI (fun b => b = 124) t t1 ∧ (st = 0 → ∃ m, m ≤ 8 ∧ 1 ≤ m ∧ y = nI m ∧ ∀ i, i < m → sI s1 97 i = sI t1 124 i) := by
  have hS := hC.1
  have h : CW s 4 (dW D) := hC.2.2.2.2.1
  have u : RX t (dW D) := hR.1
  have hT := hR.1.1
  have hH2 : sH s 2 = (15, 4) := hS.2.1.1
  obtain ⟨W, hW⟩ : ∃ W, W = dW D := ⟨_, rfl⟩
  rw [← hW] at h u
  have hrd : ∀ k, k < 12 → k ≠ 0 → fX8_rowStatus 1 x y s = some (nI k, s) → fX9_whyNoQueue 113 x y t = some (nI k, t) → ∃ st s1 t1, st < 12 ∧ fX8_queueStatus 1 x y s = some (nI st, s1) ∧ FI (fun b => b = 97) s s1 ∧ fX9_whyNoQueue 113 x y t = some (nI st, t1) ∧ FI (fun b => b = 124) t t1 ∧ (st = 0 → ∃ m, m ≤ 8 ∧ 1 ≤ m ∧ y = nI m ∧ ∀ i, i < m → sI s1 97 i = sI t1 124 i) := fun k hk h0 h1 h2 => ⟨k, s, t, hk, by
    unfold fX8_queueStatus
    simp (disch := omega) only [k_cv hS, li_0, li_1, li_2, li_3, li_4, li_5, li_6, li_7, li_8, li_9, li_10, li_11, li_12, li_13, li_14, li_15, li_16, li_17, li_20, li_24, li_25, li_29, li_31, li_32, li_33, li_37, li_40, li_41, li_48, li_49, li_50, li_56, li_57, li_59, li_60, li_61, li_62, li_63, li_70, li_73, li_85, li_97, li_98, li_99, li_100, li_101, li_102, li_103, li_104, li_105, li_107, li_108, li_109, li_110, li_111, li_112, li_114, li_115, li_116, li_117, li_118, li_119, li_121, li_122, li_140, li_193, li_200, li_240, li_255, li_289, li_290, li_300, li_302, li_314, li_326, li_860, li_880, li_900, li_999, li_1024, li_2801, li_3440, li_3441, li_3442, li_3443, li_3444, li_3447, li_3448, li_3449, li_3457, li_3465, li_3469, li_3473, li_3477, li_3501, li_3513, li_3525, li_3537, li_3633, li_3730, li_3742, li_3754, li_3766, li_4095, li_4096, li_4300, li_9011, li_9999, li_10000, li_36864, li_65536, li_1000000, ll_0, ll_1, ll_100, ll_11, ll_16, ll_20, ll_3, ll_32, ll_50, ll_8, ll_96, ll_99, ll_9999, ne_m1, e_if, e_ret, e_rz0, e_rz1, e_rzb, e_call, bCallX_eq, nI_add, nI_mul, nI_succ1, le_i, lt_i, eq_i, m1_i, m1_le, m1_lt, m1_ge, m1_eq, ite_true, ite_false, if_true, if_false, h1, h0], FI.rf, h2, FI.rf, fun e => absurd e h0⟩
  rcases arg x with hx | ⟨k, hk, rfl⟩
  · refine hrd 1 (by decide) (by decide) ?_ ?_
    · unfold fX8_rowStatus fX8_isTray
      simp (disch := omega) only [k_now hS, k_cv hS, k_tell hS, k_none hS, k_refuse hS, k_accept hS, k_tellIf0 hS, k_tellIf1 hS, n10, li_0, li_1, li_2, li_3, li_4, li_5, li_6, li_7, li_8, li_9, li_10, li_11, li_12, li_13, li_14, li_15, li_16, li_17, li_20, li_24, li_25, li_29, li_31, li_32, li_33, li_37, li_40, li_41, li_48, li_49, li_50, li_56, li_57, li_59, li_60, li_61, li_62, li_63, li_70, li_73, li_85, li_97, li_98, li_99, li_100, li_101, li_102, li_103, li_104, li_105, li_107, li_108, li_109, li_110, li_111, li_112, li_114, li_115, li_116, li_117, li_118, li_119, li_121, li_122, li_140, li_193, li_200, li_240, li_255, li_289, li_290, li_300, li_302, li_314, li_326, li_860, li_880, li_900, li_999, li_1024, li_2801, li_3440, li_3441, li_3442, li_3443, li_3444, li_3447, li_3448, li_3449, li_3457, li_3465, li_3469, li_3473, li_3477, li_3501, li_3513, li_3525, li_3537, li_3633, li_3730, li_3742, li_3754, li_3766, li_4095, li_4096, li_4300, li_9011, li_9999, li_10000, li_36864, li_65536, li_1000000, ll_0, ll_1, ll_100, ll_11, ll_16, ll_20, ll_3, ll_32, ll_50, ll_8, ll_96, ll_99, ll_9999, ne_m1, e_if, e_ret, e_rz0, e_rz1, e_rzb, e_call, bCallX_eq, nI_add, nI_mul, nI_succ1, le_i, lt_i, eq_i, m1_i, m1_le, m1_lt, m1_ge, m1_eq, ite_true, ite_false, if_true, if_false, neg_lt hx]
    · unfold fX9_whyNoQueue fX9_isTray
      simp (disch := first | assumption | omega) only [li_0, li_1, li_2, li_3, li_4, li_5, li_6, li_7, li_8, li_9, li_10, li_11, li_12, li_13, li_14, li_15, li_16, li_17, li_20, li_24, li_25, li_29, li_31, li_32, li_33, li_37, li_40, li_41, li_48, li_49, li_50, li_56, li_57, li_59, li_60, li_61, li_62, li_63, li_70, li_73, li_85, li_97, li_98, li_99, li_100, li_101, li_102, li_103, li_104, li_105, li_107, li_108, li_109, li_110, li_111, li_112, li_114, li_115, li_116, li_117, li_118, li_119, li_121, li_122, li_140, li_193, li_200, li_240, li_255, li_289, li_290, li_300, li_302, li_314, li_326, li_860, li_880, li_900, li_999, li_1024, li_2801, li_3440, li_3441, li_3442, li_3443, li_3444, li_3447, li_3448, li_3449, li_3457, li_3465, li_3469, li_3473, li_3477, li_3501, li_3513, li_3525, li_3537, li_3633, li_3730, li_3742, li_3754, li_3766, li_4095, li_4096, li_4300, li_9011, li_9999, li_10000, li_36864, li_65536, li_1000000, ll_0, ll_1, ll_100, ll_11, ll_16, ll_20, ll_3, ll_32, ll_50, ll_8, ll_96, ll_99, ll_9999, ne_m1, e_if, e_ret, e_rz0, e_rz1, e_rzb, e_call, bCallX_eq, nI_add, nI_mul, nI_succ1, le_i, lt_i, eq_i, m1_i, m1_le, m1_lt, m1_ge, m1_eq, ite_true, ite_false, if_true, if_false, e_callV hT.k, x_neg]
  · by_cases h4 : k < 4
    · obtain ⟨c1, c2, c3, c4⟩ := hS.2.2.1 k h4
      obtain ⟨d1, d2, d3⟩ := hC.2.2.2.1 k h4
      obtain ⟨r1, r2, r3⟩ := hR.2.2.2.1 k h4
      have hl := (hD.2.2.2 k).2
      have hA : ∀ {α : Type} (f : Int32 → mM α), bAI 11 115 (nI k) f t = f (oI (dTr D k).2.1) t := fun f => by rw [xAIe hT.2.2.2.2.2.2.2.2.2.2.2.2.2.1 h4 (by decide) r2]
      have k3 : k ≤ 3 := by omega
      cases hm : (dTr D k).2.1 with
      | none =>
        rw [hm] at d2
        refine hrd 3 (by decide) (by decide) ?_ ?_
        · unfold fX8_rowStatus fX8_isTray fX5_isMissing
          simp (disch := omega) only [k_now hS, k_cv hS, k_tell hS, k_none hS, k_refuse hS, k_accept hS, k_tellIf0 hS, k_tellIf1 hS, n10, li_0, li_1, li_2, li_3, li_4, li_5, li_6, li_7, li_8, li_9, li_10, li_11, li_12, li_13, li_14, li_15, li_16, li_17, li_20, li_24, li_25, li_29, li_31, li_32, li_33, li_37, li_40, li_41, li_48, li_49, li_50, li_56, li_57, li_59, li_60, li_61, li_62, li_63, li_70, li_73, li_85, li_97, li_98, li_99, li_100, li_101, li_102, li_103, li_104, li_105, li_107, li_108, li_109, li_110, li_111, li_112, li_114, li_115, li_116, li_117, li_118, li_119, li_121, li_122, li_140, li_193, li_200, li_240, li_255, li_289, li_290, li_300, li_302, li_314, li_326, li_860, li_880, li_900, li_999, li_1024, li_2801, li_3440, li_3441, li_3442, li_3443, li_3444, li_3447, li_3448, li_3449, li_3457, li_3465, li_3469, li_3473, li_3477, li_3501, li_3513, li_3525, li_3537, li_3633, li_3730, li_3742, li_3754, li_3766, li_4095, li_4096, li_4300, li_9011, li_9999, li_10000, li_36864, li_65536, li_1000000, ll_0, ll_1, ll_100, ll_11, ll_16, ll_20, ll_3, ll_32, ll_50, ll_8, ll_96, ll_99, ll_9999, ne_m1, e_if, e_ret, e_rz0, e_rz1, e_rzb, e_call, bCallX_eq, nI_add, nI_mul, nI_succ1, le_i, lt_i, eq_i, m1_i, m1_le, m1_lt, m1_ge, m1_eq, ite_true, ite_false, if_true, if_false, Nat.not_lt_zero, show ¬ 4 ≤ k by omega, k_trays hS, xAR hH2 h4 (by decide) c1, e_callV c2, xGIe c2 d2, oI_n, m1_eq]
        · unfold fX9_whyNoQueue fX9_isTray
          simp (disch := omega) only [li_0, li_1, li_2, li_3, li_4, li_5, li_6, li_7, li_8, li_9, li_10, li_11, li_12, li_13, li_14, li_15, li_16, li_17, li_20, li_24, li_25, li_29, li_31, li_32, li_33, li_37, li_40, li_41, li_48, li_49, li_50, li_56, li_57, li_59, li_60, li_61, li_62, li_63, li_70, li_73, li_85, li_97, li_98, li_99, li_100, li_101, li_102, li_103, li_104, li_105, li_107, li_108, li_109, li_110, li_111, li_112, li_114, li_115, li_116, li_117, li_118, li_119, li_121, li_122, li_140, li_193, li_200, li_240, li_255, li_289, li_290, li_300, li_302, li_314, li_326, li_860, li_880, li_900, li_999, li_1024, li_2801, li_3440, li_3441, li_3442, li_3443, li_3444, li_3447, li_3448, li_3449, li_3457, li_3465, li_3469, li_3473, li_3477, li_3501, li_3513, li_3525, li_3537, li_3633, li_3730, li_3742, li_3754, li_3766, li_4095, li_4096, li_4300, li_9011, li_9999, li_10000, li_36864, li_65536, li_1000000, ll_0, ll_1, ll_100, ll_11, ll_16, ll_20, ll_3, ll_32, ll_50, ll_8, ll_96, ll_99, ll_9999, ne_m1, e_if, e_ret, e_rz0, e_rz1, e_rzb, e_call, bCallX_eq, nI_add, nI_mul, nI_succ1, le_i, lt_i, eq_i, m1_i, m1_le, m1_lt, m1_ge, m1_eq, ite_true, ite_false, if_true, if_false, e_callV hT.k, l_i, x_in, bt0, Nat.zero_le, k3, and_self, decide_true, Bool.true_eq_false, oI_g0, xGR hT.k hT.2.2.1, hA, hm, oI_n]
      | some len =>
        have h60 := hl len hm
        rw [hm] at d2
        have hc0 : ∀ {α : Type} (z : Int32) (K : Int32 → mM α), bCallV 8 1 (fX8_rowStatus 1 (nI k) z) K s = bCall (bIf (z ≤ nI len) (bIf (z < nI 1) (bRet (nI 5)) (bIf (z ≤ nI 8) (fX8_rowStatus_55 fu 1 z (98 + 2 * k) (nI 0) (nI 0)) (bRet (nI 5)))) (bRet (nI 4))) K s := fun z K => by
          rw [k_cv hS]
          have : fX8_rowStatus 1 (nI k) z s = (bIf (z ≤ nI len) (bIf (z < nI 1) (bRet (nI 5)) (bIf (z ≤ nI 8) (fX8_rowStatus_55 fu 1 z (98 + 2 * k) (nI 0) (nI 0)) (bRet (nI 5)))) (bRet (nI 4))) s := by
            unfold fX8_rowStatus fX8_isTray fX5_isMissing
            simp (disch := omega) only [k_now hS, k_cv hS, k_tell hS, k_none hS, k_refuse hS, k_accept hS, k_tellIf0 hS, k_tellIf1 hS, n10, li_0, li_1, li_2, li_3, li_4, li_5, li_6, li_7, li_8, li_9, li_10, li_11, li_12, li_13, li_14, li_15, li_16, li_17, li_20, li_24, li_25, li_29, li_31, li_32, li_33, li_37, li_40, li_41, li_48, li_49, li_50, li_56, li_57, li_59, li_60, li_61, li_62, li_63, li_70, li_73, li_85, li_97, li_98, li_99, li_100, li_101, li_102, li_103, li_104, li_105, li_107, li_108, li_109, li_110, li_111, li_112, li_114, li_115, li_116, li_117, li_118, li_119, li_121, li_122, li_140, li_193, li_200, li_240, li_255, li_289, li_290, li_300, li_302, li_314, li_326, li_860, li_880, li_900, li_999, li_1024, li_2801, li_3440, li_3441, li_3442, li_3443, li_3444, li_3447, li_3448, li_3449, li_3457, li_3465, li_3469, li_3473, li_3477, li_3501, li_3513, li_3525, li_3537, li_3633, li_3730, li_3742, li_3754, li_3766, li_4095, li_4096, li_4300, li_9011, li_9999, li_10000, li_36864, li_65536, li_1000000, ll_0, ll_1, ll_100, ll_11, ll_16, ll_20, ll_3, ll_32, ll_50, ll_8, ll_96, ll_99, ll_9999, ne_m1, e_if, e_ret, e_rz0, e_rz1, e_rzb, e_call, bCallX_eq, nI_add, nI_mul, nI_succ1, le_i, lt_i, eq_i, m1_i, m1_le, m1_lt, m1_ge, m1_eq, ite_true, ite_false, if_true, if_false, Nat.not_lt_zero, show ¬ 4 ≤ k by omega, k_trays hS, xAR hH2 h4 (by decide) c1, e_callV c2, xGIe c2 d2, oI_s]
            rfl
          rw [e_call, e_call, this]
        have hx0 : ∀ (z : Int32), fX9_whyNoQueue 113 (nI k) z t = bIf (z ≤ nI len) (bCall (fX9_isIn z.toInt64 (lN 1) (lN 8)) (fun x6 => bIf (x6 = nI 0) (bRet (nI 5)) (fX9_whyNoQueue_52 fu 113 (nI k) z (nI 0) (nI 0)))) (bRet (nI 4)) t := fun z => by
          unfold fX9_whyNoQueue fX9_isTray
          simp (disch := omega) only [li_0, li_1, li_2, li_3, li_4, li_5, li_6, li_7, li_8, li_9, li_10, li_11, li_12, li_13, li_14, li_15, li_16, li_17, li_20, li_24, li_25, li_29, li_31, li_32, li_33, li_37, li_40, li_41, li_48, li_49, li_50, li_56, li_57, li_59, li_60, li_61, li_62, li_63, li_70, li_73, li_85, li_97, li_98, li_99, li_100, li_101, li_102, li_103, li_104, li_105, li_107, li_108, li_109, li_110, li_111, li_112, li_114, li_115, li_116, li_117, li_118, li_119, li_121, li_122, li_140, li_193, li_200, li_240, li_255, li_289, li_290, li_300, li_302, li_314, li_326, li_860, li_880, li_900, li_999, li_1024, li_2801, li_3440, li_3441, li_3442, li_3443, li_3444, li_3447, li_3448, li_3449, li_3457, li_3465, li_3469, li_3473, li_3477, li_3501, li_3513, li_3525, li_3537, li_3633, li_3730, li_3742, li_3754, li_3766, li_4095, li_4096, li_4300, li_9011, li_9999, li_10000, li_36864, li_65536, li_1000000, ll_0, ll_1, ll_100, ll_11, ll_16, ll_20, ll_3, ll_32, ll_50, ll_8, ll_96, ll_99, ll_9999, ne_m1, e_if, e_ret, e_rz0, e_rz1, e_rzb, e_call, bCallX_eq, nI_add, nI_mul, nI_succ1, le_i, lt_i, eq_i, m1_i, m1_le, m1_lt, m1_ge, m1_eq, ite_true, ite_false, if_true, if_false, e_callV hT.k, l_i, x_in, bt0, Nat.zero_le, k3, and_self, decide_true, Bool.true_eq_false, oI_g0, xGR hT.k hT.2.2.1, hA, hm, oI_s]
          rfl
        have hq : ∀ (st : Nat), st ≠ 0 → st < 12 → (bIf (y ≤ nI len) (bIf (y < nI 1) (bRet (nI 5)) (bIf (y ≤ nI 8) (fX8_rowStatus_55 fu 1 y (98 + 2 * k) (nI 0) (nI 0)) (bRet (nI 5)))) (bRet (nI 4))) s = some (nI st, s) → fX8_queueStatus 1 (nI k) y s = some (nI st, s) := fun st h0 h1 h2 => by
          unfold fX8_queueStatus
          rw [hc0, e_call, h2]
          show bIf (nI st = 0) _ _ s = _
          rw [e_if, if_neg (by rw [li_0, eq_i (by omega) (by omega)]; exact h0)]
          rfl
        rcases arg y with hy | ⟨m, hm0, rfl⟩
        · refine ⟨5, s, t, by decide, hq 5 (by decide) (by decide) ?_, FI.rf, ?_, FI.rf, fun e => absurd e (by decide)⟩
          · simp (disch := omega) only [li_0, li_1, li_2, li_3, li_4, li_5, li_6, li_7, li_8, li_9, li_10, li_11, li_12, li_13, li_14, li_15, li_16, li_17, li_20, li_24, li_25, li_29, li_31, li_32, li_33, li_37, li_40, li_41, li_48, li_49, li_50, li_56, li_57, li_59, li_60, li_61, li_62, li_63, li_70, li_73, li_85, li_97, li_98, li_99, li_100, li_101, li_102, li_103, li_104, li_105, li_107, li_108, li_109, li_110, li_111, li_112, li_114, li_115, li_116, li_117, li_118, li_119, li_121, li_122, li_140, li_193, li_200, li_240, li_255, li_289, li_290, li_300, li_302, li_314, li_326, li_860, li_880, li_900, li_999, li_1024, li_2801, li_3440, li_3441, li_3442, li_3443, li_3444, li_3447, li_3448, li_3449, li_3457, li_3465, li_3469, li_3473, li_3477, li_3501, li_3513, li_3525, li_3537, li_3633, li_3730, li_3742, li_3754, li_3766, li_4095, li_4096, li_4300, li_9011, li_9999, li_10000, li_36864, li_65536, li_1000000, ll_0, ll_1, ll_100, ll_11, ll_16, ll_20, ll_3, ll_32, ll_50, ll_8, ll_96, ll_99, ll_9999, ne_m1, e_if, e_ret, e_rz0, e_rz1, e_rzb, e_call, bCallX_eq, nI_add, nI_mul, nI_succ1, le_i, lt_i, eq_i, m1_i, m1_le, m1_lt, m1_ge, m1_eq, ite_true, ite_false, if_true, if_false, neg_le hy (show len < 2147483648 by omega), neg_ltn hy (show 1 < 2147483648 by decide)]
          · rw [hx0]
            simp (disch := first | assumption | omega) only [li_0, li_1, li_2, li_3, li_4, li_5, li_6, li_7, li_8, li_9, li_10, li_11, li_12, li_13, li_14, li_15, li_16, li_17, li_20, li_24, li_25, li_29, li_31, li_32, li_33, li_37, li_40, li_41, li_48, li_49, li_50, li_56, li_57, li_59, li_60, li_61, li_62, li_63, li_70, li_73, li_85, li_97, li_98, li_99, li_100, li_101, li_102, li_103, li_104, li_105, li_107, li_108, li_109, li_110, li_111, li_112, li_114, li_115, li_116, li_117, li_118, li_119, li_121, li_122, li_140, li_193, li_200, li_240, li_255, li_289, li_290, li_300, li_302, li_314, li_326, li_860, li_880, li_900, li_999, li_1024, li_2801, li_3440, li_3441, li_3442, li_3443, li_3444, li_3447, li_3448, li_3449, li_3457, li_3465, li_3469, li_3473, li_3477, li_3501, li_3513, li_3525, li_3537, li_3633, li_3730, li_3742, li_3754, li_3766, li_4095, li_4096, li_4300, li_9011, li_9999, li_10000, li_36864, li_65536, li_1000000, ll_0, ll_1, ll_100, ll_11, ll_16, ll_20, ll_3, ll_32, ll_50, ll_8, ll_96, ll_99, ll_9999, ne_m1, e_if, e_ret, e_rz0, e_rz1, e_rzb, e_call, bCallX_eq, nI_add, nI_mul, nI_succ1, le_i, lt_i, eq_i, m1_i, m1_le, m1_lt, m1_ge, m1_eq, ite_true, ite_false, if_true, if_false, neg_le hy (show len < 2147483648 by omega), x_neg]
        · by_cases hml : m ≤ len
          · by_cases hm8 : 1 ≤ m ∧ m ≤ 8
            · obtain ⟨hm1, hm8⟩ := hm8
              have hL := d3 len hm
              have hL2 := r3 len hm
              have ec := c_row (s := s) hS h c2 c3 c4 (show m ≤ 60 by omega) (dTr D k).2.2 (fun j hj => hL j (by omega))
              have ex' := x_row (s := t) u h4 (show m ≤ 60 by omega) (dTr D k).2.2 (fun j hj => hL2 j (by omega))
              have e9 : fX9_whyNoQueue 113 (nI k) (nI m) t = fX9_whyNoQueue_52 fu 113 (nI k) (nI m) (nI 0) (nI 0) t := by
                rw [hx0, e_if, if_pos (by rw [le_i (by omega) (by omega)]; exact hml), l_i (by omega), e_call, x_in (by omega) (by omega) (by omega), decide_eq_true ⟨hm1, hm8⟩]
                show bIf (nI 1 = nI 0) _ _ t = _
                rw [e_if, if_neg (by decide)]
              have e8 : fX8_queueStatus 1 (nI k) (nI m) s = bCall (fX8_rowStatus_55 fu 1 (nI m) (98 + 2 * k) (nI 0) (nI 0)) (fun x1 => bIf (x1 = 0) (fX8_queueStatus_16 fu 1 (nI k) (nI m) x1 (0 : Int32)) (bRet x1)) s := by
                unfold fX8_queueStatus
                rw [hc0, e_call, e_call, e_if, if_pos (by rw [le_i (by omega) (by omega)]; exact hml), e_if, if_neg (by rw [lt_i (by omega) (by omega)]; omega), e_if, if_pos (by rw [le_i (by omega) (by omega)]; exact hm8)]
              by_cases hb : fs (bad (wPe W) (dTr D k).2.2) m < m
              · refine ⟨5, s, t, by decide, ?_, FI.rf, ?_, FI.rf, fun e => absurd e (by decide)⟩
                · rw [e8, e_call, ec, if_pos hb]
                  show bIf (nI 5 = 0) _ _ s = _
                  rw [e_if, if_neg (by decide), e_ret]
                · rw [e9, ex', if_pos hb]
              · have hg : ∀ j, j < m → 0 ≤ ((dTr D k).2.2 j).toInt ∧ ((dTr D k).2.2 j).toInt < (wPe W : Int) := fun j hj => by
                  have h1 := fs_le (bad (wPe W) (dTr D k).2.2) m
                  have h2 := fs_no (bad (wPe W) (dTr D k).2.2) m j (by omega)
                  unfold bad at h2
                  have h3 : (0 ≤ ((dTr D k).2.2 j).toInt ∧ ((dTr D k).2.2 j).toInt < (wPe W : Int)) ∧ (sn (dTr D k).2.2 j).testBit (pn ((dTr D k).2.2 j)) = false := by simpa using h2
                  exact h3.1
                obtain ⟨s1, f1, f2, f3⟩ := c_que hS h (x := nI k) rfl h4 c1 c2 c3 c4 hm8 (dTr D k).2.2 (fun j hj => hL j (by omega)) hg
                obtain ⟨t1, g1, g2, g3⟩ := x_que u h4 hm8 (dTr D k).2.2 (fun j hj => hL2 j (by omega)) hg
                refine ⟨if ex (dq W (dTr D k).2.2) m then 9 else 0, s1, t1, ?_, ?_, f2, ?_, g2, fun e => ⟨m, hm8, hm1, rfl, fun i hi => ?_⟩⟩
                · split <;> decide
                · rw [e8, e_call, ec, if_neg hb]
                  show bIf (nI 0 = 0) _ _ s = _
                  rw [e_if, if_pos (by decide)]
                  exact f1
                · rw [e9, ex', if_neg hb]
                  exact g1
                · have hE : ex (dq W (dTr D k).2.2) m = false := by
                    cases hE : ex (dq W (dTr D k).2.2) m with
                    | false => rfl
                    | true => rw [hE] at e; cases e
                  have hd := ex_f hE i hi
                  have hd : wDk W (pn ((dTr D k).2.2 i)) = true := by unfold dq at hd; simpa using hd
                  rw [f3 i hi, g3 hE i hi, hd, if_pos rfl]
            · refine ⟨5, s, t, by decide, hq 5 (by decide) (by decide) ?_, FI.rf, ?_, FI.rf, fun e => absurd e (by decide)⟩
              · rw [e_if, if_pos (by rw [le_i (by omega) (by omega)]; exact hml), e_if]
                by_cases h1 : m < 1
                · rw [if_pos (by rw [lt_i (by omega) (by omega)]; exact h1)]; rfl
                · rw [if_neg (by rw [lt_i (by omega) (by omega)]; exact h1), e_if, if_neg (by rw [le_i (by omega) (by omega)]; omega)]; rfl
              · rw [hx0, e_if, if_pos (by rw [le_i (by omega) (by omega)]; exact hml), l_i (by omega), e_call, x_in (by omega) (by omega) (by omega), decide_eq_false hm8]
                show bIf (nI 0 = nI 0) _ _ t = _
                rw [e_if, if_pos rfl, e_ret]
          · refine ⟨4, s, t, by decide, hq 4 (by decide) (by decide) ?_, FI.rf, ?_, FI.rf, fun e => absurd e (by decide)⟩
            · rw [e_if, if_neg (by rw [le_i (by omega) (by omega)]; exact hml)]; rfl
            · rw [hx0, e_if, if_neg (by rw [le_i (by omega) (by omega)]; exact hml)]; rfl
    · refine hrd 1 (by decide) (by decide) ?_ ?_
      · unfold fX8_rowStatus fX8_isTray
        simp (disch := omega) only [k_now hS, k_cv hS, k_tell hS, k_none hS, k_refuse hS, k_accept hS, k_tellIf0 hS, k_tellIf1 hS, n10, li_0, li_1, li_2, li_3, li_4, li_5, li_6, li_7, li_8, li_9, li_10, li_11, li_12, li_13, li_14, li_15, li_16, li_17, li_20, li_24, li_25, li_29, li_31, li_32, li_33, li_37, li_40, li_41, li_48, li_49, li_50, li_56, li_57, li_59, li_60, li_61, li_62, li_63, li_70, li_73, li_85, li_97, li_98, li_99, li_100, li_101, li_102, li_103, li_104, li_105, li_107, li_108, li_109, li_110, li_111, li_112, li_114, li_115, li_116, li_117, li_118, li_119, li_121, li_122, li_140, li_193, li_200, li_240, li_255, li_289, li_290, li_300, li_302, li_314, li_326, li_860, li_880, li_900, li_999, li_1024, li_2801, li_3440, li_3441, li_3442, li_3443, li_3444, li_3447, li_3448, li_3449, li_3457, li_3465, li_3469, li_3473, li_3477, li_3501, li_3513, li_3525, li_3537, li_3633, li_3730, li_3742, li_3754, li_3766, li_4095, li_4096, li_4300, li_9011, li_9999, li_10000, li_36864, li_65536, li_1000000, ll_0, ll_1, ll_100, ll_11, ll_16, ll_20, ll_3, ll_32, ll_50, ll_8, ll_96, ll_99, ll_9999, ne_m1, e_if, e_ret, e_rz0, e_rz1, e_rzb, e_call, bCallX_eq, nI_add, nI_mul, nI_succ1, le_i, lt_i, eq_i, m1_i, m1_le, m1_lt, m1_ge, m1_eq, ite_true, ite_false, if_true, if_false, Nat.not_lt_zero, show 4 ≤ k by omega]
      · unfold fX9_whyNoQueue fX9_isTray
        simp (disch := omega) only [li_0, li_1, li_2, li_3, li_4, li_5, li_6, li_7, li_8, li_9, li_10, li_11, li_12, li_13, li_14, li_15, li_16, li_17, li_20, li_24, li_25, li_29, li_31, li_32, li_33, li_37, li_40, li_41, li_48, li_49, li_50, li_56, li_57, li_59, li_60, li_61, li_62, li_63, li_70, li_73, li_85, li_97, li_98, li_99, li_100, li_101, li_102, li_103, li_104, li_105, li_107, li_108, li_109, li_110, li_111, li_112, li_114, li_115, li_116, li_117, li_118, li_119, li_121, li_122, li_140, li_193, li_200, li_240, li_255, li_289, li_290, li_300, li_302, li_314, li_326, li_860, li_880, li_900, li_999, li_1024, li_2801, li_3440, li_3441, li_3442, li_3443, li_3444, li_3447, li_3448, li_3449, li_3457, li_3465, li_3469, li_3473, li_3477, li_3501, li_3513, li_3525, li_3537, li_3633, li_3730, li_3742, li_3754, li_3766, li_4095, li_4096, li_4300, li_9011, li_9999, li_10000, li_36864, li_65536, li_1000000, ll_0, ll_1, ll_100, ll_11, ll_16, ll_20, ll_3, ll_32, ll_50, ll_8, ll_96, ll_99, ll_9999, ne_m1, e_if, e_ret, e_rz0, e_rz1, e_rzb, e_call, bCallX_eq, nI_add, nI_mul, nI_succ1, le_i, lt_i, eq_i, m1_i, m1_le, m1_lt, m1_ge, m1_eq, ite_true, ite_false, if_true, if_false, e_callV hT.k, l_i, x_in, bt0, show ¬ k ≤ 3 by omega, and_false, decide_false]
/-- how all wait together: when the next one begins, and the sum -/
def wt (A : Nat → Int32) (k : Nat) : Int32 × Int32 := it (fun i q => (q.1 + A i, q.2 + q.1)) ((0 : Int32), (0 : Int32)) k
theorem wt_s (A : Nat → Int32) (k : Nat) : wt A (k + 1) = ((wt A k).1 + A k, (wt A k).2 + (wt A k).1) := rfl
theorem wt_c {A B : Nat → Int32} (n : Nat) (h : ∀ i, i < n → A i = B i) : wt A n = wt B n := it_congr n (fun k x hk => by rw [h k hk])
theorem c_wait {s : mS} (hS : CS s) {m : Nat} (hm : m ≤ 8) : fX8_waitTogether 1 (nI m) s = some ((wt (sI s 97) m).2, s) := by
  unfold fX8_waitTogether
  refine loop_n (fun n k => fX8_waitTogether_7 n 1 (nI m) (wt (sI s 97) k).1 (wt (sI s 97) k).2 (nI k) s) _ m ?_ ?_ fu 0 (by omega) (by unfold fu; omega)
  · intro n k hk
    show fX8_waitTogether_7 (n + 1) 1 (nI m) _ _ _ s = fX8_waitTogether_7 n 1 (nI m) _ _ _ s
    rw [qX8_waitTogether_7, e_if, if_neg (by rw [le_i (by omega) (by omega)]; omega), k_min hS, xAI hS.2.1.2.2.2 (by omega) (by decide), nI_succ1, wt_s]
  · intro n
    show fX8_waitTogether_7 (n + 1) 1 (nI m) _ _ _ s = _
    rw [qX8_waitTogether_7, e_if, if_pos (by rw [le_i (by omega) (by omega)]; omega)]
    rfl
theorem RT.h124 {s : mS} (h : RT s) : sH s 124 = (11, 8) := h.2.2.2.2.2.2.2.2.2.2.2.2.2.2.2.2.2.2.2.2.2.2
theorem rt_32 {w : mS} {α : Type} (hT : RT w) {f : Nat → mM α} : bGR 9 113 32 f w = f 124 w := xGR hT.k hT.2.2.2.2.2.2.2.2.2.2.2.1
theorem x_wait {s : mS} (hT : RT s) {m : Nat} (hm : m ≤ 8) : fX9_waits 113 (nI m) s = some ((wt (sI s 124) m).2, s) := by
  unfold fX9_waits
  refine loop_n (fun n k => fX9_waits_7 n 113 (nI m) (wt (sI s 124) k).2 (wt (sI s 124) k).1 (nI k) s) _ m ?_ ?_ fu 0 (by omega) (by unfold fu; omega)
  · intro n k hk
    show fX9_waits_7 (n + 1) 113 (nI m) _ _ _ s = fX9_waits_7 n 113 (nI m) _ _ _ s
    rw [qX9_waits_7, e_if, if_neg (by rw [le_i (by omega) (by omega)]; omega), rt_32 hT, xAI hT.h124 (by omega) (by decide), nI_succ1, wt_s]
  · intro n
    show fX9_waits_7 (n + 1) 113 (nI m) _ _ _ s = _
    rw [qX9_waits_7, e_if, if_pos (by rw [le_i (by omega) (by omega)]; omega)]
    rfl
/-- x comes to its place among the first ones -/
def insA (A : Nat → Int32) (x : Int32) : Nat → (Nat → Int32)
  | 0 => up A 0 x
  | k + 1 => if A k ≤ x then up A (k + 1) x else insA (up A (k + 1) (A k)) x k
theorem insA_0 (A : Nat → Int32) (x : Int32) : insA A x 0 = up A 0 x := rfl
theorem insA_s (A : Nat → Int32) (x : Int32) (k : Nat) : insA A x (k + 1) = if A k ≤ x then up A (k + 1) x else insA (up A (k + 1) (A k)) x k := rfl
theorem up_up {α : Type} (A : Nat → α) (k : Nat) (x y : α) : up (up A k x) k y = up A k y := by
  funext j
  by_cases h : j = k
  · rw [h, up_s, up_s]
  · rw [up_n _ _ h, up_n _ _ h, up_n _ _ h]
theorem up_id {α : Type} (A : Nat → α) (k : Nat) : up A k (A k) = A := by
  funext j
  by_cases h : j = k
  · rw [h, up_s]
  · rw [up_n _ _ h]
theorem insA_up (A : Nat → Int32) (x y : Int32) (k : Nat) : insA (up A k y) x k = insA A x k := by
  cases k with
  | zero => rw [insA_0, insA_0, up_up]
  | succ k => rw [insA_s, insA_s, up_n A y (show k ≠ k + 1 by omega), up_up, up_up]
theorem insA_c {m : Nat} (x : Int32) : ∀ (k : Nat) (A B : Nat → Int32), (∀ i, i < m → A i = B i) → k < m → ∀ i, i < m → insA A x k i = insA B x k i
  | 0, A, B, h, _, i, hi => by
    rw [insA_0, insA_0]
    unfold up
    rw [h i hi]
  | k + 1, A, B, h, hk, i, hi => by
    rw [insA_s, insA_s, h k (by omega)]
    by_cases c : B k ≤ x
    · rw [if_pos c, if_pos c]
      unfold up
      rw [h i hi]
    · rw [if_neg c, if_neg c]
      refine insA_c x k _ _ (fun j hj => ?_) (by omega) i hi
      unfold up
      rw [h j hj]
def srt (A : Nat → Int32) (k : Nat) : Nat → Int32 := it (fun j B => if j = 0 then B else insA B (B j) j) A k
theorem srt_s (A : Nat → Int32) {k : Nat} (h : 1 ≤ k) : srt A (k + 1) = insA (srt A k) (srt A k k) k := by
  show (if k = 0 then _ else _) = _
  rw [if_neg (by omega)]
  rfl
theorem srt_1 (A : Nat → Int32) : srt A 1 = A := rfl
theorem srt_c {m : Nat} {A B : Nat → Int32} (h : ∀ i, i < m → A i = B i) : ∀ k, k ≤ m → ∀ i, i < m → srt A k i = srt B k i
  | 0, _, i, hi => h i hi
  | k + 1, hk, i, hi => by
    have ih := srt_c h k (by omega)
    by_cases h0 : k = 0
    · subst h0; exact h i hi
    · rw [srt_s A (by omega), srt_s B (by omega), ih k (by omega)]
      exact insA_c _ k _ _ ih (by omega) i hi
theorem c_ins {s : mS} (hS : CS s) {m k : Nat} {x : Int32} (hm : m ≤ 8) (hk : k < m) (r2 : Nat → Int32 → Int32 → mM Unit) : ∀ (a n : Nat) (v : mS), a ≤ k → a < n → FI (fun b => b = 97) s v → ∃ w, fX8_sortMinutes_17 r2 n 1 (nI m) (nI k) x (nI a) v = r2 1 (nI m) (nI (k + 1)) w ∧ FI (fun b => b = 97) s w ∧ sI w 97 = insA (sI v 97) x a := by
  have h97 : ∀ (v : mS) (a : Nat) (x : Int32), sI (wI v 97 a x) 97 = up (sI v 97) a x := fun v a x => by
    funext j
    by_cases hj : j = a
    · rw [hj, sI_wI_eq, up_s]
    · rw [sI_wI_ne (Or.inr hj), up_n _ _ hj]
  have hend : ∀ (a : Nat) (v : mS), a ≤ k → FI (fun b => b = 97) s v → fX8_sortMinutes_57 r2 1 (nI m) (nI k) x (nI a) v = r2 1 (nI m) (nI (k + 1)) (wI v 97 a x) := fun a v ha hF => by
    have hSv := hS.fi hF
    unfold fX8_sortMinutes_57
    rw [k_min hSv, xSI hSv.2.1.2.2.2 (by omega) (by decide), nI_succ1]
  intro a
  induction a with
  | zero =>
    intro n v h0 h1 hF
    obtain ⟨n, rfl⟩ : ∃ n', n = n' + 1 := ⟨n - 1, by omega⟩
    refine ⟨wI v 97 0 x, ?_, hF.tr (FI.w _ _ rfl), by rw [h97, insA_0]⟩
    rw [qX8_sortMinutes_17, e_if, if_pos (by decide), hend 0 v h0 hF]
  | succ a ih =>
    intro n v h0 h1 hF
    obtain ⟨n, rfl⟩ : ∃ n', n = n' + 1 := ⟨n - 1, by omega⟩
    have hSv := hS.fi hF
    have e1 : nI (a + 1) - (1 : Int32) = nI a := by rw [li_1, sub_i (by omega)]; rfl
    have e2 : nI (a + 1) + (-1 : Int32) = nI a := by rw [li_1, ne_m1, add_m1 (by omega)]; rfl
    by_cases hc : sI v 97 a ≤ x
    · refine ⟨wI v 97 (a + 1) x, ?_, hF.tr (FI.w _ _ rfl), by rw [h97, insA_s, if_pos hc]⟩
      rw [qX8_sortMinutes_17, e_if, if_neg (by rw [li_0, le_i (by omega) (by omega)]; omega), k_min hSv, e1, xAI hSv.2.1.2.2.2 (by omega) (by decide), e_if, if_pos hc, hend _ v h0 hF]
    · obtain ⟨w, f1, f2, f3⟩ := ih n (wI v 97 (a + 1) (sI v 97 a)) (by omega) (by omega) (hF.tr (FI.w _ _ rfl))
      refine ⟨w, ?_, f2, by rw [f3, h97, insA_s, if_neg hc]⟩
      rw [qX8_sortMinutes_17, e_if, if_neg (by rw [li_0, le_i (by omega) (by omega)]; omega), k_min hSv, e1, xAI hSv.2.1.2.2.2 (by omega) (by decide), e_if, if_neg hc, k_min hSv, k_min hSv, xAI hSv.2.1.2.2.2 (by omega) (by decide), xSI hSv.2.1.2.2.2 (by omega) (by decide), e2, f1]
theorem c_sort {s : mS} (hS : CS s) {m : Nat} (hm : m ≤ 8) (hm1 : 1 ≤ m) : ∃ w, fX8_sortMinutes 1 (nI m) s = some ((), w) ∧ FI (fun b => b = 97) s w ∧ sI w 97 = srt (sI s 97) m := by
  unfold fX8_sortMinutes
  have key := loop_s (fun n k => fX8_sortMinutes_2 n 1 (nI m) (nI k)) (fun k v => FI (fun b => b = 97) s v ∧ sI v 97 = srt (sI s 97) k ∧ 1 ≤ k) m (fun q => FI (fun b => b = 97) s q.2 ∧ sI q.2 97 = srt (sI s 97) m) ?_ ?_ fu 1 s hm1 (by unfold fu; omega) ⟨FI.rf, rfl, by omega⟩
  · obtain ⟨⟨⟨⟩, v⟩, e1, e2, e3⟩ := key
    exact ⟨v, e1, e2, e3⟩
  · rintro n k v hk ⟨hF, hv, h1⟩
    have hSv := hS.fi hF
    obtain ⟨w, f1, f2, f3⟩ := c_ins hS hm hk (x := sI v 97 k) (fX8_sortMinutes_2 n) k fu v (Nat.le_refl _) (by unfold fu; omega) hF
    refine ⟨w, ⟨f2, by rw [f3, srt_s _ h1, hv], by omega⟩, ?_⟩
    show fX8_sortMinutes_2 (n + 1) 1 (nI m) _ v = _
    rw [qX8_sortMinutes_2, e_if, if_neg (by rw [le_i (by omega) (by omega)]; omega), k_min hSv, xAI hSv.2.1.2.2.2 (by omega) (by decide), f1]
  · rintro n v ⟨hF, hv, h1⟩
    refine ⟨((), v), ?_, hF, hv⟩
    show fX8_sortMinutes_2 (n + 1) 1 (nI m) _ v = _
    rw [qX8_sortMinutes_2, e_if, if_pos (by rw [le_i (by omega) (by omega)]; omega)]
    rfl
theorem x_ins {s : mS} (hS : RT s) {m k : Nat} (hm : m ≤ 8) (hk : k < m) (r2 : Nat → Int32 → Int32 → mM Int32) : ∀ (a n : Nat) (v : mS), a ≤ k → a < n → FI (fun b => b = 124) s v → ∃ w, fX9_leastWaiting_34 r2 n 113 (nI m) (nI k) (nI a) v = r2 113 (nI m) (nI (k + 1)) w ∧ FI (fun b => b = 124) s w ∧ sI w 124 = insA (sI v 124) (sI v 124 a) a := by
  have h97 : ∀ (v : mS) (a : Nat) (x : Int32), sI (wI v 124 a x) 124 = up (sI v 124) a x := fun v a x => by
    funext j
    by_cases hj : j = a
    · rw [hj, sI_wI_eq, up_s]
    · rw [sI_wI_ne (Or.inr hj), up_n _ _ hj]
  have hend : ∀ (v : mS), fX9_leastWaiting_100 r2 113 (nI m) (nI k) v = r2 113 (nI m) (nI (k + 1)) v := fun v => by
    unfold fX9_leastWaiting_100
    rw [nI_succ1]
  intro a
  induction a with
  | zero =>
    intro n v h0 h1 hF
    obtain ⟨n, rfl⟩ : ∃ n', n = n' + 1 := ⟨n - 1, by omega⟩
    refine ⟨v, ?_, hF, by rw [insA_0, up_id]⟩
    rw [qX9_leastWaiting_34, e_if, if_pos (by decide), hend]
  | succ a ih =>
    intro n v h0 h1 hF
    obtain ⟨n, rfl⟩ : ∃ n', n = n' + 1 := ⟨n - 1, by omega⟩
    have hSv := hS.mv hF.2
    have e1 : nI (a + 1) - (1 : Int32) = nI a := by rw [li_1, sub_i (by omega)]; rfl
    have e2 : nI (a + 1) + (-1 : Int32) = nI a := by rw [li_1, ne_m1, add_m1 (by omega)]; rfl
    by_cases hc : sI v 124 a ≤ sI v 124 (a + 1)
    · refine ⟨v, ?_, hF, by rw [insA_s, if_pos hc, up_id]⟩
      rw [qX9_leastWaiting_34, e_if, if_neg (by rw [li_0, le_i (by omega) (by omega)]; omega), rt_32 hSv, e1, xAI hSv.h124 (by omega) (by decide), rt_32 hSv, xAI hSv.h124 (by omega) (by decide), e_if, if_pos hc, hend]
    · have hS2 : RT (wI v 124 (a + 1) (sI v 124 a)) := hSv.w
      obtain ⟨w, f1, f2, f3⟩ := ih n (wI (wI v 124 (a + 1) (sI v 124 a)) 124 a (sI v 124 (a + 1))) (by omega) (by omega) ((hF.tr (FI.w _ _ rfl)).tr (FI.w _ _ rfl))
      refine ⟨w, ?_, f2, by rw [f3, h97, h97, up_s, insA_s, if_neg hc, insA_up]⟩
      rw [qX9_leastWaiting_34, e_if, if_neg (by rw [li_0, le_i (by omega) (by omega)]; omega), rt_32 hSv, e1, xAI hSv.h124 (by omega) (by decide), rt_32 hSv, xAI hSv.h124 (by omega) (by decide), e_if, if_neg hc, rt_32 hSv, xAI hSv.h124 (by omega) (by decide), rt_32 hSv, rt_32 hSv, xAI hSv.h124 (by omega) (by decide), xSI hSv.h124 (by omega) (by decide), rt_32 hS2, xSI hS2.h124 (by omega) (by decide), e2, f1]
theorem x_sort {s : mS} (hS : RT s) {m : Nat} (hm : m ≤ 8) (hm1 : 1 ≤ m) : ∃ w, fX9_leastWaiting_26 fu 113 (nI m) (nI 1) s = fX9_leastWaiting_106 113 (nI m) w ∧ FI (fun b => b = 124) s w ∧ sI w 124 = srt (sI s 124) m := by
  refine loop_p (fun n k => fX9_leastWaiting_26 n 113 (nI m) (nI k)) (fun k v => FI (fun b => b = 124) s v ∧ sI v 124 = srt (sI s 124) k ∧ 1 ≤ k) m (fX9_leastWaiting_106 113 (nI m)) (fun v => FI (fun b => b = 124) s v ∧ sI v 124 = srt (sI s 124) m) ?_ ?_ fu 1 s hm1 (by unfold fu; omega) ⟨FI.rf, rfl, by omega⟩
  · rintro n k v hk ⟨hF, hv, h1⟩
    obtain ⟨w, f1, f2, f3⟩ := x_ins hS hm hk (fX9_leastWaiting_26 n) k fu v (Nat.le_refl _) (by unfold fu; omega) hF
    refine ⟨w, ⟨f2, by rw [f3, srt_s _ h1, hv], by omega⟩, ?_⟩
    show fX9_leastWaiting_26 (n + 1) 113 (nI m) _ v = _
    rw [qX9_leastWaiting_26, e_if, if_neg (by rw [le_i (by omega) (by omega)]; omega), f1]
  · rintro n v ⟨hF, hv, h1⟩
    refine ⟨v, ?_, hF, hv⟩
    show fX9_leastWaiting_26 (n + 1) 113 (nI m) _ v = _
    rw [qX9_leastWaiting_26, e_if, if_pos (by rw [le_i (by omega) (by omega)]; omega)]

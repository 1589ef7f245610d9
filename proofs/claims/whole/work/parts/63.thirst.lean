/-! THE FIRST YEAR WITHOUT WATER, THE LAST WITH -/
/-- the first of k .. k + d -/
def fsY (P : Nat → Bool) : Nat → Nat → Option Nat
  | 0, k => if P k then some k else none
  | d + 1, k => if P k then some k else fsY P d (k + 1)
theorem fsY_b (P : Nat → Bool) : ∀ d k j, fsY P d k = some j → k ≤ j ∧ j ≤ k + d
  | 0, k, j, h => by
    unfold fsY at h
    split at h
    · cases h; omega
    · cases h
  | d + 1, k, j, h => by
    unfold fsY at h
    split at h
    · cases h; omega
    · have := fsY_b P d (k + 1) j h
      omega
def thP (W : wW) (p k : Nat) : Bool := wAl (wQ W k) p && !wDk (wQ W k) p
def mLf (W : wW) : Nat := min 100 (200 - wYr W)
theorem mLf_b {W : wW} (h : wOk W) : mLf W ≤ 100 ∧ wYr W + mLf W ≤ 200 := by
  have := h.1
  unfold mLf
  omega
def stN {α : Type} (o : Option α) : Nat := match o with
  | none => 8
  | some _ => 0
theorem wQ_pe {W : wW} (h : wOk W) (k : Nat) : wPe (wQ W k) = wPe W := (GT.q h k).2.1
theorem c_thirst {s : mS} {W : wW} {p : Nat} (hS : CS s) (hp : p < wPe W) (hw : wOk W) : ∀ d k n v, k + d = mLf W → d + 1 < n → HA s v → CW v 48 (wQ W k) → ∃ v1, HA s v1 ∧ fX8_thirst_32 n 1 (nI p) (nI (mLf W)) (nI k) v = some (oI (fsY (thP W p) d k), wI v1 1 11 (nI (stN (fsY (thP W p) d k)))) := by
  have hm := mLf_b hw
  intro d
  induction d with
  | zero =>
    intro k n v hk hn hA hv
    obtain ⟨m, rfl⟩ : ∃ m, n = m + 1 := ⟨n - 1, by omega⟩
    obtain ⟨m, rfl⟩ : ∃ i, m = i + 1 := ⟨m - 1, by omega⟩
    have hSv := hA.cs hS
    have hpk : p < wPe (wQ W k) := by rw [wQ_pe hw]; exact hp
    obtain ⟨w, g1, g2, g3⟩ := c_passYear hv (by decide)
    have hSw := (hA.fi g2).cs hS
    show ∃ v1, HA s v1 ∧ fX8_thirst_32 (m + 1 + 1) 1 _ _ _ v = _
    rw [qX8_thirst_32]
    unfold fX8_thirst_65 fX8_thirst_59 fX8_thirst_78
    simp (disch := omega) only [li_0, li_1, li_2, li_3, li_4, li_5, li_6, li_7, li_8, li_9, li_10, li_11, li_12, li_13, li_14, li_15, li_16, li_17, li_20, li_24, li_25, li_29, li_31, li_32, li_33, li_37, li_40, li_41, li_48, li_49, li_50, li_56, li_57, li_59, li_60, li_61, li_62, li_63, li_70, li_73, li_85, li_97, li_98, li_99, li_100, li_101, li_102, li_103, li_104, li_105, li_107, li_108, li_109, li_110, li_111, li_112, li_114, li_115, li_116, li_117, li_118, li_119, li_121, li_122, li_140, li_193, li_200, li_240, li_255, li_289, li_290, li_300, li_302, li_314, li_326, li_860, li_880, li_900, li_999, li_1024, li_2801, li_3440, li_3441, li_3442, li_3443, li_3444, li_3447, li_3448, li_3449, li_3457, li_3465, li_3469, li_3473, li_3477, li_3501, li_3513, li_3525, li_3537, li_3633, li_3730, li_3742, li_3754, li_3766, li_4095, li_4096, li_4300, li_9011, li_9999, li_10000, li_36864, li_65536, li_1000000, ll_0, ll_1, ll_100, ll_11, ll_16, ll_20, ll_3, ll_32, ll_50, ll_8, ll_96, ll_99, ll_9999, ne_m1, e_if, e_ret, e_rz0, e_rz1, e_rzb, e_call, bCallX_eq, nI_add, nI_mul, nI_succ1, le_i, lt_i, eq_i, m1_i, m1_le, m1_lt, m1_ge, m1_eq, ite_true, ite_false, if_true, if_false, show ¬ mLf W < k by omega, k_then hSv, e_callV hv.k, c_isAlive hv hpk, c_isDrinking hv hpk, bt0, g1]
    have hend : fX8_thirst_32 (m + 1) 1 (nI p) (nI (mLf W)) (nI (k + 1)) w = some (oI none, wI w 1 11 (nI (stN (none : Option Nat)))) := by
      rw [qX8_thirst_32]
      unfold fX8_thirst_78
      simp (disch := omega) only [li_0, li_1, li_2, li_3, li_4, li_5, li_6, li_7, li_8, li_9, li_10, li_11, li_12, li_13, li_14, li_15, li_16, li_17, li_20, li_24, li_25, li_29, li_31, li_32, li_33, li_37, li_40, li_41, li_48, li_49, li_50, li_56, li_57, li_59, li_60, li_61, li_62, li_63, li_70, li_73, li_85, li_97, li_98, li_99, li_100, li_101, li_102, li_103, li_104, li_105, li_107, li_108, li_109, li_110, li_111, li_112, li_114, li_115, li_116, li_117, li_118, li_119, li_121, li_122, li_140, li_193, li_200, li_240, li_255, li_289, li_290, li_300, li_302, li_314, li_326, li_860, li_880, li_900, li_999, li_1024, li_2801, li_3440, li_3441, li_3442, li_3443, li_3444, li_3447, li_3448, li_3449, li_3457, li_3465, li_3469, li_3473, li_3477, li_3501, li_3513, li_3525, li_3537, li_3633, li_3730, li_3742, li_3754, li_3766, li_4095, li_4096, li_4300, li_9011, li_9999, li_10000, li_36864, li_65536, li_1000000, ll_0, ll_1, ll_100, ll_11, ll_16, ll_20, ll_3, ll_32, ll_50, ll_8, ll_96, ll_99, ll_9999, ne_m1, e_if, e_ret, e_rz0, e_rz1, e_rzb, e_call, bCallX_eq, nI_add, nI_mul, nI_succ1, le_i, lt_i, eq_i, m1_i, m1_le, m1_lt, m1_ge, m1_eq, ite_true, ite_false, if_true, if_false, show mLf W < k + 1 by omega, k_cv hSw, k_none hSw]
      rfl
    unfold fsY
    cases hP1 : wAl (wQ W k) p with
    | false =>
      have e : thP W p k = false := by unfold thP; rw [hP1]; rfl
      rw [e]
      exact ⟨w, hA.fi g2, by simpa using hend⟩
    | true =>
      cases hP2 : wDk (wQ W k) p with
      | false =>
        have e : thP W p k = true := by unfold thP; rw [hP1, hP2]; rfl
        rw [e]
        refine ⟨v, hA, ?_⟩
        simp (disch := omega) only [k_cv hSv, k_tell hSv, li_0, li_1, li_2, li_3, li_4, li_5, li_6, li_7, li_8, li_9, li_10, li_11, li_12, li_13, li_14, li_15, li_16, li_17, li_20, li_24, li_25, li_29, li_31, li_32, li_33, li_37, li_40, li_41, li_48, li_49, li_50, li_56, li_57, li_59, li_60, li_61, li_62, li_63, li_70, li_73, li_85, li_97, li_98, li_99, li_100, li_101, li_102, li_103, li_104, li_105, li_107, li_108, li_109, li_110, li_111, li_112, li_114, li_115, li_116, li_117, li_118, li_119, li_121, li_122, li_140, li_193, li_200, li_240, li_255, li_289, li_290, li_300, li_302, li_314, li_326, li_860, li_880, li_900, li_999, li_1024, li_2801, li_3440, li_3441, li_3442, li_3443, li_3444, li_3447, li_3448, li_3449, li_3457, li_3465, li_3469, li_3473, li_3477, li_3501, li_3513, li_3525, li_3537, li_3633, li_3730, li_3742, li_3754, li_3766, li_4095, li_4096, li_4300, li_9011, li_9999, li_10000, li_36864, li_65536, li_1000000, ll_0, ll_1, ll_100, ll_11, ll_16, ll_20, ll_3, ll_32, ll_50, ll_8, ll_96, ll_99, ll_9999, ne_m1, e_if, e_ret, e_rz0, e_rz1, e_rzb, e_call, bCallX_eq, nI_add, nI_mul, nI_succ1, le_i, lt_i, eq_i, m1_i, m1_le, m1_lt, m1_ge, m1_eq, ite_true, ite_false, if_true, if_false, Bool.true_eq_false]
        rfl
      | true =>
        have e : thP W p k = false := by unfold thP; rw [hP1, hP2]; rfl
        rw [e]
        exact ⟨w, hA.fi g2, by simpa using hend⟩
  | succ d ih =>
    intro k n v hk hn hA hv
    obtain ⟨m, rfl⟩ : ∃ m, n = m + 1 := ⟨n - 1, by omega⟩
    have hSv := hA.cs hS
    have hpk : p < wPe (wQ W k) := by rw [wQ_pe hw]; exact hp
    obtain ⟨w, g1, g2, g3⟩ := c_passYear hv (by decide)
    obtain ⟨v1, i1, i2⟩ := ih (k + 1) m w (by omega) (by omega) (hA.fi g2) g3
    show ∃ v1, HA s v1 ∧ fX8_thirst_32 (m + 1) 1 _ _ _ v = _
    rw [qX8_thirst_32]
    unfold fX8_thirst_65 fX8_thirst_59
    simp (disch := omega) only [li_0, li_1, li_2, li_3, li_4, li_5, li_6, li_7, li_8, li_9, li_10, li_11, li_12, li_13, li_14, li_15, li_16, li_17, li_20, li_24, li_25, li_29, li_31, li_32, li_33, li_37, li_40, li_41, li_48, li_49, li_50, li_56, li_57, li_59, li_60, li_61, li_62, li_63, li_70, li_73, li_85, li_97, li_98, li_99, li_100, li_101, li_102, li_103, li_104, li_105, li_107, li_108, li_109, li_110, li_111, li_112, li_114, li_115, li_116, li_117, li_118, li_119, li_121, li_122, li_140, li_193, li_200, li_240, li_255, li_289, li_290, li_300, li_302, li_314, li_326, li_860, li_880, li_900, li_999, li_1024, li_2801, li_3440, li_3441, li_3442, li_3443, li_3444, li_3447, li_3448, li_3449, li_3457, li_3465, li_3469, li_3473, li_3477, li_3501, li_3513, li_3525, li_3537, li_3633, li_3730, li_3742, li_3754, li_3766, li_4095, li_4096, li_4300, li_9011, li_9999, li_10000, li_36864, li_65536, li_1000000, ll_0, ll_1, ll_100, ll_11, ll_16, ll_20, ll_3, ll_32, ll_50, ll_8, ll_96, ll_99, ll_9999, ne_m1, e_if, e_ret, e_rz0, e_rz1, e_rzb, e_call, bCallX_eq, nI_add, nI_mul, nI_succ1, le_i, lt_i, eq_i, m1_i, m1_le, m1_lt, m1_ge, m1_eq, ite_true, ite_false, if_true, if_false, show ¬ mLf W < k by omega, k_then hSv, e_callV hv.k, c_isAlive hv hpk, c_isDrinking hv hpk, bt0, g1]
    unfold fsY
    cases hP1 : wAl (wQ W k) p with
    | false =>
      have e : thP W p k = false := by unfold thP; rw [hP1]; rfl
      rw [e]
      exact ⟨v1, i1, by simpa using i2⟩
    | true =>
      cases hP2 : wDk (wQ W k) p with
      | false =>
        have e : thP W p k = true := by unfold thP; rw [hP1, hP2]; rfl
        rw [e]
        refine ⟨v, hA, ?_⟩
        simp (disch := omega) only [k_cv hSv, k_tell hSv, li_0, li_1, li_2, li_3, li_4, li_5, li_6, li_7, li_8, li_9, li_10, li_11, li_12, li_13, li_14, li_15, li_16, li_17, li_20, li_24, li_25, li_29, li_31, li_32, li_33, li_37, li_40, li_41, li_48, li_49, li_50, li_56, li_57, li_59, li_60, li_61, li_62, li_63, li_70, li_73, li_85, li_97, li_98, li_99, li_100, li_101, li_102, li_103, li_104, li_105, li_107, li_108, li_109, li_110, li_111, li_112, li_114, li_115, li_116, li_117, li_118, li_119, li_121, li_122, li_140, li_193, li_200, li_240, li_255, li_289, li_290, li_300, li_302, li_314, li_326, li_860, li_880, li_900, li_999, li_1024, li_2801, li_3440, li_3441, li_3442, li_3443, li_3444, li_3447, li_3448, li_3449, li_3457, li_3465, li_3469, li_3473, li_3477, li_3501, li_3513, li_3525, li_3537, li_3633, li_3730, li_3742, li_3754, li_3766, li_4095, li_4096, li_4300, li_9011, li_9999, li_10000, li_36864, li_65536, li_1000000, ll_0, ll_1, ll_100, ll_11, ll_16, ll_20, ll_3, ll_32, ll_50, ll_8, ll_96, ll_99, ll_9999, ne_m1, e_if, e_ret, e_rz0, e_rz1, e_rzb, e_call, bCallX_eq, nI_add, nI_mul, nI_succ1, le_i, lt_i, eq_i, m1_i, m1_le, m1_lt, m1_ge, m1_eq, ite_true, ite_false, if_true, if_false, Bool.true_eq_false]
        rfl
      | true =>
        have e : thP W p k = false := by unfold thP; rw [hP1, hP2]; rfl
        rw [e]
        exact ⟨v1, i1, by simpa using i2⟩
theorem x_thStop (m : Nat) (a b c : Int32) (v : mS) : fX9_thirst_35 (m + 1) 113 a b c (nI 0) v = fX9_thirst_102 113 b v := by
  rw [qX9_thirst_35, e_if, li_0, if_pos rfl]
theorem x_thirst {s : mS} {W : wW} {p : Nat} (hp : p < wPe W) (hw : wOk W) : ∀ d k n v, k + d = mLf W → d + 2 < n → HK s v → RX v (wQ W k) → ∃ v1, HK s v1 ∧ RT v1 ∧ fX9_thirst_35 n 113 (nI p) mI (nI k) (nI 1) v = fX9_thirst_102 113 (oI (fsY (thP W p) d k)) v1 := by
  have hm := mLf_b hw
  have hyr := hw.1
  intro d
  induction d with
  | zero =>
    intro k n v hk hn hA hv
    obtain ⟨m, rfl⟩ : ∃ m, n = m + 1 := ⟨n - 1, by omega⟩
    obtain ⟨m, rfl⟩ : ∃ i, m = i + 1 := ⟨m - 1, by omega⟩
    have hpk : p < wPe (wQ W k) := by rw [wQ_pe hw]; exact hp
    have hyk : wYr (wQ W k) = wYr W + k := wQ_yr k (by omega)
    have hlast : 100 < k + 1 ∨ 200 ≤ wYr W + k := by unfold mLf at hk; omega
    have hcl : ∀ {β : Type} (A B : β), (if 100 < k + 1 then A else if 200 ≤ wYr W + k then A else B) = A := by
      intro β A B
      by_cases h1 : 100 < k + 1
      · exact if_pos h1
      · rw [if_neg h1, if_pos (by omega)]
    refine ⟨v, hA, hv.1, ?_⟩
    rw [qX9_thirst_35]
    unfold fX9_thirst_58 fX9_thirst_87 fX9_thirst_88
    simp (disch := omega) only [li_0, li_1, li_2, li_3, li_4, li_5, li_6, li_7, li_8, li_9, li_10, li_11, li_12, li_13, li_14, li_15, li_16, li_17, li_20, li_24, li_25, li_29, li_31, li_32, li_33, li_37, li_40, li_41, li_48, li_49, li_50, li_56, li_57, li_59, li_60, li_61, li_62, li_63, li_70, li_73, li_85, li_97, li_98, li_99, li_100, li_101, li_102, li_103, li_104, li_105, li_107, li_108, li_109, li_110, li_111, li_112, li_114, li_115, li_116, li_117, li_118, li_119, li_121, li_122, li_140, li_193, li_200, li_240, li_255, li_289, li_290, li_300, li_302, li_314, li_326, li_860, li_880, li_900, li_999, li_1024, li_2801, li_3440, li_3441, li_3442, li_3443, li_3444, li_3447, li_3448, li_3449, li_3457, li_3465, li_3469, li_3473, li_3477, li_3501, li_3513, li_3525, li_3537, li_3633, li_3730, li_3742, li_3754, li_3766, li_4095, li_4096, li_4300, li_9011, li_9999, li_10000, li_36864, li_65536, li_1000000, ll_0, ll_1, ll_100, ll_11, ll_16, ll_20, ll_3, ll_32, ll_50, ll_8, ll_96, ll_99, ll_9999, ne_m1, e_if, e_ret, e_rz0, e_rz1, e_rzb, e_call, bCallX_eq, nI_add, nI_mul, nI_succ1, le_i, lt_i, eq_i, m1_i, m1_le, m1_lt, m1_ge, m1_eq, ite_true, ite_false, if_true, if_false, n10, e_callV hv.k, x_isAlive hv hpk, x_isDrinking hv hpk, bt0, r_c hv, r_yr hv, hyk, Nat.zero_le, x_thStop]
    unfold fsY
    cases hP1 : wAl (wQ W k) p with
    | false =>
      have e : thP W p k = false := by unfold thP; rw [hP1]; rfl
      rw [e]
      simp only [hcl, if_true, if_false, Bool.true_eq_false, Bool.false_eq_true, oI_n, oI_s]
    | true =>
      cases hP2 : wDk (wQ W k) p with
      | false =>
        have e : thP W p k = true := by unfold thP; rw [hP1, hP2]; rfl
        rw [e]
        simp only [if_true, if_false, Bool.true_eq_false, Bool.false_eq_true, oI_n, oI_s]
      | true =>
        have e : thP W p k = false := by unfold thP; rw [hP1, hP2]; rfl
        rw [e]
        simp only [hcl, if_true, if_false, Bool.true_eq_false, Bool.false_eq_true, oI_n, oI_s]
  | succ d ih =>
    intro k n v hk hn hA hv
    obtain ⟨m, rfl⟩ : ∃ m, n = m + 1 := ⟨n - 1, by omega⟩
    obtain ⟨m, rfl⟩ : ∃ i, m = i + 1 := ⟨m - 1, by omega⟩
    have hpk : p < wPe (wQ W k) := by rw [wQ_pe hw]; exact hp
    have hyk : wYr (wQ W k) = wYr W + k := wQ_yr k (by omega)
    obtain ⟨w, g1, g2, g3⟩ := x_oneYear hv (by omega)
    have g3 : RX w (wQ W (k + 1)) := by
      rw [wQ_s]
      unfold wPs
      rw [if_pos (by omega)]
      exact g3
    obtain ⟨v1, i1, i2, i3⟩ := ih (k + 1) (m + 1) w (by omega) (by omega) (hA.fm g2) g3
    unfold fsY
    by_cases hP : thP W p k = true
    · rw [hP]
      refine ⟨v, hA, hv.1, ?_⟩
      unfold thP at hP
      rw [Bool.and_eq_true, Bool.not_eq_true'] at hP
      rw [qX9_thirst_35]
      unfold fX9_thirst_58 fX9_thirst_87 fX9_thirst_88
      simp (disch := omega) only [li_0, li_1, li_2, li_3, li_4, li_5, li_6, li_7, li_8, li_9, li_10, li_11, li_12, li_13, li_14, li_15, li_16, li_17, li_20, li_24, li_25, li_29, li_31, li_32, li_33, li_37, li_40, li_41, li_48, li_49, li_50, li_56, li_57, li_59, li_60, li_61, li_62, li_63, li_70, li_73, li_85, li_97, li_98, li_99, li_100, li_101, li_102, li_103, li_104, li_105, li_107, li_108, li_109, li_110, li_111, li_112, li_114, li_115, li_116, li_117, li_118, li_119, li_121, li_122, li_140, li_193, li_200, li_240, li_255, li_289, li_290, li_300, li_302, li_314, li_326, li_860, li_880, li_900, li_999, li_1024, li_2801, li_3440, li_3441, li_3442, li_3443, li_3444, li_3447, li_3448, li_3449, li_3457, li_3465, li_3469, li_3473, li_3477, li_3501, li_3513, li_3525, li_3537, li_3633, li_3730, li_3742, li_3754, li_3766, li_4095, li_4096, li_4300, li_9011, li_9999, li_10000, li_36864, li_65536, li_1000000, ll_0, ll_1, ll_100, ll_11, ll_16, ll_20, ll_3, ll_32, ll_50, ll_8, ll_96, ll_99, ll_9999, ne_m1, e_if, e_ret, e_rz0, e_rz1, e_rzb, e_call, bCallX_eq, nI_add, nI_mul, nI_succ1, le_i, lt_i, eq_i, m1_i, m1_le, m1_lt, m1_ge, m1_eq, ite_true, ite_false, if_true, if_false, n10, e_callV hv.k, x_isAlive hv hpk, x_isDrinking hv hpk, bt0, hP.1, hP.2, Bool.true_eq_false, Nat.zero_le, x_thStop, oI_s]
    · have e : thP W p k = false := by simpa using hP
      rw [e]
      refine ⟨v1, i1, i2, ?_⟩
      rw [qX9_thirst_35]
      unfold fX9_thirst_58 fX9_thirst_87 fX9_thirst_88
      simp (disch := omega) only [li_0, li_1, li_2, li_3, li_4, li_5, li_6, li_7, li_8, li_9, li_10, li_11, li_12, li_13, li_14, li_15, li_16, li_17, li_20, li_24, li_25, li_29, li_31, li_32, li_33, li_37, li_40, li_41, li_48, li_49, li_50, li_56, li_57, li_59, li_60, li_61, li_62, li_63, li_70, li_73, li_85, li_97, li_98, li_99, li_100, li_101, li_102, li_103, li_104, li_105, li_107, li_108, li_109, li_110, li_111, li_112, li_114, li_115, li_116, li_117, li_118, li_119, li_121, li_122, li_140, li_193, li_200, li_240, li_255, li_289, li_290, li_300, li_302, li_314, li_326, li_860, li_880, li_900, li_999, li_1024, li_2801, li_3440, li_3441, li_3442, li_3443, li_3444, li_3447, li_3448, li_3449, li_3457, li_3465, li_3469, li_3473, li_3477, li_3501, li_3513, li_3525, li_3537, li_3633, li_3730, li_3742, li_3754, li_3766, li_4095, li_4096, li_4300, li_9011, li_9999, li_10000, li_36864, li_65536, li_1000000, ll_0, ll_1, ll_100, ll_11, ll_16, ll_20, ll_3, ll_32, ll_50, ll_8, ll_96, ll_99, ll_9999, ne_m1, e_if, e_ret, e_rz0, e_rz1, e_rzb, e_call, bCallX_eq, nI_add, nI_mul, nI_succ1, le_i, lt_i, eq_i, m1_i, m1_le, m1_lt, m1_ge, m1_eq, ite_true, ite_false, if_true, if_false, n10, e_callV hv.k, x_isAlive hv hpk, x_isDrinking hv hpk, bt0, r_c hv, r_yr hv, hyk, show ¬ 100 < k + 1 by omega, show ¬ 200 ≤ wYr W + k by omega, g1]
      unfold thP at e
      cases hP1 : wAl (wQ W k) p with
      | false => simpa using i3
      | true =>
        cases hP2 : wDk (wQ W k) p with
        | false => rw [hP1, hP2] at e; cases e
        | true => simpa using i3
theorem s_thirst (x : Int32) : Sim (fX8_thirst 1 x) (fX9_thirst 113 x) := by
  refine Sim.ah fun s t D hC hR hD => ?_
  have hS := hC.1
  have h : CW s 4 (dW D) := hC.2.2.2.2.1
  have u : RX (q0 t) (dW D) := (hR.q0 hD).1
  have hT := hR.1.1
  have hah := fun (n d : Nat) (hn : n ≤ 200) (hd : d < 65536) => c_ahead hC hn hd
  have hrf := hC.rf
  have hcp := c_cp48 hC
  obtain ⟨W, hW⟩ : ∃ W, W = dW D := ⟨_, rfl⟩
  rw [← hW] at h u hah hcp
  have i8 := h.wi.2.2.2.2.2.2.2.1
  have iD := h.wi.2.2.2.2.2.2.1
  have hlaw := hC.law
  unfold fX8_thirst fX9_thirst
  rw [q0_b hT]
  rcases prs W x with ⟨p, hp, rfl⟩ | hx
  · obtain ⟨t0, e1, e2, e3⟩ := hcp
    have hS1 := e2.cs hS
    have h1 := e2.cw h hlaw
    have hb := mLf_b h.wi
    obtain ⟨s1, c1, c2⟩ := c_thirst (s := s) hS hp h.wi (mLf W) 0 fu t0 (by omega) (by unfold fu; omega) e2 e3
    obtain ⟨t1, f1, f2, f3⟩ := x_keep2 u
    obtain ⟨t2, g1, g2, g3⟩ := x_thirst (s := q0 t) hp h.wi (mLf W) 0 fu t1 (by omega) (by unfold fu; omega) f2 f3
    obtain ⟨t3, k1, k2, k3⟩ := x_take2 g1 g2
    have hfs := fsY_b (thP W p) (mLf W) 0
    have hc : fX8_thirst 1 (nI p) s = some (oI (fsY (thP W p) (mLf W) 0), wI s1 1 11 (nI (stN (fsY (thP W p) (mLf W) 0)))) := by
      unfold fX8_thirst
      simp (disch := omega) only [k_now hS, k_cv hS, k_tell hS, k_none hS, k_refuse hS, k_accept hS, k_tellIf0 hS, k_tellIf1 hS, n10, r_c u, r_wa u, r_bo u, r_si u, r_ra u, r_rb u, r_yr u, r_dr u, r_pe u, r_fl u, r_pa u, r_di u, r_fr u, r_to u, r_by u, e_callV u.k, q_refuse u.1, q_no u.1, n10, g_yr h, g_wa h, g_bo h, g_si h, g_ra h, g_rb h, g_dr h, g_pe h, g_fl h, g_apa h, g_adi h, g_aro h, g_afr h, g_ato h, g_aby h, g_afc h, g_pa h, g_di h, g_ro h, g_fr h, g_to h, g_by h, e_callV h.k, li_0, li_1, li_2, li_3, li_4, li_5, li_6, li_7, li_8, li_9, li_10, li_11, li_12, li_13, li_14, li_15, li_16, li_17, li_20, li_24, li_25, li_29, li_31, li_32, li_33, li_37, li_40, li_41, li_48, li_49, li_50, li_56, li_57, li_59, li_60, li_61, li_62, li_63, li_70, li_73, li_85, li_97, li_98, li_99, li_100, li_101, li_102, li_103, li_104, li_105, li_107, li_108, li_109, li_110, li_111, li_112, li_114, li_115, li_116, li_117, li_118, li_119, li_121, li_122, li_140, li_193, li_200, li_240, li_255, li_289, li_290, li_300, li_302, li_314, li_326, li_860, li_880, li_900, li_999, li_1024, li_2801, li_3440, li_3441, li_3442, li_3443, li_3444, li_3447, li_3448, li_3449, li_3457, li_3465, li_3469, li_3473, li_3477, li_3501, li_3513, li_3525, li_3537, li_3633, li_3730, li_3742, li_3754, li_3766, li_4095, li_4096, li_4300, li_9011, li_9999, li_10000, li_36864, li_65536, li_1000000, ll_0, ll_1, ll_100, ll_11, ll_16, ll_20, ll_3, ll_32, ll_50, ll_8, ll_96, ll_99, ll_9999, ne_m1, e_if, e_ret, e_rz0, e_rz1, e_rzb, e_call, bCallX_eq, nI_add, nI_mul, nI_succ1, le_i, lt_i, eq_i, m1_i, m1_le, m1_lt, m1_ge, m1_eq, ite_true, ite_false, if_true, if_false, Nat.zero_le, true_and, and_true, and_false, false_and, decide_true, decide_false, Bool.toNat_true, Bool.toNat_false, Nat.not_lt_zero, oI_g0, n10, x_in, l_i, sub_i, k_isPerson hS h hp, k_then hS]
      rw [e_callV hC.h48.1]
      simp (disch := omega) only [k_now hS, k_cv hS, k_tell hS, k_none hS, k_refuse hS, k_accept hS, k_tellIf0 hS, k_tellIf1 hS, n10, r_c u, r_wa u, r_bo u, r_si u, r_ra u, r_rb u, r_yr u, r_dr u, r_pe u, r_fl u, r_pa u, r_di u, r_fr u, r_to u, r_by u, e_callV u.k, q_refuse u.1, q_no u.1, n10, g_yr h, g_wa h, g_bo h, g_si h, g_ra h, g_rb h, g_dr h, g_pe h, g_fl h, g_apa h, g_adi h, g_aro h, g_afr h, g_ato h, g_aby h, g_afc h, g_pa h, g_di h, g_ro h, g_fr h, g_to h, g_by h, e_callV h.k, li_0, li_1, li_2, li_3, li_4, li_5, li_6, li_7, li_8, li_9, li_10, li_11, li_12, li_13, li_14, li_15, li_16, li_17, li_20, li_24, li_25, li_29, li_31, li_32, li_33, li_37, li_40, li_41, li_48, li_49, li_50, li_56, li_57, li_59, li_60, li_61, li_62, li_63, li_70, li_73, li_85, li_97, li_98, li_99, li_100, li_101, li_102, li_103, li_104, li_105, li_107, li_108, li_109, li_110, li_111, li_112, li_114, li_115, li_116, li_117, li_118, li_119, li_121, li_122, li_140, li_193, li_200, li_240, li_255, li_289, li_290, li_300, li_302, li_314, li_326, li_860, li_880, li_900, li_999, li_1024, li_2801, li_3440, li_3441, li_3442, li_3443, li_3444, li_3447, li_3448, li_3449, li_3457, li_3465, li_3469, li_3473, li_3477, li_3501, li_3513, li_3525, li_3537, li_3633, li_3730, li_3742, li_3754, li_3766, li_4095, li_4096, li_4300, li_9011, li_9999, li_10000, li_36864, li_65536, li_1000000, ll_0, ll_1, ll_100, ll_11, ll_16, ll_20, ll_3, ll_32, ll_50, ll_8, ll_96, ll_99, ll_9999, ne_m1, e_if, e_ret, e_rz0, e_rz1, e_rzb, e_call, bCallX_eq, nI_add, nI_mul, nI_succ1, le_i, lt_i, eq_i, m1_i, m1_le, m1_lt, m1_ge, m1_eq, ite_true, ite_false, if_true, if_false, Nat.zero_le, true_and, and_true, and_false, false_and, decide_true, decide_false, Bool.toNat_true, Bool.toNat_false, Nat.not_lt_zero, oI_g0, n10, x_in, l_i, sub_i, e1, k_cv hS1, k_left hS1 h1]
      exact c2
    have hx9 : fX9_thirst_35 fu 113 (nI p) mI (nI 0) (nI 1) t1 = fX9_thirst_102 113 (oI (fsY (thP W p) (mLf W) 0)) t2 := g3
    unfold fX8_thirst at hc
    generalize fsY (thP W p) (mLf W) 0 = o at hc hx9 hfs
    refine ⟨oI o, stN o, s1, t3, ?_, c1, k2, hc, ?_⟩
    · cases o
      · show 8 < 12; decide
      · show 0 < 12; decide
    · cases o with
      | none =>
        left
        simp (disch := omega) only [k_now hS, k_cv hS, k_tell hS, k_none hS, k_refuse hS, k_accept hS, k_tellIf0 hS, k_tellIf1 hS, n10, r_c u, r_wa u, r_bo u, r_si u, r_ra u, r_rb u, r_yr u, r_dr u, r_pe u, r_fl u, r_pa u, r_di u, r_fr u, r_to u, r_by u, e_callV u.k, q_refuse u.1, q_no u.1, n10, g_yr h, g_wa h, g_bo h, g_si h, g_ra h, g_rb h, g_dr h, g_pe h, g_fl h, g_apa h, g_adi h, g_aro h, g_afr h, g_ato h, g_aby h, g_afc h, g_pa h, g_di h, g_ro h, g_fr h, g_to h, g_by h, e_callV h.k, li_0, li_1, li_2, li_3, li_4, li_5, li_6, li_7, li_8, li_9, li_10, li_11, li_12, li_13, li_14, li_15, li_16, li_17, li_20, li_24, li_25, li_29, li_31, li_32, li_33, li_37, li_40, li_41, li_48, li_49, li_50, li_56, li_57, li_59, li_60, li_61, li_62, li_63, li_70, li_73, li_85, li_97, li_98, li_99, li_100, li_101, li_102, li_103, li_104, li_105, li_107, li_108, li_109, li_110, li_111, li_112, li_114, li_115, li_116, li_117, li_118, li_119, li_121, li_122, li_140, li_193, li_200, li_240, li_255, li_289, li_290, li_300, li_302, li_314, li_326, li_860, li_880, li_900, li_999, li_1024, li_2801, li_3440, li_3441, li_3442, li_3443, li_3444, li_3447, li_3448, li_3449, li_3457, li_3465, li_3469, li_3473, li_3477, li_3501, li_3513, li_3525, li_3537, li_3633, li_3730, li_3742, li_3754, li_3766, li_4095, li_4096, li_4300, li_9011, li_9999, li_10000, li_36864, li_65536, li_1000000, ll_0, ll_1, ll_100, ll_11, ll_16, ll_20, ll_3, ll_32, ll_50, ll_8, ll_96, ll_99, ll_9999, ne_m1, e_if, e_ret, e_rz0, e_rz1, e_rzb, e_call, bCallX_eq, nI_add, nI_mul, nI_succ1, le_i, lt_i, eq_i, m1_i, m1_le, m1_lt, m1_ge, m1_eq, ite_true, ite_false, if_true, if_false, Nat.zero_le, true_and, and_true, and_false, false_and, decide_true, decide_false, Bool.toNat_true, Bool.toNat_false, Nat.not_lt_zero, oI_g0, n10, x_in, l_i, sub_i, q_isPerson u hp, f1]
        show fX9_thirst_35 fu 113 (nI p) mI (nI 0) (nI 1) t1 = _
        rw [hx9]
        unfold fX9_thirst_102
        have hr : fX9_refuse 113 (nI 8) t3 = some (mI, wI t3 113 0 (nI 8)) := q_refuse (k2.rx u).1 8
        simp (disch := omega) only [e_callV g2.k, e_callV (k2.rx u).k, k1, li_0, li_1, li_2, li_3, li_4, li_5, li_6, li_7, li_8, li_9, li_10, li_11, li_12, li_13, li_14, li_15, li_16, li_17, li_20, li_24, li_25, li_29, li_31, li_32, li_33, li_37, li_40, li_41, li_48, li_49, li_50, li_56, li_57, li_59, li_60, li_61, li_62, li_63, li_70, li_73, li_85, li_97, li_98, li_99, li_100, li_101, li_102, li_103, li_104, li_105, li_107, li_108, li_109, li_110, li_111, li_112, li_114, li_115, li_116, li_117, li_118, li_119, li_121, li_122, li_140, li_193, li_200, li_240, li_255, li_289, li_290, li_300, li_302, li_314, li_326, li_860, li_880, li_900, li_999, li_1024, li_2801, li_3440, li_3441, li_3442, li_3443, li_3444, li_3447, li_3448, li_3449, li_3457, li_3465, li_3469, li_3473, li_3477, li_3501, li_3513, li_3525, li_3537, li_3633, li_3730, li_3742, li_3754, li_3766, li_4095, li_4096, li_4300, li_9011, li_9999, li_10000, li_36864, li_65536, li_1000000, ll_0, ll_1, ll_100, ll_11, ll_16, ll_20, ll_3, ll_32, ll_50, ll_8, ll_96, ll_99, ll_9999, ne_m1, e_if, e_ret, e_rz0, e_rz1, e_rzb, e_call, bCallX_eq, nI_add, nI_mul, nI_succ1, le_i, lt_i, eq_i, m1_i, m1_le, m1_lt, m1_ge, m1_eq, ite_true, ite_false, if_true, if_false, oI_n, hr]
        rfl
      | some j =>
        have := hfs j rfl
        right
        refine ⟨rfl, ?_⟩
        simp (disch := omega) only [k_now hS, k_cv hS, k_tell hS, k_none hS, k_refuse hS, k_accept hS, k_tellIf0 hS, k_tellIf1 hS, n10, r_c u, r_wa u, r_bo u, r_si u, r_ra u, r_rb u, r_yr u, r_dr u, r_pe u, r_fl u, r_pa u, r_di u, r_fr u, r_to u, r_by u, e_callV u.k, q_refuse u.1, q_no u.1, n10, g_yr h, g_wa h, g_bo h, g_si h, g_ra h, g_rb h, g_dr h, g_pe h, g_fl h, g_apa h, g_adi h, g_aro h, g_afr h, g_ato h, g_aby h, g_afc h, g_pa h, g_di h, g_ro h, g_fr h, g_to h, g_by h, e_callV h.k, li_0, li_1, li_2, li_3, li_4, li_5, li_6, li_7, li_8, li_9, li_10, li_11, li_12, li_13, li_14, li_15, li_16, li_17, li_20, li_24, li_25, li_29, li_31, li_32, li_33, li_37, li_40, li_41, li_48, li_49, li_50, li_56, li_57, li_59, li_60, li_61, li_62, li_63, li_70, li_73, li_85, li_97, li_98, li_99, li_100, li_101, li_102, li_103, li_104, li_105, li_107, li_108, li_109, li_110, li_111, li_112, li_114, li_115, li_116, li_117, li_118, li_119, li_121, li_122, li_140, li_193, li_200, li_240, li_255, li_289, li_290, li_300, li_302, li_314, li_326, li_860, li_880, li_900, li_999, li_1024, li_2801, li_3440, li_3441, li_3442, li_3443, li_3444, li_3447, li_3448, li_3449, li_3457, li_3465, li_3469, li_3473, li_3477, li_3501, li_3513, li_3525, li_3537, li_3633, li_3730, li_3742, li_3754, li_3766, li_4095, li_4096, li_4300, li_9011, li_9999, li_10000, li_36864, li_65536, li_1000000, ll_0, ll_1, ll_100, ll_11, ll_16, ll_20, ll_3, ll_32, ll_50, ll_8, ll_96, ll_99, ll_9999, ne_m1, e_if, e_ret, e_rz0, e_rz1, e_rzb, e_call, bCallX_eq, nI_add, nI_mul, nI_succ1, le_i, lt_i, eq_i, m1_i, m1_le, m1_lt, m1_ge, m1_eq, ite_true, ite_false, if_true, if_false, Nat.zero_le, true_and, and_true, and_false, false_and, decide_true, decide_false, Bool.toNat_true, Bool.toNat_false, Nat.not_lt_zero, oI_g0, n10, x_in, l_i, sub_i, q_isPerson u hp, f1]
        show fX9_thirst_35 fu 113 (nI p) mI (nI 0) (nI 1) t1 = _
        rw [hx9]
        unfold fX9_thirst_102
        simp (disch := omega) only [e_callV g2.k, k1, li_0, li_1, li_2, li_3, li_4, li_5, li_6, li_7, li_8, li_9, li_10, li_11, li_12, li_13, li_14, li_15, li_16, li_17, li_20, li_24, li_25, li_29, li_31, li_32, li_33, li_37, li_40, li_41, li_48, li_49, li_50, li_56, li_57, li_59, li_60, li_61, li_62, li_63, li_70, li_73, li_85, li_97, li_98, li_99, li_100, li_101, li_102, li_103, li_104, li_105, li_107, li_108, li_109, li_110, li_111, li_112, li_114, li_115, li_116, li_117, li_118, li_119, li_121, li_122, li_140, li_193, li_200, li_240, li_255, li_289, li_290, li_300, li_302, li_314, li_326, li_860, li_880, li_900, li_999, li_1024, li_2801, li_3440, li_3441, li_3442, li_3443, li_3444, li_3447, li_3448, li_3449, li_3457, li_3465, li_3469, li_3473, li_3477, li_3501, li_3513, li_3525, li_3537, li_3633, li_3730, li_3742, li_3754, li_3766, li_4095, li_4096, li_4300, li_9011, li_9999, li_10000, li_36864, li_65536, li_1000000, ll_0, ll_1, ll_100, ll_11, ll_16, ll_20, ll_3, ll_32, ll_50, ll_8, ll_96, ll_99, ll_9999, ne_m1, e_if, e_ret, e_rz0, e_rz1, e_rzb, e_call, bCallX_eq, nI_add, nI_mul, nI_succ1, le_i, lt_i, eq_i, m1_i, m1_le, m1_lt, m1_ge, m1_eq, ite_true, ite_false, if_true, if_false, oI_s, Nat.zero_le]
  · refine ⟨mI, 2, s, q0 t, by decide, hrf, HR.rf, ?_, Or.inl ?_⟩
    · simp (disch := omega) only [k_now hS, k_cv hS, k_tell hS, k_none hS, k_refuse hS, k_accept hS, k_tellIf0 hS, k_tellIf1 hS, n10, r_c u, r_wa u, r_bo u, r_si u, r_ra u, r_rb u, r_yr u, r_dr u, r_pe u, r_fl u, r_pa u, r_di u, r_fr u, r_to u, r_by u, e_callV u.k, q_refuse u.1, q_no u.1, n10, g_yr h, g_wa h, g_bo h, g_si h, g_ra h, g_rb h, g_dr h, g_pe h, g_fl h, g_apa h, g_adi h, g_aro h, g_afr h, g_ato h, g_aby h, g_afc h, g_pa h, g_di h, g_ro h, g_fr h, g_to h, g_by h, e_callV h.k, li_0, li_1, li_2, li_3, li_4, li_5, li_6, li_7, li_8, li_9, li_10, li_11, li_12, li_13, li_14, li_15, li_16, li_17, li_20, li_24, li_25, li_29, li_31, li_32, li_33, li_37, li_40, li_41, li_48, li_49, li_50, li_56, li_57, li_59, li_60, li_61, li_62, li_63, li_70, li_73, li_85, li_97, li_98, li_99, li_100, li_101, li_102, li_103, li_104, li_105, li_107, li_108, li_109, li_110, li_111, li_112, li_114, li_115, li_116, li_117, li_118, li_119, li_121, li_122, li_140, li_193, li_200, li_240, li_255, li_289, li_290, li_300, li_302, li_314, li_326, li_860, li_880, li_900, li_999, li_1024, li_2801, li_3440, li_3441, li_3442, li_3443, li_3444, li_3447, li_3448, li_3449, li_3457, li_3465, li_3469, li_3473, li_3477, li_3501, li_3513, li_3525, li_3537, li_3633, li_3730, li_3742, li_3754, li_3766, li_4095, li_4096, li_4300, li_9011, li_9999, li_10000, li_36864, li_65536, li_1000000, ll_0, ll_1, ll_100, ll_11, ll_16, ll_20, ll_3, ll_32, ll_50, ll_8, ll_96, ll_99, ll_9999, ne_m1, e_if, e_ret, e_rz0, e_rz1, e_rzb, e_call, bCallX_eq, nI_add, nI_mul, nI_succ1, le_i, lt_i, eq_i, m1_i, m1_le, m1_lt, m1_ge, m1_eq, ite_true, ite_false, if_true, if_false, Nat.zero_le, true_and, and_true, and_false, false_and, decide_true, decide_false, Bool.toNat_true, Bool.toNat_false, Nat.not_lt_zero, oI_g0, n10, x_in, l_i, sub_i, k_noPerson hS h hx]
    · simp (disch := omega) only [k_now hS, k_cv hS, k_tell hS, k_none hS, k_refuse hS, k_accept hS, k_tellIf0 hS, k_tellIf1 hS, n10, r_c u, r_wa u, r_bo u, r_si u, r_ra u, r_rb u, r_yr u, r_dr u, r_pe u, r_fl u, r_pa u, r_di u, r_fr u, r_to u, r_by u, e_callV u.k, q_refuse u.1, q_no u.1, n10, g_yr h, g_wa h, g_bo h, g_si h, g_ra h, g_rb h, g_dr h, g_pe h, g_fl h, g_apa h, g_adi h, g_aro h, g_afr h, g_ato h, g_aby h, g_afc h, g_pa h, g_di h, g_ro h, g_fr h, g_to h, g_by h, e_callV h.k, li_0, li_1, li_2, li_3, li_4, li_5, li_6, li_7, li_8, li_9, li_10, li_11, li_12, li_13, li_14, li_15, li_16, li_17, li_20, li_24, li_25, li_29, li_31, li_32, li_33, li_37, li_40, li_41, li_48, li_49, li_50, li_56, li_57, li_59, li_60, li_61, li_62, li_63, li_70, li_73, li_85, li_97, li_98, li_99, li_100, li_101, li_102, li_103, li_104, li_105, li_107, li_108, li_109, li_110, li_111, li_112, li_114, li_115, li_116, li_117, li_118, li_119, li_121, li_122, li_140, li_193, li_200, li_240, li_255, li_289, li_290, li_300, li_302, li_314, li_326, li_860, li_880, li_900, li_999, li_1024, li_2801, li_3440, li_3441, li_3442, li_3443, li_3444, li_3447, li_3448, li_3449, li_3457, li_3465, li_3469, li_3473, li_3477, li_3501, li_3513, li_3525, li_3537, li_3633, li_3730, li_3742, li_3754, li_3766, li_4095, li_4096, li_4300, li_9011, li_9999, li_10000, li_36864, li_65536, li_1000000, ll_0, ll_1, ll_100, ll_11, ll_16, ll_20, ll_3, ll_32, ll_50, ll_8, ll_96, ll_99, ll_9999, ne_m1, e_if, e_ret, e_rz0, e_rz1, e_rzb, e_call, bCallX_eq, nI_add, nI_mul, nI_succ1, le_i, lt_i, eq_i, m1_i, m1_le, m1_lt, m1_ge, m1_eq, ite_true, ite_false, if_true, if_false, Nat.zero_le, true_and, and_true, and_false, false_and, decide_true, decide_false, Bool.toNat_true, Bool.toNat_false, Nat.not_lt_zero, oI_g0, n10, x_in, l_i, sub_i, q_noPerson u hx]

/-! BITS COUNTED: the library's bitCount on twelve bits -/
def pc (m : Nat) : Nat := it (fun k n => n + (m.testBit k).toNat) 0 12
theorem pc_le' (m : Nat) : ∀ n, it (fun k n => n + (m.testBit k).toNat) 0 n ≤ n
  | 0 => Nat.le_refl _
  | n + 1 => by
    have := pc_le' m n
    rw [it_s]
    cases m.testBit n <;> simp <;> omega
theorem pc_le (m : Nat) : pc m ≤ 12 := pc_le' m 12
def bcv (x : Int32) : Int32 := match fJ6_bitCount_0f7a4 x mS0 with
  | some (y, _) => y
  | none => 0
theorem bc_v (x : Int32) (s : mS) : fJ6_bitCount_0f7a4 x s = some (bcv x, s) := rfl
set_option maxRecDepth 100000 in
theorem bc_all : ∀ m, m < 4096 → bcv (nI m) = nI (pc m) := by decide +kernel
theorem x_bits {m : Nat} (hm : m < 2147483648) (s : mS) : fX9_bits (nI m) s = some (nI (pc m), s) := by
  unfold fX9_bits
  refine loop_n (fun n k => fX9_bits_4 n (nI m) (nI (it (fun k n => n + (m.testBit k).toNat) 0 k)) (nI k) s) _ 12 ?_ ?_ fu 0 (by omega) (by unfold fu; omega)
  · intro n k hk
    have hk' : ¬ 12 ≤ k := by omega
    show fX9_bits_4 (n + 1) (nI m) _ _ s = _
    rw [qX9_bits_4]
    simp (disch := omega) only [li_0, li_1, li_2, li_3, li_4, li_5, li_6, li_7, li_8, li_9, li_10, li_11, li_12, li_13, li_14, li_15, li_16, li_17, li_20, li_24, li_25, li_29, li_31, li_32, li_33, li_37, li_40, li_41, li_48, li_49, li_50, li_56, li_57, li_59, li_60, li_61, li_62, li_63, li_70, li_73, li_85, li_97, li_98, li_99, li_100, li_101, li_102, li_103, li_104, li_105, li_107, li_108, li_109, li_110, li_111, li_112, li_114, li_115, li_116, li_117, li_118, li_119, li_121, li_122, li_140, li_193, li_200, li_240, li_255, li_289, li_290, li_300, li_302, li_314, li_326, li_860, li_880, li_900, li_999, li_1024, li_2801, li_3440, li_3441, li_3442, li_3443, li_3444, li_3447, li_3448, li_3449, li_3457, li_3465, li_3469, li_3473, li_3477, li_3501, li_3513, li_3525, li_3537, li_3633, li_3730, li_3742, li_3754, li_3766, li_4095, li_4096, li_4300, li_9011, li_9999, li_10000, li_36864, li_65536, li_1000000, ll_0, ll_1, ll_100, ll_11, ll_16, ll_20, ll_3, ll_32, ll_50, ll_8, ll_96, ll_99, ll_9999, ne_m1, e_if, e_ret, e_rz0, e_rz1, e_rzb, e_call, bCallX_eq, nI_add, nI_mul, nI_succ1, le_i, lt_i, eq_i, m1_i, m1_le, m1_lt, m1_ge, m1_eq, ite_true, ite_false, if_true, if_false, hk', bit_i, it_s]
  · intro n
    show fX9_bits_4 (n + 1) (nI m) _ _ s = _
    rw [qX9_bits_4]
    simp (disch := omega) only [li_0, li_1, li_2, li_3, li_4, li_5, li_6, li_7, li_8, li_9, li_10, li_11, li_12, li_13, li_14, li_15, li_16, li_17, li_20, li_24, li_25, li_29, li_31, li_32, li_33, li_37, li_40, li_41, li_48, li_49, li_50, li_56, li_57, li_59, li_60, li_61, li_62, li_63, li_70, li_73, li_85, li_97, li_98, li_99, li_100, li_101, li_102, li_103, li_104, li_105, li_107, li_108, li_109, li_110, li_111, li_112, li_114, li_115, li_116, li_117, li_118, li_119, li_121, li_122, li_140, li_193, li_200, li_240, li_255, li_289, li_290, li_300, li_302, li_314, li_326, li_860, li_880, li_900, li_999, li_1024, li_2801, li_3440, li_3441, li_3442, li_3443, li_3444, li_3447, li_3448, li_3449, li_3457, li_3465, li_3469, li_3473, li_3477, li_3501, li_3513, li_3525, li_3537, li_3633, li_3730, li_3742, li_3754, li_3766, li_4095, li_4096, li_4300, li_9011, li_9999, li_10000, li_36864, li_65536, li_1000000, ll_0, ll_1, ll_100, ll_11, ll_16, ll_20, ll_3, ll_32, ll_50, ll_8, ll_96, ll_99, ll_9999, ne_m1, e_if, e_ret, e_rz0, e_rz1, e_rzb, e_call, bCallX_eq, nI_add, nI_mul, nI_succ1, le_i, lt_i, eq_i, m1_i, m1_le, m1_lt, m1_ge, m1_eq, ite_true, ite_false, if_true, if_false, Nat.le_refl]
    rfl
theorem j_bitCount {m : Nat} (hm : m < 4096) (s : mS) : fJ6_bitCount_0f7a4 (nI m) s = some (nI (pc m), s) := by rw [bc_v, bc_all m hm]
/-- a loop that counts up until P holds, which comes -/
theorem loop_y {β : Type} (f : Nat → Nat → β) (P : Nat → Bool) (out : Nat → β) (N : Nat) (hN : fs P N < N) (hx : ∀ n k, k < N → P k = true → f (n + 1) k = out k) (hs : ∀ n k, k < N → P k = false → f (n + 1) k = f n (k + 1)) : ∀ n, N < n → f n 0 = out (fs P N) := by
  have key : ∀ n k, k ≤ fs P N → N < n + k → f n k = out (fs P N) := by
    intro n
    induction n with
    | zero => intro k h1 h2; omega
    | succ n ih =>
      intro k h1 h2
      by_cases hk : k = fs P N
      · subst hk
        exact hx n _ hN (fs_yes P N hN)
      · rw [hs n k (by omega) (fs_no P N k (by omega))]
        exact ih (k + 1) (by omega) (by omega)
  intro n hn
  exact key n 0 (by omega) (by omega)
def lo (m : Nat) : Nat := fs (fun p => m.testBit p) 8
def gr (m : Nat) : Nat := 7 - fs (fun p => m.testBit (7 - p)) 8
theorem bit_ex {m : Nat} (hm : m < 256) (h0 : m ≠ 0) : ∃ i, i < 8 ∧ m.testBit i = true := by
  rcases Classical.em (∃ i, i < 8 ∧ m.testBit i = true) with h | h
  · exact h
  · refine absurd (Nat.eq_of_testBit_eq fun i => ?_) h0
    rw [Nat.zero_testBit]
    by_cases hi : i < 8
    · cases hb : m.testBit i with
      | false => rfl
      | true => exact absurd ⟨i, hi, hb⟩ h
    · refine Nat.testBit_lt_two_pow (Nat.lt_of_lt_of_le hm ?_)
      exact Nat.pow_le_pow_right (n := 2) (by decide) (show 8 ≤ i by omega)
theorem lo_lt {m : Nat} (hm : m < 256) (h0 : m ≠ 0) : lo m < 8 := by
  obtain ⟨i, h1, h2⟩ := bit_ex hm h0
  rcases Nat.lt_or_ge (lo m) 8 with h | h
  · exact h
  · have := fs_no (fun p => m.testBit p) 8 i (by unfold lo at h; omega)
    rw [h2] at this
    cases this
theorem gr_lt {m : Nat} (hm : m < 256) (h0 : m ≠ 0) : fs (fun p => m.testBit (7 - p)) 8 < 8 := by
  obtain ⟨i, h1, h2⟩ := bit_ex hm h0
  rcases Nat.lt_or_ge (fs (fun p => m.testBit (7 - p)) 8) 8 with h | h
  · exact h
  · have := fs_no (fun p => m.testBit (7 - p)) 8 (7 - i) (by omega)
    simp only [show 7 - (7 - i) = i by omega, h2] at this
    cases this
theorem c_leastOf {m : Nat} (hm : m < 2147483648) (s : mS) : fX7_leastOf (nI m) s = some (nO (lo m) 8, s) := by
  unfold fX7_leastOf lo
  refine loop_x (fun n k => fX7_leastOf_2 n (nI m) (nI k) s) (fun p => m.testBit p) (fun k => some (nO k 8, s)) 8 ?_ ?_ ?_ fu (by unfold fu; omega)
  · intro n k hk hx
    have hk' : ¬ 8 ≤ k := by omega
    show fX7_leastOf_2 (n + 1) _ _ s = _
    rw [qX7_leastOf_2]
    simp (disch := omega) only [li_0, li_1, li_2, li_3, li_4, li_5, li_6, li_7, li_8, li_9, li_10, li_11, li_12, li_13, li_14, li_15, li_16, li_17, li_20, li_24, li_25, li_29, li_31, li_32, li_33, li_37, li_40, li_41, li_48, li_49, li_50, li_56, li_57, li_59, li_60, li_61, li_62, li_63, li_70, li_73, li_85, li_97, li_98, li_99, li_100, li_101, li_102, li_103, li_104, li_105, li_107, li_108, li_109, li_110, li_111, li_112, li_114, li_115, li_116, li_117, li_118, li_119, li_121, li_122, li_140, li_193, li_200, li_240, li_255, li_289, li_290, li_300, li_302, li_314, li_326, li_860, li_880, li_900, li_999, li_1024, li_2801, li_3440, li_3441, li_3442, li_3443, li_3444, li_3447, li_3448, li_3449, li_3457, li_3465, li_3469, li_3473, li_3477, li_3501, li_3513, li_3525, li_3537, li_3633, li_3730, li_3742, li_3754, li_3766, li_4095, li_4096, li_4300, li_9011, li_9999, li_10000, li_36864, li_65536, li_1000000, ll_0, ll_1, ll_100, ll_11, ll_16, ll_20, ll_3, ll_32, ll_50, ll_8, ll_96, ll_99, ll_9999, ne_m1, e_if, e_ret, e_rz0, e_rz1, e_rzb, e_call, bCallX_eq, nI_add, nI_mul, nI_succ1, le_i, lt_i, eq_i, m1_i, m1_le, m1_lt, m1_ge, m1_eq, ite_true, ite_false, if_true, if_false, hk', bit_i, bt1, hx]
    rw [nO, if_pos hk]
  · intro n k hk hx
    have hk' : ¬ 8 ≤ k := by omega
    show fX7_leastOf_2 (n + 1) _ _ s = _
    rw [qX7_leastOf_2]
    simp (disch := omega) only [li_0, li_1, li_2, li_3, li_4, li_5, li_6, li_7, li_8, li_9, li_10, li_11, li_12, li_13, li_14, li_15, li_16, li_17, li_20, li_24, li_25, li_29, li_31, li_32, li_33, li_37, li_40, li_41, li_48, li_49, li_50, li_56, li_57, li_59, li_60, li_61, li_62, li_63, li_70, li_73, li_85, li_97, li_98, li_99, li_100, li_101, li_102, li_103, li_104, li_105, li_107, li_108, li_109, li_110, li_111, li_112, li_114, li_115, li_116, li_117, li_118, li_119, li_121, li_122, li_140, li_193, li_200, li_240, li_255, li_289, li_290, li_300, li_302, li_314, li_326, li_860, li_880, li_900, li_999, li_1024, li_2801, li_3440, li_3441, li_3442, li_3443, li_3444, li_3447, li_3448, li_3449, li_3457, li_3465, li_3469, li_3473, li_3477, li_3501, li_3513, li_3525, li_3537, li_3633, li_3730, li_3742, li_3754, li_3766, li_4095, li_4096, li_4300, li_9011, li_9999, li_10000, li_36864, li_65536, li_1000000, ll_0, ll_1, ll_100, ll_11, ll_16, ll_20, ll_3, ll_32, ll_50, ll_8, ll_96, ll_99, ll_9999, ne_m1, e_if, e_ret, e_rz0, e_rz1, e_rzb, e_call, bCallX_eq, nI_add, nI_mul, nI_succ1, le_i, lt_i, eq_i, m1_i, m1_le, m1_lt, m1_ge, m1_eq, ite_true, ite_false, if_true, if_false, hk', bit_i, bt1, hx, Bool.false_eq_true]
  · intro n
    show fX7_leastOf_2 (n + 1) _ _ s = _
    rw [qX7_leastOf_2]
    simp (disch := omega) only [li_0, li_1, li_2, li_3, li_4, li_5, li_6, li_7, li_8, li_9, li_10, li_11, li_12, li_13, li_14, li_15, li_16, li_17, li_20, li_24, li_25, li_29, li_31, li_32, li_33, li_37, li_40, li_41, li_48, li_49, li_50, li_56, li_57, li_59, li_60, li_61, li_62, li_63, li_70, li_73, li_85, li_97, li_98, li_99, li_100, li_101, li_102, li_103, li_104, li_105, li_107, li_108, li_109, li_110, li_111, li_112, li_114, li_115, li_116, li_117, li_118, li_119, li_121, li_122, li_140, li_193, li_200, li_240, li_255, li_289, li_290, li_300, li_302, li_314, li_326, li_860, li_880, li_900, li_999, li_1024, li_2801, li_3440, li_3441, li_3442, li_3443, li_3444, li_3447, li_3448, li_3449, li_3457, li_3465, li_3469, li_3473, li_3477, li_3501, li_3513, li_3525, li_3537, li_3633, li_3730, li_3742, li_3754, li_3766, li_4095, li_4096, li_4300, li_9011, li_9999, li_10000, li_36864, li_65536, li_1000000, ll_0, ll_1, ll_100, ll_11, ll_16, ll_20, ll_3, ll_32, ll_50, ll_8, ll_96, ll_99, ll_9999, ne_m1, e_if, e_ret, e_rz0, e_rz1, e_rzb, e_call, bCallX_eq, nI_add, nI_mul, nI_succ1, le_i, lt_i, eq_i, m1_i, m1_le, m1_lt, m1_ge, m1_eq, ite_true, ite_false, if_true, if_false, Nat.le_refl]
    rfl
theorem x_leastOf {m : Nat} (hm : m < 256) (h0 : m ≠ 0) (s : mS) : fX9_leastOf 113 (nI m) s = some (nI (lo m), s) := by
  unfold fX9_leastOf
  refine loop_y (fun n k => fX9_leastOf_2 n (nI m) (nI k) s) (fun p => m.testBit p) (fun k => some (nI k, s)) 8 (lo_lt hm h0) ?_ ?_ fu (by unfold fu; omega)
  · intro n k hk hx
    show fX9_leastOf_2 (n + 1) _ _ s = _
    rw [qX9_leastOf_2]
    simp (disch := omega) only [li_0, li_1, li_2, li_3, li_4, li_5, li_6, li_7, li_8, li_9, li_10, li_11, li_12, li_13, li_14, li_15, li_16, li_17, li_20, li_24, li_25, li_29, li_31, li_32, li_33, li_37, li_40, li_41, li_48, li_49, li_50, li_56, li_57, li_59, li_60, li_61, li_62, li_63, li_70, li_73, li_85, li_97, li_98, li_99, li_100, li_101, li_102, li_103, li_104, li_105, li_107, li_108, li_109, li_110, li_111, li_112, li_114, li_115, li_116, li_117, li_118, li_119, li_121, li_122, li_140, li_193, li_200, li_240, li_255, li_289, li_290, li_300, li_302, li_314, li_326, li_860, li_880, li_900, li_999, li_1024, li_2801, li_3440, li_3441, li_3442, li_3443, li_3444, li_3447, li_3448, li_3449, li_3457, li_3465, li_3469, li_3473, li_3477, li_3501, li_3513, li_3525, li_3537, li_3633, li_3730, li_3742, li_3754, li_3766, li_4095, li_4096, li_4300, li_9011, li_9999, li_10000, li_36864, li_65536, li_1000000, ll_0, ll_1, ll_100, ll_11, ll_16, ll_20, ll_3, ll_32, ll_50, ll_8, ll_96, ll_99, ll_9999, ne_m1, e_if, e_ret, e_rz0, e_rz1, e_rzb, e_call, bCallX_eq, nI_add, nI_mul, nI_succ1, le_i, lt_i, eq_i, m1_i, m1_le, m1_lt, m1_ge, m1_eq, ite_true, ite_false, if_true, if_false, bit_i, bt0, hx, Bool.true_eq_false]
  · intro n k hk hx
    show fX9_leastOf_2 (n + 1) _ _ s = _
    rw [qX9_leastOf_2]
    simp (disch := omega) only [li_0, li_1, li_2, li_3, li_4, li_5, li_6, li_7, li_8, li_9, li_10, li_11, li_12, li_13, li_14, li_15, li_16, li_17, li_20, li_24, li_25, li_29, li_31, li_32, li_33, li_37, li_40, li_41, li_48, li_49, li_50, li_56, li_57, li_59, li_60, li_61, li_62, li_63, li_70, li_73, li_85, li_97, li_98, li_99, li_100, li_101, li_102, li_103, li_104, li_105, li_107, li_108, li_109, li_110, li_111, li_112, li_114, li_115, li_116, li_117, li_118, li_119, li_121, li_122, li_140, li_193, li_200, li_240, li_255, li_289, li_290, li_300, li_302, li_314, li_326, li_860, li_880, li_900, li_999, li_1024, li_2801, li_3440, li_3441, li_3442, li_3443, li_3444, li_3447, li_3448, li_3449, li_3457, li_3465, li_3469, li_3473, li_3477, li_3501, li_3513, li_3525, li_3537, li_3633, li_3730, li_3742, li_3754, li_3766, li_4095, li_4096, li_4300, li_9011, li_9999, li_10000, li_36864, li_65536, li_1000000, ll_0, ll_1, ll_100, ll_11, ll_16, ll_20, ll_3, ll_32, ll_50, ll_8, ll_96, ll_99, ll_9999, ne_m1, e_if, e_ret, e_rz0, e_rz1, e_rzb, e_call, bCallX_eq, nI_add, nI_mul, nI_succ1, le_i, lt_i, eq_i, m1_i, m1_le, m1_lt, m1_ge, m1_eq, ite_true, ite_false, if_true, if_false, bit_i, bt0, hx]
/-- 7, 6 .. 0, -1 -/
def dn (k : Nat) : Int32 := if k < 8 then nI (7 - k) else mI
theorem dn_m {k : Nat} (h : k < 8) : nI (7 - k) + mI = dn (k + 1) := by
  unfold dn
  by_cases h2 : k + 1 < 8
  · rw [if_pos h2, add_m1 (by omega)]; congr 1
  · rw [if_neg h2, show k = 7 by omega]; decide
theorem c_greatestOf {m : Nat} (hm : m < 256) (h0 : m ≠ 0) (s : mS) : fX7_greatestOf (nI m) s = some (nI (gr m), s) := by
  unfold fX7_greatestOf
  refine loop_y (fun n k => fX7_greatestOf_3 n (nI m) (dn k) s) (fun p => m.testBit (7 - p)) (fun k => some (nI (7 - k), s)) 8 (gr_lt hm h0) ?_ ?_ fu (by unfold fu; omega)
  · intro n k hk hx
    show fX7_greatestOf_3 (n + 1) _ _ s = _
    rw [qX7_greatestOf_3]
    rw [dn, if_pos hk]
    simp (disch := omega) only [li_0, li_1, li_2, li_3, li_4, li_5, li_6, li_7, li_8, li_9, li_10, li_11, li_12, li_13, li_14, li_15, li_16, li_17, li_20, li_24, li_25, li_29, li_31, li_32, li_33, li_37, li_40, li_41, li_48, li_49, li_50, li_56, li_57, li_59, li_60, li_61, li_62, li_63, li_70, li_73, li_85, li_97, li_98, li_99, li_100, li_101, li_102, li_103, li_104, li_105, li_107, li_108, li_109, li_110, li_111, li_112, li_114, li_115, li_116, li_117, li_118, li_119, li_121, li_122, li_140, li_193, li_200, li_240, li_255, li_289, li_290, li_300, li_302, li_314, li_326, li_860, li_880, li_900, li_999, li_1024, li_2801, li_3440, li_3441, li_3442, li_3443, li_3444, li_3447, li_3448, li_3449, li_3457, li_3465, li_3469, li_3473, li_3477, li_3501, li_3513, li_3525, li_3537, li_3633, li_3730, li_3742, li_3754, li_3766, li_4095, li_4096, li_4300, li_9011, li_9999, li_10000, li_36864, li_65536, li_1000000, ll_0, ll_1, ll_100, ll_11, ll_16, ll_20, ll_3, ll_32, ll_50, ll_8, ll_96, ll_99, ll_9999, ne_m1, e_if, e_ret, e_rz0, e_rz1, e_rzb, e_call, bCallX_eq, nI_add, nI_mul, nI_succ1, le_i, lt_i, eq_i, m1_i, m1_le, m1_lt, m1_ge, m1_eq, ite_true, ite_false, if_true, if_false, Nat.not_lt_zero, bit_i, bt1, hx]
  · intro n k hk hx
    show fX7_greatestOf_3 (n + 1) _ _ s = _
    rw [qX7_greatestOf_3]
    rw [dn, if_pos hk]
    simp (disch := omega) only [li_0, li_1, li_2, li_3, li_4, li_5, li_6, li_7, li_8, li_9, li_10, li_11, li_12, li_13, li_14, li_15, li_16, li_17, li_20, li_24, li_25, li_29, li_31, li_32, li_33, li_37, li_40, li_41, li_48, li_49, li_50, li_56, li_57, li_59, li_60, li_61, li_62, li_63, li_70, li_73, li_85, li_97, li_98, li_99, li_100, li_101, li_102, li_103, li_104, li_105, li_107, li_108, li_109, li_110, li_111, li_112, li_114, li_115, li_116, li_117, li_118, li_119, li_121, li_122, li_140, li_193, li_200, li_240, li_255, li_289, li_290, li_300, li_302, li_314, li_326, li_860, li_880, li_900, li_999, li_1024, li_2801, li_3440, li_3441, li_3442, li_3443, li_3444, li_3447, li_3448, li_3449, li_3457, li_3465, li_3469, li_3473, li_3477, li_3501, li_3513, li_3525, li_3537, li_3633, li_3730, li_3742, li_3754, li_3766, li_4095, li_4096, li_4300, li_9011, li_9999, li_10000, li_36864, li_65536, li_1000000, ll_0, ll_1, ll_100, ll_11, ll_16, ll_20, ll_3, ll_32, ll_50, ll_8, ll_96, ll_99, ll_9999, ne_m1, e_if, e_ret, e_rz0, e_rz1, e_rzb, e_call, bCallX_eq, nI_add, nI_mul, nI_succ1, le_i, lt_i, eq_i, m1_i, m1_le, m1_lt, m1_ge, m1_eq, ite_true, ite_false, if_true, if_false, Nat.not_lt_zero, bit_i, bt1, hx, Bool.false_eq_true, dn_m hk]
theorem x_greatestOf {m : Nat} (hm : m < 256) (h0 : m ≠ 0) (s : mS) : fX9_greatestOf 113 (nI m) s = some (nI (gr m), s) := by
  unfold fX9_greatestOf
  refine loop_y (fun n k => fX9_greatestOf_3 n (nI m) (dn k) s) (fun p => m.testBit (7 - p)) (fun k => some (nI (7 - k), s)) 8 (gr_lt hm h0) ?_ ?_ fu (by unfold fu; omega)
  · intro n k hk hx
    show fX9_greatestOf_3 (n + 1) _ _ s = _
    rw [qX9_greatestOf_3]
    rw [dn, if_pos hk]
    simp (disch := omega) only [li_0, li_1, li_2, li_3, li_4, li_5, li_6, li_7, li_8, li_9, li_10, li_11, li_12, li_13, li_14, li_15, li_16, li_17, li_20, li_24, li_25, li_29, li_31, li_32, li_33, li_37, li_40, li_41, li_48, li_49, li_50, li_56, li_57, li_59, li_60, li_61, li_62, li_63, li_70, li_73, li_85, li_97, li_98, li_99, li_100, li_101, li_102, li_103, li_104, li_105, li_107, li_108, li_109, li_110, li_111, li_112, li_114, li_115, li_116, li_117, li_118, li_119, li_121, li_122, li_140, li_193, li_200, li_240, li_255, li_289, li_290, li_300, li_302, li_314, li_326, li_860, li_880, li_900, li_999, li_1024, li_2801, li_3440, li_3441, li_3442, li_3443, li_3444, li_3447, li_3448, li_3449, li_3457, li_3465, li_3469, li_3473, li_3477, li_3501, li_3513, li_3525, li_3537, li_3633, li_3730, li_3742, li_3754, li_3766, li_4095, li_4096, li_4300, li_9011, li_9999, li_10000, li_36864, li_65536, li_1000000, ll_0, ll_1, ll_100, ll_11, ll_16, ll_20, ll_3, ll_32, ll_50, ll_8, ll_96, ll_99, ll_9999, ne_m1, e_if, e_ret, e_rz0, e_rz1, e_rzb, e_call, bCallX_eq, nI_add, nI_mul, nI_succ1, le_i, lt_i, eq_i, m1_i, m1_le, m1_lt, m1_ge, m1_eq, ite_true, ite_false, if_true, if_false, bit_i, bt0, hx, Bool.true_eq_false]
  · intro n k hk hx
    show fX9_greatestOf_3 (n + 1) _ _ s = _
    rw [qX9_greatestOf_3]
    rw [dn, if_pos hk]
    simp (disch := omega) only [li_0, li_1, li_2, li_3, li_4, li_5, li_6, li_7, li_8, li_9, li_10, li_11, li_12, li_13, li_14, li_15, li_16, li_17, li_20, li_24, li_25, li_29, li_31, li_32, li_33, li_37, li_40, li_41, li_48, li_49, li_50, li_56, li_57, li_59, li_60, li_61, li_62, li_63, li_70, li_73, li_85, li_97, li_98, li_99, li_100, li_101, li_102, li_103, li_104, li_105, li_107, li_108, li_109, li_110, li_111, li_112, li_114, li_115, li_116, li_117, li_118, li_119, li_121, li_122, li_140, li_193, li_200, li_240, li_255, li_289, li_290, li_300, li_302, li_314, li_326, li_860, li_880, li_900, li_999, li_1024, li_2801, li_3440, li_3441, li_3442, li_3443, li_3444, li_3447, li_3448, li_3449, li_3457, li_3465, li_3469, li_3473, li_3477, li_3501, li_3513, li_3525, li_3537, li_3633, li_3730, li_3742, li_3754, li_3766, li_4095, li_4096, li_4300, li_9011, li_9999, li_10000, li_36864, li_65536, li_1000000, ll_0, ll_1, ll_100, ll_11, ll_16, ll_20, ll_3, ll_32, ll_50, ll_8, ll_96, ll_99, ll_9999, ne_m1, e_if, e_ret, e_rz0, e_rz1, e_rzb, e_call, bCallX_eq, nI_add, nI_mul, nI_succ1, le_i, lt_i, eq_i, m1_i, m1_le, m1_lt, m1_ge, m1_eq, ite_true, ite_false, if_true, if_false, bit_i, bt0, hx, dn_m hk]

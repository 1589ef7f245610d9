/-! POURED FROM TRAY TO TRAY: the reference's loop -/
/-- how the numbers lie once they are poured -/
def Poured (s t : mS) (p q m : Nat) : Prop := FL 116 s t ∧ (∀ o, o < m → sL t 116 (q + o) = sL s 116 (p + o)) ∧ ∀ i, ¬ (q ≤ i ∧ i < q + m) → sL t 116 i = sL s 116 i
theorem l_pour0 {s : mS} {a i b j m : Nat} (hH : sH s 116 = (12, 240)) (hT : (sH s 113).1 = 9) (h6 : sP s 113 6 = 116) (ha : a < 4) (hb : b < 4) (hi : i + m ≤ 60) (hj : j + m ≤ 60) (hd : a ≠ b ∨ j ≤ i) : ∃ t, fX9_pour_158 fu 113 (nI a) (nI i) (nI b) (nI j) (nI m) (nI 0) (nI 0) s = some (nI 1, t) ∧ Poured s t (60 * a + i) (60 * b + j) m := by
  have key := loop_s (fun n k => fX9_pour_158 n 113 (nI a) (nI i) (nI b) (nI j) (nI m) (nI 0) (nI k)) (fun k v => FL 116 s v ∧ (∀ o, o < k → sL v 116 (60 * b + j + o) = sL s 116 (60 * a + i + o)) ∧ ∀ x, ¬ (60 * b + j ≤ x ∧ x < 60 * b + j + k) → sL v 116 x = sL s 116 x) m (fun q => q.1 = nI 1 ∧ Poured s q.2 (60 * a + i) (60 * b + j) m) ?_ ?_ fu 0 s (by omega) (by unfold fu; omega) ⟨FL.rf, fun o ho => absurd ho (by omega), fun _ _ => rfl⟩
  · obtain ⟨⟨x, t⟩, e1, e2, e3⟩ := key
    have e2 : x = nI 1 := e2
    subst e2
    exact ⟨t, e1, e3⟩
  · rintro n k v hk ⟨hF, hv, hv2⟩
    have hHv : sH v 116 = (12, 240) := by rw [hF.2.2.1]; exact hH
    have hTv : (sH v 113).1 = 9 := by rw [hF.2.2.1]; exact hT
    have h6v : sP v 113 6 = 116 := by rw [hF.2.1]; exact h6
    refine ⟨wL v 116 (60 * b + j + k) (sL v 116 (60 * a + i + k)), ⟨hF.tr FL.w, fun o ho => ?_, fun x hx => ?_⟩, ?_⟩
    · by_cases hok : o = k
      · rw [hok, sL_eq]; exact hv2 _ (by omega)
      · rw [sL_ne (Or.inr (by omega))]; exact hv o (by omega)
    · rw [sL_ne (Or.inr (by omega))]; exact hv2 x (by omega)
    · show fX9_pour_158 (n + 1) 113 _ _ _ _ _ _ _ v = _
      rw [qX9_pour_158]
      unfold fX9_pour_182
      simp (disch := omega) only [li_0, li_1, li_2, li_3, li_4, li_5, li_6, li_7, li_8, li_9, li_10, li_11, li_12, li_13, li_14, li_15, li_16, li_17, li_20, li_24, li_25, li_29, li_31, li_32, li_33, li_37, li_40, li_41, li_48, li_49, li_50, li_56, li_57, li_59, li_60, li_61, li_62, li_63, li_70, li_73, li_85, li_97, li_98, li_99, li_100, li_101, li_102, li_103, li_104, li_105, li_107, li_108, li_109, li_110, li_111, li_112, li_114, li_115, li_116, li_117, li_118, li_119, li_121, li_122, li_140, li_193, li_200, li_240, li_255, li_289, li_290, li_300, li_302, li_314, li_326, li_860, li_880, li_900, li_999, li_1024, li_2801, li_3440, li_3441, li_3442, li_3443, li_3444, li_3447, li_3448, li_3449, li_3457, li_3465, li_3469, li_3473, li_3477, li_3501, li_3513, li_3525, li_3537, li_3633, li_3730, li_3742, li_3754, li_3766, li_4095, li_4096, li_4300, li_9011, li_9999, li_10000, li_36864, li_65536, li_1000000, ll_0, ll_1, ll_100, ll_11, ll_16, ll_20, ll_3, ll_32, ll_50, ll_8, ll_96, ll_99, ll_9999, ne_m1, e_if, e_ret, e_rz0, e_rz1, e_rzb, e_call, bCallX_eq, nI_add, nI_mul, nI_succ1, le_i, lt_i, eq_i, m1_i, m1_le, m1_lt, m1_ge, m1_eq, ite_true, ite_false, if_true, if_false, show ¬ m ≤ k by omega, xGR hTv h6v, xAL hHv (show 60 * a + i + k < 240 by omega) (show 240 < 2147483648 by decide), xSL hHv (show 60 * b + j + k < 240 by omega) (show 240 < 2147483648 by decide)]
  · rintro n v ⟨hF, hv, hv2⟩
    refine ⟨(nI 1, v), ?_, rfl, hF, hv, hv2⟩
    show fX9_pour_158 (n + 1) 113 _ _ _ _ _ _ _ v = _
    rw [qX9_pour_158, e_if, if_pos (by rw [le_i (by omega) (by omega)]; omega)]
    rfl
theorem l_pour1 {s : mS} {a i b j m : Nat} (hH : sH s 116 = (12, 240)) (hT : (sH s 113).1 = 9) (h6 : sP s 113 6 = 116) (ha : a < 4) (hb : b < 4) (hi : i + m ≤ 60) (hj : j + m ≤ 60) (hd : a ≠ b ∨ i ≤ j) : ∃ t, fX9_pour_158 fu 113 (nI a) (nI i) (nI b) (nI j) (nI m) (nI 1) (nI 0) s = some (nI 1, t) ∧ Poured s t (60 * a + i) (60 * b + j) m := by
  have key := loop_s (fun n k => fX9_pour_158 n 113 (nI a) (nI i) (nI b) (nI j) (nI m) (nI 1) (nI k)) (fun k v => FL 116 s v ∧ (∀ o, m ≤ o + k → o < m → sL v 116 (60 * b + j + o) = sL s 116 (60 * a + i + o)) ∧ ∀ x, ¬ (60 * b + j + m ≤ x + k ∧ x < 60 * b + j + m) → sL v 116 x = sL s 116 x) m (fun q => q.1 = nI 1 ∧ Poured s q.2 (60 * a + i) (60 * b + j) m) ?_ ?_ fu 0 s (by omega) (by unfold fu; omega) ⟨FL.rf, fun o ho h2 => absurd ho (by omega), fun _ _ => rfl⟩
  · obtain ⟨⟨x, t⟩, e1, e2, e3⟩ := key
    have e2 : x = nI 1 := e2
    subst e2
    exact ⟨t, e1, e3⟩
  · rintro n k v hk ⟨hF, hv, hv2⟩
    have hHv : sH v 116 = (12, 240) := by rw [hF.2.2.1]; exact hH
    have hTv : (sH v 113).1 = 9 := by rw [hF.2.2.1]; exact hT
    have h6v : sP v 113 6 = 116 := by rw [hF.2.1]; exact h6
    refine ⟨wL v 116 (60 * b + j + (m - 1 - k)) (sL v 116 (60 * a + i + (m - 1 - k))), ⟨hF.tr FL.w, fun o ho ho2 => ?_, fun x hx => ?_⟩, ?_⟩
    · by_cases hok : o = m - 1 - k
      · rw [hok, sL_eq]; exact hv2 _ (by omega)
      · rw [sL_ne (Or.inr (by omega))]; exact hv o (by omega) ho2
    · rw [sL_ne (Or.inr (by omega))]; exact hv2 x (by omega)
    · show fX9_pour_158 (n + 1) 113 _ _ _ _ _ _ _ v = _
      rw [qX9_pour_158]
      unfold fX9_pour_182
      simp (disch := omega) only [li_0, li_1, li_2, li_3, li_4, li_5, li_6, li_7, li_8, li_9, li_10, li_11, li_12, li_13, li_14, li_15, li_16, li_17, li_20, li_24, li_25, li_29, li_31, li_32, li_33, li_37, li_40, li_41, li_48, li_49, li_50, li_56, li_57, li_59, li_60, li_61, li_62, li_63, li_70, li_73, li_85, li_97, li_98, li_99, li_100, li_101, li_102, li_103, li_104, li_105, li_107, li_108, li_109, li_110, li_111, li_112, li_114, li_115, li_116, li_117, li_118, li_119, li_121, li_122, li_140, li_193, li_200, li_240, li_255, li_289, li_290, li_300, li_302, li_314, li_326, li_860, li_880, li_900, li_999, li_1024, li_2801, li_3440, li_3441, li_3442, li_3443, li_3444, li_3447, li_3448, li_3449, li_3457, li_3465, li_3469, li_3473, li_3477, li_3501, li_3513, li_3525, li_3537, li_3633, li_3730, li_3742, li_3754, li_3766, li_4095, li_4096, li_4300, li_9011, li_9999, li_10000, li_36864, li_65536, li_1000000, ll_0, ll_1, ll_100, ll_11, ll_16, ll_20, ll_3, ll_32, ll_50, ll_8, ll_96, ll_99, ll_9999, ne_m1, e_if, e_ret, e_rz0, e_rz1, e_rzb, e_call, bCallX_eq, nI_add, nI_mul, nI_succ1, le_i, lt_i, eq_i, m1_i, m1_le, m1_lt, m1_ge, m1_eq, ite_true, ite_false, if_true, if_false, n10, sub_i, show ¬ m ≤ k by omega, xGR hTv h6v, xAL hHv (show 60 * a + i + (m - 1 - k) < 240 by omega) (show 240 < 2147483648 by decide), xSL hHv (show 60 * b + j + (m - 1 - k) < 240 by omega) (show 240 < 2147483648 by decide)]
  · rintro n v ⟨hF, hv, hv2⟩
    refine ⟨(nI 1, v), ?_, rfl, hF, fun o ho => hv o (by omega) ho, fun x hx => hv2 x (by omega)⟩
    show fX9_pour_158 (n + 1) 113 _ _ _ _ _ _ _ v = _
    rw [qX9_pour_158, e_if, if_pos (by rw [le_i (by omega) (by omega)]; omega)]
    rfl
/-- the class's copy -/
theorem x_cpL {s : mS} {a0 a i j m : Nat} {α : Type} {k : mM α} (h1 : sH s a0 = (12, 60)) (h2 : sH s a = (12, 60)) (hi : i + m ≤ 60) (hj : j + m ≤ 60) : bCpL a0 (nI i) a (nI j) (nI m) k s = k (cpL s a0 i a j m) := by
  unfold bCpL
  rw [if_pos ?_, nI_clamp (by omega), nI_clamp (by omega), nI_clamp (by omega)]
  refine ⟨by rw [h1], by rw [h2], nI_pos (by omega), nI_pos (by omega), nI_pos (by omega), ?_, ?_⟩
  · rw [nI_clamp (by omega), nI_clamp (by omega), h1]; exact hi
  · rw [nI_clamp (by omega), nI_clamp (by omega), h2]; exact hj
theorem FL.cp {s : mS} {a0 i a j m : Nat} : FL a s (cpL s a0 i a j m) := ⟨rfl, rfl, rfl, rfl, rfl, fun b hb => by
  funext x
  show (if _ then _ else _) = _
  rw [if_neg (fun e => hb e.1)]⟩
theorem cpL_in {s : mS} {a0 i a j m o : Nat} (h : o < m) : sL (cpL s a0 i a j m) a (j + o) = sL s a0 (i + o) := by
  show (if a = a ∧ j ≤ j + o ∧ j + o < j + m then sL s a0 (i + (j + o - j)) else _) = _
  rw [if_pos ⟨rfl, by omega, by omega⟩, show i + (j + o - j) = i + o by omega]
theorem cpL_out {s : mS} {a0 i a j m x : Nat} (h : ¬ (j ≤ x ∧ x < j + m)) : sL (cpL s a0 i a j m) a x = sL s a x := by
  show (if a = a ∧ j ≤ x ∧ x < j + m then _ else _) = _
  rw [if_neg (fun e => h e.2)]

/-! TRAYS ARE LAID, WRITTEN, READ -/
theorem sL_ne {s : mS} {a j : Nat} {x : Int64} {b i : Nat} (h : b ≠ a ∨ i ≠ j) : sL (wL s a j x) b i = sL s b i := by
  rw [sL_wL, if_neg (by omega)]
theorem sL_eq {s : mS} {a j : Nat} {x : Int64} : sL (wL s a j x) a j = x := by
  rw [sL_wL, if_pos ⟨rfl, rfl⟩]
/-- longs of a cell alone were written -/
def FL (a : Nat) (s t : mS) : Prop := sI t = sI s ∧ sP t = sP s ∧ sH t = sH s ∧ sZ t = sZ s ∧ sW t = sW s ∧ ∀ b, b ≠ a → sL t b = sL s b
theorem FL.rf {a : Nat} {s : mS} : FL a s s := ⟨rfl, rfl, rfl, rfl, rfl, fun _ _ => rfl⟩
theorem FL.w {a j : Nat} {s : mS} {x : Int64} : FL a s (wL s a j x) := ⟨rfl, rfl, rfl, rfl, rfl, fun b hb => by funext i; exact sL_ne (Or.inl hb)⟩
theorem FL.tr {a : Nat} {s t u : mS} (h1 : FL a s t) (h2 : FL a t u) : FL a s u := by
  obtain ⟨a1, a2, a3, a4, a5, a6⟩ := h1
  obtain ⟨b1, b2, b3, b4, b5, b6⟩ := h2
  exact ⟨b1.trans a1, b2.trans a2, b3.trans a3, b4.trans a4, b5.trans a5, fun b hb => (b6 b hb).trans (a6 b hb)⟩
theorem FL.fr {a : Nat} {s t : mS} {A : Nat → Prop} (h : FL a s t) (ha : A a) : FR A s t := ⟨fun b hb => ⟨by rw [h.1], h.2.2.2.2.2 b (fun e => hb (e ▸ ha)), by rw [h.2.1]⟩, h.2.2.1, h.2.2.2.1, h.2.2.2.2.1⟩
theorem l_fill {s : mS} {a n : Nat} (hH : sH s a = (12, n)) (hn : n ≤ 60) : ∃ t, fJ7_fill_d0a16 a (0 : Int64) s = some ((), t) ∧ FL a s t ∧ ∀ i, i < n → sL t a i = 0 := by
  unfold fJ7_fill_d0a16
  rw [xLen hH]
  have key := loop_s (fun m k => fJ7_fill_d0a16_6 m a 0 (nI k) (nI n)) (fun k v => FL a s v ∧ ∀ i, i < k → sL v a i = 0) n (fun q => FL a s q.2 ∧ ∀ i, i < n → sL q.2 a i = 0) ?_ ?_ fu 0 s (by omega) (by unfold fu; omega) ⟨FL.rf, fun i hi => absurd hi (by omega)⟩
  · obtain ⟨⟨⟨⟩, t⟩, e1, e2, e3⟩ := key
    exact ⟨t, e1, e2, e3⟩
  · rintro m k v hk ⟨hF, hv⟩
    have hHv : sH v a = (12, n) := by rw [hF.2.2.1]; exact hH
    refine ⟨wL v a k 0, ⟨hF.tr FL.w, fun i hi => ?_⟩, ?_⟩
    · by_cases hik : i = k
      · rw [hik, sL_eq]
      · rw [sL_ne (Or.inr hik)]; exact hv i (by omega)
    · show fJ7_fill_d0a16_6 (m + 1) a _ _ _ v = _
      rw [qJ7_fill_d0a16_6, e_if, if_neg (by rw [le_i (by omega) (by omega)]; omega), xSL hHv hk (by omega), nI_succ1]
  · rintro m v ⟨hF, hv⟩
    refine ⟨((), v), ?_, hF, hv⟩
    show fJ7_fill_d0a16_6 (m + 1) a _ _ _ v = _
    rw [qJ7_fill_d0a16_6, e_if, if_pos (by rw [le_i (by omega) (by omega)]; omega)]
    rfl
theorem l_zero {s : mS} {k l : Nat} (hH : sH s 116 = (12, 240)) (hT : (sH s 113).1 = 9) (h6 : sP s 113 6 = 116) (hk : k < 4) (hl : l ≤ 60) : ∃ t, fX9_tray_74 fu 113 (nI k) (nI l) (nI 0) s = some (nI 1, t) ∧ FL 116 s t ∧ (∀ i, i < l → sL t 116 (60 * k + i) = 0) ∧ ∀ i, ¬ (60 * k ≤ i ∧ i < 60 * k + l) → sL t 116 i = sL s 116 i := by
  have key := loop_s (fun m j => fX9_tray_74 m 113 (nI k) (nI l) (nI j)) (fun j v => FL 116 s v ∧ (∀ i, i < j → sL v 116 (60 * k + i) = 0) ∧ ∀ i, ¬ (60 * k ≤ i ∧ i < 60 * k + j) → sL v 116 i = sL s 116 i) l (fun q => q.1 = nI 1 ∧ FL 116 s q.2 ∧ (∀ i, i < l → sL q.2 116 (60 * k + i) = 0) ∧ ∀ i, ¬ (60 * k ≤ i ∧ i < 60 * k + l) → sL q.2 116 i = sL s 116 i) ?_ ?_ fu 0 s (by omega) (by unfold fu; omega) ⟨FL.rf, fun i hi => absurd hi (by omega), fun _ _ => rfl⟩
  · obtain ⟨⟨x, t⟩, e1, e2, e3⟩ := key
    have e2 : x = nI 1 := e2
    subst e2
    exact ⟨t, e1, e3⟩
  · rintro m j v hj ⟨hF, hv, hv2⟩
    have hHv : sH v 116 = (12, 240) := by rw [hF.2.2.1]; exact hH
    have hTv : (sH v 113).1 = 9 := by rw [hF.2.2.1]; exact hT
    have h6v : sP v 113 6 = 116 := by rw [hF.2.1]; exact h6
    refine ⟨wL v 116 (60 * k + j) 0, ⟨hF.tr FL.w, fun i hi => ?_, fun i hi => ?_⟩, ?_⟩
    · by_cases hik : i = j
      · rw [hik, sL_eq]
      · rw [sL_ne (Or.inr (by omega))]; exact hv i (by omega)
    · rw [sL_ne (Or.inr (by omega))]; exact hv2 i (by omega)
    · show fX9_tray_74 (m + 1) 113 _ _ _ v = _
      rw [qX9_tray_74, e_if, if_neg (by rw [le_i (by omega) (by omega)]; omega), xGR hTv h6v]
      simp only [li_0, li_1, li_2, li_3, li_4, li_5, li_6, li_7, li_8, li_9, li_10, li_11, li_12, li_13, li_14, li_15, li_16, li_17, li_20, li_24, li_25, li_29, li_31, li_32, li_33, li_37, li_40, li_41, li_48, li_49, li_50, li_56, li_57, li_59, li_60, li_61, li_62, li_63, li_70, li_73, li_85, li_97, li_98, li_99, li_100, li_101, li_102, li_103, li_104, li_105, li_107, li_108, li_109, li_110, li_111, li_112, li_114, li_115, li_116, li_117, li_118, li_119, li_121, li_122, li_140, li_193, li_200, li_240, li_255, li_289, li_290, li_300, li_302, li_314, li_326, li_860, li_880, li_900, li_999, li_1024, li_2801, li_3440, li_3441, li_3442, li_3443, li_3444, li_3447, li_3448, li_3449, li_3457, li_3465, li_3469, li_3473, li_3477, li_3501, li_3513, li_3525, li_3537, li_3633, li_3730, li_3742, li_3754, li_3766, li_4095, li_4096, li_4300, li_9011, li_9999, li_10000, li_36864, li_65536, li_1000000, ll_0, ll_1, ll_100, ll_11, ll_16, ll_20, ll_3, ll_32, ll_50, ll_8, ll_96, ll_99, ll_9999, ne_m1, e_if, e_ret, e_rz0, e_rz1, e_rzb, e_call, bCallX_eq, nI_add, nI_mul, nI_succ1, le_i, lt_i, eq_i, m1_i, m1_le, m1_lt, m1_ge, m1_eq, ite_true, ite_false, if_true, if_false]
      rw [xSL hHv (by omega) (by decide)]
  · rintro m v ⟨hF, hv, hv2⟩
    refine ⟨(nI 1, v), ?_, rfl, hF, hv, hv2⟩
    show fX9_tray_74 (m + 1) 113 _ _ _ v = _
    rw [qX9_tray_74, e_if, if_pos (by rw [le_i (by omega) (by omega)]; omega)]
    rfl

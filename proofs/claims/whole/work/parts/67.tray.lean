/-! TRAYS ARE LAID, WRITTEN, READ -/
theorem sL_ne {s : mS} {a j : Nat} {x : Int64} {b i : Nat} (h : b ≠ a ∨ i ≠ j) : sL (wL s a j x) b i = sL s b i := by
  rw [sL_wL, if_neg (by omega)]
theorem sL_eq {s : mS} {a j : Nat} {x : Int64} : sL (wL s a j x) a j = x := by
  rw [sL_wL, if_pos ⟨rfl, rfl⟩]
/-- longs of a cell alone were written -/
def FL (a : Nat) (s t : mS) : Prop := sI t = sI s ∧ sP t = sP s ∧ sH t = sH s ∧ sZ t = sZ s ∧ sW t = sW s ∧ ∀ b, b ≠ a → sL t b = sL s b
theorem FL.rf {a : Nat} {s : mS} : FL a s s := ⟨rfl, rfl, rfl, rfl, rfl, fun _ _ => rfl⟩
theorem FL.w {a j : Nat} {s : mS} {x : Int64} : FL a s (wL s a j x) := ⟨rfl, rfl, rfl, rfl, rfl, fun b hb => by funext i; exact sL_ne (Or.inl hb)⟩
theorem FL.tr {a : Nat} {s t u : mS} (h1 : FL a s t) (h2 : FL a t u) : FL a s u := by
  obtain ⟨a1, a2, a3, a4, a5, a6⟩ := h1
  obtain ⟨b1, b2, b3, b4, b5, b6⟩ := h2
  exact ⟨b1.trans a1, b2.trans a2, b3.trans a3, b4.trans a4, b5.trans a5, fun b hb => (b6 b hb).trans (a6 b hb)⟩
theorem FL.fr {a : Nat} {s t : mS} {A : Nat → Prop} (h : FL a s t) (ha : A a) : FR A s t := ⟨fun b hb => ⟨by rw [h.1], h.2.2.2.2.2 b (fun e => hb (e ▸ ha)), by rw [h.2.1]⟩, h.2.2.1, h.2.2.2.1, h.2.2.2.2.1⟩
theorem l_fill {s : mS} {a n : Nat} (hH : sH s a = (12, n)) (hn : n ≤ 60) : ∃ t, fJ7_fill_d0a16 a (0 : Int64) s = some ((), t) ∧ FL a s t ∧ ∀ i, i < n → sL t a i = 0 := by
  unfold fJ7_fill_d0a16
  rw [xLen hH]
  have key := loop_s (fun m k => fJ7_fill_d0a16_6 m a 0 (nI k) (nI n)) (fun k v => FL a s v ∧ ∀ i, i < k → sL v a i = 0) n (fun q => FL a s q.2 ∧ ∀ i, i < n → sL q.2 a i = 0) ?_ ?_ fu 0 s (by omega) (by unfold fu; omega) ⟨FL.rf, fun i hi => absurd hi (by omega)⟩
  · obtain ⟨⟨⟨⟩, t⟩, e1, e2, e3⟩ := key
    exact ⟨t, e1, e2, e3⟩
  · rintro m k v hk ⟨hF, hv⟩
    have hHv : sH v a = (12, n) := by rw [hF.2.2.1]; exact hH
    refine ⟨wL v a k 0, ⟨hF.tr FL.w, fun i hi => ?_⟩, ?_⟩
    · by_cases hik : i = k
      · rw [hik, sL_eq]
      · rw [sL_ne (Or.inr hik)]; exact hv i (by omega)
    · show fJ7_fill_d0a16_6 (m + 1) a _ _ _ v = _
      rw [qJ7_fill_d0a16_6, e_if, if_neg (by rw [le_i (by omega) (by omega)]; omega), xSL hHv hk (by omega), nI_succ1]
  · rintro m v ⟨hF, hv⟩
    refine ⟨((), v), ?_, hF, hv⟩
    show fJ7_fill_d0a16_6 (m + 1) a _ _ _ v = _
    rw [qJ7_fill_d0a16_6, e_if, if_pos (by rw [le_i (by omega) (by omega)]; omega)]
    rfl
theorem l_zero {s : mS} {k l : Nat} (hH : sH s 116 = (12, 240)) (hT : (sH s 113).1 = 9) (h6 : sP s 113 6 = 116) (hk : k < 4) (hl : l ≤ 60) : ∃ t, fX9_tray_74 fu 113 (nI k) (nI l) (nI 0) s = some (nI 1, t) ∧ FL 116 s t ∧ (∀ i, i < l → sL t 116 (60 * k + i) = 0) ∧ ∀ i, ¬ (60 * k ≤ i ∧ i < 60 * k + l) → sL t 116 i = sL s 116 i := by
  have key := loop_s (fun m j => fX9_tray_74 m 113 (nI k) (nI l) (nI j)) (fun j v => FL 116 s v ∧ (∀ i, i < j → sL v 116 (60 * k + i) = 0) ∧ ∀ i, ¬ (60 * k ≤ i ∧ i < 60 * k + j) → sL v 116 i = sL s 116 i) l (fun q => q.1 = nI 1 ∧ FL 116 s q.2 ∧ (∀ i, i < l → sL q.2 116 (60 * k + i) = 0) ∧ ∀ i, ¬ (60 * k ≤ i ∧ i < 60 * k + l) → sL q.2 116 i = sL s 116 i) ?_ ?_ fu 0 s (by omega) (by unfold fu; omega) ⟨FL.rf, fun i hi => absurd hi (by omega), fun _ _ => rfl⟩
  · obtain ⟨⟨x, t⟩, e1, e2, e3⟩ := key
    have e2 : x = nI 1 := e2
    subst e2
    exact ⟨t, e1, e3⟩
  · rintro m j v hj ⟨hF, hv, hv2⟩
    have hHv : sH v 116 = (12, 240) := by rw [hF.2.2.1]; exact hH
    have hTv : (sH v 113).1 = 9 := by rw [hF.2.2.1]; exact hT
    have h6v : sP v 113 6 = 116 := by rw [hF.2.1]; exact h6
    refine ⟨wL v 116 (60 * k + j) 0, ⟨hF.tr FL.w, fun i hi => ?_, fun i hi => ?_⟩, ?_⟩
    · by_cases hik : i = j
      · rw [hik, sL_eq]
      · rw [sL_ne (Or.inr (by omega))]; exact hv i (by omega)
    · rw [sL_ne (Or.inr (by omega))]; exact hv2 i (by omega)
    · show fX9_tray_74 (m + 1) 113 _ _ _ v = _
      rw [qX9_tray_74, e_if, if_neg (by rw [le_i (by omega) (by omega)]; omega), xGR hTv h6v]
      simp only [li_0, li_1, li_2, li_3, li_4, li_5, li_6, li_7, li_8, li_9, li_10, li_11, li_12, li_13, li_14, li_15, li_16, li_17, li_20, li_24, li_25, li_29, li_31, li_32, li_33, li_37, li_40, li_41, li_48, li_49, li_50, li_56, li_57, li_59, li_60, li_61, li_62, li_63, li_70, li_73, li_85, li_97, li_98, li_99, li_100, li_101, li_102, li_103, li_104, li_105, li_107, li_108, li_109, li_110, li_111, li_112, li_114, li_115, li_116, li_117, li_118, li_119, li_121, li_122, li_140, li_193, li_200, li_240, li_255, li_289, li_290, li_300, li_302, li_314, li_326, li_860, li_880, li_900, li_999, li_1024, li_2801, li_3440, li_3441, li_3442, li_3443, li_3444, li_3447, li_3448, li_3449, li_3457, li_3465, li_3469, li_3473, li_3477, li_3501, li_3513, li_3525, li_3537, li_3633, li_3730, li_3742, li_3754, li_3766, li_4095, li_4096, li_4300, li_9011, li_9999, li_10000, li_36864, li_65536, li_1000000, ll_0, ll_1, ll_100, ll_11, ll_16, ll_20, ll_3, ll_32, ll_50, ll_8, ll_96, ll_99, ll_9999, ne_m1, e_if, e_ret, e_rz0, e_rz1, e_rzb, e_call, bCallX_eq, nI_add, nI_mul, nI_succ1, le_i, lt_i, eq_i, m1_i, m1_le, m1_lt, m1_ge, m1_eq, ite_true, ite_false, if_true, if_false]
      rw [xSL hHv (by omega) (by decide)]
  · rintro m v ⟨hF, hv, hv2⟩
    refine ⟨(nI 1, v), ?_, rfl, hF, hv, hv2⟩
    show fX9_tray_74 (m + 1) 113 _ _ _ v = _
    rw [qX9_tray_74, e_if, if_pos (by rw [le_i (by omega) (by omega)]; omega)]
    rfl
theorem neg_le {x : Int32} {n : Nat} (h : x < 0) (hn : n < 2147483648) : (x ≤ nI n) = True := by
  apply eq_true
  rw [Int32.le_iff_toInt_le]
  have h1 := Int32.lt_iff_toInt_lt.mp h
  have e0 : (0 : Int32).toInt = 0 := by decide
  have e1 : (nI n).toInt = n := nI_toInt hn
  omega
theorem neg_ge {x : Int32} (h : x < 0) : (nI 0 ≤ x) = False := by
  apply eq_false
  rw [Int32.le_iff_toInt_le]
  have h1 := Int32.lt_iff_toInt_lt.mp h
  have e0 : (0 : Int32).toInt = 0 := by decide
  have e1 : (nI 0).toInt = 0 := by decide
  omega
abbrev dT : Type := Nat → Nat × Option Nat × (Nat → Int64)
def dTw (D : dD) (k : Nat) (T : dT) : dD := ((k, D.1.2), D.2.1, T, D.2.2.2)
theorem CT.up {s t : mS} {T : dT} {k so len : Nat} {L : Nat → Int64} (h : CT s T) (e : ∀ q, q < 4 → q ≠ k → sI t (98 + 2 * q) = sI s (98 + 2 * q) ∧ sL t (99 + 2 * q) = sL s (99 + 2 * q)) (e1 : sI t (98 + 2 * k) 1 = nI so) (e2 : sI t (98 + 2 * k) 2 = nI len) (e3 : ∀ j, j < len → sL t (99 + 2 * k) j = L j) : CT t (up T k (so, some len, L)) := by
  intro q hq
  by_cases hqk : q = k
  · rw [hqk, up_s]
    exact ⟨e1, e2, fun l hl j hj => by cases hl; exact e3 j hj⟩
  · rw [up_n _ _ hqk]
    obtain ⟨a1, a2⟩ := e q hq hqk
    rw [a1, a2]
    exact h q hq
theorem RTr.up {s t : mS} {T : dT} {k so len : Nat} {L : Nat → Int64} (h : RTr s T) (hok : ∀ q, ∀ l, (T q).2.1 = some l → l ≤ 60) (e : ∀ q, q < 4 → q ≠ k → sI t 114 q = sI s 114 q ∧ sI t 115 q = sI s 115 q ∧ ∀ j, j < 60 → sL t 116 (60 * q + j) = sL s 116 (60 * q + j)) (e1 : sI t 114 k = nI so) (e2 : sI t 115 k = nI len) (e3 : ∀ j, j < len → sL t 116 (60 * k + j) = L j) : RTr t (up T k (so, some len, L)) := by
  intro q hq
  by_cases hqk : q = k
  · rw [hqk, up_s]
    exact ⟨e1, e2, fun l hl j hj => by cases hl; exact e3 j hj⟩
  · rw [up_n _ _ hqk]
    obtain ⟨a1, a2, a3⟩ := e q hq hqk
    obtain ⟨b1, b2, b3⟩ := h q hq
    rw [a1, a2]
    refine ⟨b1, b2, fun l hl j hj => ?_⟩
    have := hok q l hl
    rw [a3 j (by omega)]
    exact b3 l hl j hj
theorem DOk.tw {D : dD} (h : DOk D) {k so len : Nat} {st : Nat} {L : Nat → Int64} (hst : st < 12) (h1 : so ≤ 3) (h2 : len ≤ 60) : DOk (dTw D st (up (dTr D) k (so, some len, L))) := by
  obtain ⟨a1, a2, a3, a4⟩ := h
  refine ⟨hst, a2, a3, fun q => ?_⟩
  show (up (dTr D) k (so, some len, L) q).1 ≤ 3 ∧ ∀ l, (up (dTr D) k (so, some len, L) q).2.1 = some l → l ≤ 60
  by_cases hqk : q = k
  · rw [hqk, up_s]
    exact ⟨h1, fun l hl => by cases hl; exact h2⟩
  · rw [up_n _ _ hqk]; exact a4 q
theorem s_tray (x y z : Int32) : Sim (fX8_tray 1 x y z) (fX9_tray 113 x y z) := by
  intro s t D hC hR hD
  have hS := hC.1
  have hT := hR.1.1
  have hT0 : RT (q0 t) := (hR.q0 hD).1.1
  have hD0 : DOk (dSt D 0) := dSt_ok hD (by decide)
  have hrd : ∀ (k : Nat), k < 12 → fX8_tray 1 x y z s = some (nI 0, wI s 1 11 (nI k)) → fX9_tray 113 x y z t = some (nI 0, wI (q0 t) 113 0 (nI k)) → ∃ (x' : Int32) (s' t' : mS) (D' : dD), fX8_tray 1 x y z s = some (x', s') ∧ fX9_tray 113 x y z t = some (x', t') ∧ CP s' D' ∧ RP t' D' ∧ DOk D' ∧ FC s s' ∧ FR rfA t t' := fun k hk h1 h2 => ⟨nI 0, _, _, dSt D k, h1, h2, hC.st hD k, (hR.q0 hD).st hD0 k, dSt_ok hD hk, fc1 _ _, (fr_q0 t).tr (fr113 0 _)⟩
  have hi : ∀ n : Nat, n < 2147483648 → fX8_isTray 1 (nI n) s = some (nI (decide (n < 4)).toNat, s) := fun n hn => by
    unfold fX8_isTray
    simp (disch := omega) only [li_0, li_1, li_2, li_3, li_4, li_5, li_6, li_7, li_8, li_9, li_10, li_11, li_12, li_13, li_14, li_15, li_16, li_17, li_20, li_24, li_25, li_29, li_31, li_32, li_33, li_37, li_40, li_41, li_48, li_49, li_50, li_56, li_57, li_59, li_60, li_61, li_62, li_63, li_70, li_73, li_85, li_97, li_98, li_99, li_100, li_101, li_102, li_103, li_104, li_105, li_107, li_108, li_109, li_110, li_111, li_112, li_114, li_115, li_116, li_117, li_118, li_119, li_121, li_122, li_140, li_193, li_200, li_240, li_255, li_289, li_290, li_300, li_302, li_314, li_326, li_860, li_880, li_900, li_999, li_1024, li_2801, li_3440, li_3441, li_3442, li_3443, li_3444, li_3447, li_3448, li_3449, li_3457, li_3465, li_3469, li_3473, li_3477, li_3501, li_3513, li_3525, li_3537, li_3633, li_3730, li_3742, li_3754, li_3766, li_4095, li_4096, li_4300, li_9011, li_9999, li_10000, li_36864, li_65536, li_1000000, ll_0, ll_1, ll_100, ll_11, ll_16, ll_20, ll_3, ll_32, ll_50, ll_8, ll_96, ll_99, ll_9999, ne_m1, e_if, e_ret, e_rz0, e_rz1, e_rzb, e_call, bCallX_eq, nI_add, nI_mul, nI_succ1, le_i, lt_i, eq_i, m1_i, m1_le, m1_lt, m1_ge, m1_eq, ite_true, ite_false, if_true, if_false, Nat.not_lt_zero]
    by_cases h4 : n < 4
    · rw [if_neg (by omega), decide_eq_true h4]; rfl
    · rw [if_pos (by omega), decide_eq_false h4]; rfl
  have hin : ∀ v : Int32, v < 0 → fX8_isTray 1 v s = some (nI 0, s) := fun v hv => by
    unfold fX8_isTray
    simp (disch := omega) only [li_0, li_1, li_2, li_3, li_4, li_5, li_6, li_7, li_8, li_9, li_10, li_11, li_12, li_13, li_14, li_15, li_16, li_17, li_20, li_24, li_25, li_29, li_31, li_32, li_33, li_37, li_40, li_41, li_48, li_49, li_50, li_56, li_57, li_59, li_60, li_61, li_62, li_63, li_70, li_73, li_85, li_97, li_98, li_99, li_100, li_101, li_102, li_103, li_104, li_105, li_107, li_108, li_109, li_110, li_111, li_112, li_114, li_115, li_116, li_117, li_118, li_119, li_121, li_122, li_140, li_193, li_200, li_240, li_255, li_289, li_290, li_300, li_302, li_314, li_326, li_860, li_880, li_900, li_999, li_1024, li_2801, li_3440, li_3441, li_3442, li_3443, li_3444, li_3447, li_3448, li_3449, li_3457, li_3465, li_3469, li_3473, li_3477, li_3501, li_3513, li_3525, li_3537, li_3633, li_3730, li_3742, li_3754, li_3766, li_4095, li_4096, li_4300, li_9011, li_9999, li_10000, li_36864, li_65536, li_1000000, ll_0, ll_1, ll_100, ll_11, ll_16, ll_20, ll_3, ll_32, ll_50, ll_8, ll_96, ll_99, ll_9999, ne_m1, e_if, e_ret, e_rz0, e_rz1, e_rzb, e_call, bCallX_eq, nI_add, nI_mul, nI_succ1, le_i, lt_i, eq_i, m1_i, m1_le, m1_lt, m1_ge, m1_eq, ite_true, ite_false, if_true, if_false, neg_lt hv]
  rcases arg x with hx | ⟨k, hk, rfl⟩
  · refine hrd 1 (by decide) ?_ ?_
    · unfold fX8_tray fX8_tray_17
      simp (disch := omega) only [k_now hS, k_cv hS, k_tell hS, k_none hS, k_refuse hS, k_accept hS, k_tellIf0 hS, k_tellIf1 hS, n10, li_0, li_1, li_2, li_3, li_4, li_5, li_6, li_7, li_8, li_9, li_10, li_11, li_12, li_13, li_14, li_15, li_16, li_17, li_20, li_24, li_25, li_29, li_31, li_32, li_33, li_37, li_40, li_41, li_48, li_49, li_50, li_56, li_57, li_59, li_60, li_61, li_62, li_63, li_70, li_73, li_85, li_97, li_98, li_99, li_100, li_101, li_102, li_103, li_104, li_105, li_107, li_108, li_109, li_110, li_111, li_112, li_114, li_115, li_116, li_117, li_118, li_119, li_121, li_122, li_140, li_193, li_200, li_240, li_255, li_289, li_290, li_300, li_302, li_314, li_326, li_860, li_880, li_900, li_999, li_1024, li_2801, li_3440, li_3441, li_3442, li_3443, li_3444, li_3447, li_3448, li_3449, li_3457, li_3465, li_3469, li_3473, li_3477, li_3501, li_3513, li_3525, li_3537, li_3633, li_3730, li_3742, li_3754, li_3766, li_4095, li_4096, li_4300, li_9011, li_9999, li_10000, li_36864, li_65536, li_1000000, ll_0, ll_1, ll_100, ll_11, ll_16, ll_20, ll_3, ll_32, ll_50, ll_8, ll_96, ll_99, ll_9999, ne_m1, e_if, e_ret, e_rz0, e_rz1, e_rzb, e_call, bCallX_eq, nI_add, nI_mul, nI_succ1, le_i, lt_i, eq_i, m1_i, m1_le, m1_lt, m1_ge, m1_eq, ite_true, ite_false, if_true, if_false, hin x hx]
    · unfold fX9_tray fX9_tray_28
      rw [q0_b hT]
      simp (disch := omega) only [li_0, li_1, li_2, li_3, li_4, li_5, li_6, li_7, li_8, li_9, li_10, li_11, li_12, li_13, li_14, li_15, li_16, li_17, li_20, li_24, li_25, li_29, li_31, li_32, li_33, li_37, li_40, li_41, li_48, li_49, li_50, li_56, li_57, li_59, li_60, li_61, li_62, li_63, li_70, li_73, li_85, li_97, li_98, li_99, li_100, li_101, li_102, li_103, li_104, li_105, li_107, li_108, li_109, li_110, li_111, li_112, li_114, li_115, li_116, li_117, li_118, li_119, li_121, li_122, li_140, li_193, li_200, li_240, li_255, li_289, li_290, li_300, li_302, li_314, li_326, li_860, li_880, li_900, li_999, li_1024, li_2801, li_3440, li_3441, li_3442, li_3443, li_3444, li_3447, li_3448, li_3449, li_3457, li_3465, li_3469, li_3473, li_3477, li_3501, li_3513, li_3525, li_3537, li_3633, li_3730, li_3742, li_3754, li_3766, li_4095, li_4096, li_4300, li_9011, li_9999, li_10000, li_36864, li_65536, li_1000000, ll_0, ll_1, ll_100, ll_11, ll_16, ll_20, ll_3, ll_32, ll_50, ll_8, ll_96, ll_99, ll_9999, ne_m1, e_if, e_ret, e_rz0, e_rz1, e_rzb, e_call, bCallX_eq, nI_add, nI_mul, nI_succ1, le_i, lt_i, eq_i, m1_i, m1_le, m1_lt, m1_ge, m1_eq, ite_true, ite_false, if_true, if_false, e_callV hT0.k, q_no hT0, neg_lt hx]
  · by_cases h4 : k < 4
    · rcases arg y with hy | ⟨so, hso, rfl⟩
      · refine hrd 1 (by decide) ?_ ?_
        · unfold fX8_tray fX8_tray_17
          simp (disch := omega) only [k_now hS, k_cv hS, k_tell hS, k_none hS, k_refuse hS, k_accept hS, k_tellIf0 hS, k_tellIf1 hS, n10, li_0, li_1, li_2, li_3, li_4, li_5, li_6, li_7, li_8, li_9, li_10, li_11, li_12, li_13, li_14, li_15, li_16, li_17, li_20, li_24, li_25, li_29, li_31, li_32, li_33, li_37, li_40, li_41, li_48, li_49, li_50, li_56, li_57, li_59, li_60, li_61, li_62, li_63, li_70, li_73, li_85, li_97, li_98, li_99, li_100, li_101, li_102, li_103, li_104, li_105, li_107, li_108, li_109, li_110, li_111, li_112, li_114, li_115, li_116, li_117, li_118, li_119, li_121, li_122, li_140, li_193, li_200, li_240, li_255, li_289, li_290, li_300, li_302, li_314, li_326, li_860, li_880, li_900, li_999, li_1024, li_2801, li_3440, li_3441, li_3442, li_3443, li_3444, li_3447, li_3448, li_3449, li_3457, li_3465, li_3469, li_3473, li_3477, li_3501, li_3513, li_3525, li_3537, li_3633, li_3730, li_3742, li_3754, li_3766, li_4095, li_4096, li_4300, li_9011, li_9999, li_10000, li_36864, li_65536, li_1000000, ll_0, ll_1, ll_100, ll_11, ll_16, ll_20, ll_3, ll_32, ll_50, ll_8, ll_96, ll_99, ll_9999, ne_m1, e_if, e_ret, e_rz0, e_rz1, e_rzb, e_call, bCallX_eq, nI_add, nI_mul, nI_succ1, le_i, lt_i, eq_i, m1_i, m1_le, m1_lt, m1_ge, m1_eq, ite_true, ite_false, if_true, if_false, hi k hk, h4, decide_true, bt0, Bool.true_eq_false, neg_lt hy]
        · unfold fX9_tray fX9_tray_28
          rw [q0_b hT]
          simp (disch := omega) only [li_0, li_1, li_2, li_3, li_4, li_5, li_6, li_7, li_8, li_9, li_10, li_11, li_12, li_13, li_14, li_15, li_16, li_17, li_20, li_24, li_25, li_29, li_31, li_32, li_33, li_37, li_40, li_41, li_48, li_49, li_50, li_56, li_57, li_59, li_60, li_61, li_62, li_63, li_70, li_73, li_85, li_97, li_98, li_99, li_100, li_101, li_102, li_103, li_104, li_105, li_107, li_108, li_109, li_110, li_111, li_112, li_114, li_115, li_116, li_117, li_118, li_119, li_121, li_122, li_140, li_193, li_200, li_240, li_255, li_289, li_290, li_300, li_302, li_314, li_326, li_860, li_880, li_900, li_999, li_1024, li_2801, li_3440, li_3441, li_3442, li_3443, li_3444, li_3447, li_3448, li_3449, li_3457, li_3465, li_3469, li_3473, li_3477, li_3501, li_3513, li_3525, li_3537, li_3633, li_3730, li_3742, li_3754, li_3766, li_4095, li_4096, li_4300, li_9011, li_9999, li_10000, li_36864, li_65536, li_1000000, ll_0, ll_1, ll_100, ll_11, ll_16, ll_20, ll_3, ll_32, ll_50, ll_8, ll_96, ll_99, ll_9999, ne_m1, e_if, e_ret, e_rz0, e_rz1, e_rzb, e_call, bCallX_eq, nI_add, nI_mul, nI_succ1, le_i, lt_i, eq_i, m1_i, m1_le, m1_lt, m1_ge, m1_eq, ite_true, ite_false, if_true, if_false, e_callV hT0.k, q_no hT0, Nat.not_lt_zero, show ¬ 4 ≤ k by omega, neg_lt hy]
      · by_cases hs4 : so < 4
        · rcases arg z with hz | ⟨l, hl, rfl⟩
          · refine hrd 6 (by decide) ?_ ?_
            · unfold fX8_tray fX8_tray_17
              simp (disch := omega) only [k_now hS, k_cv hS, k_tell hS, k_none hS, k_refuse hS, k_accept hS, k_tellIf0 hS, k_tellIf1 hS, n10, li_0, li_1, li_2, li_3, li_4, li_5, li_6, li_7, li_8, li_9, li_10, li_11, li_12, li_13, li_14, li_15, li_16, li_17, li_20, li_24, li_25, li_29, li_31, li_32, li_33, li_37, li_40, li_41, li_48, li_49, li_50, li_56, li_57, li_59, li_60, li_61, li_62, li_63, li_70, li_73, li_85, li_97, li_98, li_99, li_100, li_101, li_102, li_103, li_104, li_105, li_107, li_108, li_109, li_110, li_111, li_112, li_114, li_115, li_116, li_117, li_118, li_119, li_121, li_122, li_140, li_193, li_200, li_240, li_255, li_289, li_290, li_300, li_302, li_314, li_326, li_860, li_880, li_900, li_999, li_1024, li_2801, li_3440, li_3441, li_3442, li_3443, li_3444, li_3447, li_3448, li_3449, li_3457, li_3465, li_3469, li_3473, li_3477, li_3501, li_3513, li_3525, li_3537, li_3633, li_3730, li_3742, li_3754, li_3766, li_4095, li_4096, li_4300, li_9011, li_9999, li_10000, li_36864, li_65536, li_1000000, ll_0, ll_1, ll_100, ll_11, ll_16, ll_20, ll_3, ll_32, ll_50, ll_8, ll_96, ll_99, ll_9999, ne_m1, e_if, e_ret, e_rz0, e_rz1, e_rzb, e_call, bCallX_eq, nI_add, nI_mul, nI_succ1, le_i, lt_i, eq_i, m1_i, m1_le, m1_lt, m1_ge, m1_eq, ite_true, ite_false, if_true, if_false, hi k hk, h4, decide_true, bt0, Bool.true_eq_false, Nat.not_lt_zero, hs4, neg_le hz (show 60 < 2147483648 by decide), neg_ge hz]
            · unfold fX9_tray fX9_tray_28
              rw [q0_b hT]
              simp (disch := omega) only [li_0, li_1, li_2, li_3, li_4, li_5, li_6, li_7, li_8, li_9, li_10, li_11, li_12, li_13, li_14, li_15, li_16, li_17, li_20, li_24, li_25, li_29, li_31, li_32, li_33, li_37, li_40, li_41, li_48, li_49, li_50, li_56, li_57, li_59, li_60, li_61, li_62, li_63, li_70, li_73, li_85, li_97, li_98, li_99, li_100, li_101, li_102, li_103, li_104, li_105, li_107, li_108, li_109, li_110, li_111, li_112, li_114, li_115, li_116, li_117, li_118, li_119, li_121, li_122, li_140, li_193, li_200, li_240, li_255, li_289, li_290, li_300, li_302, li_314, li_326, li_860, li_880, li_900, li_999, li_1024, li_2801, li_3440, li_3441, li_3442, li_3443, li_3444, li_3447, li_3448, li_3449, li_3457, li_3465, li_3469, li_3473, li_3477, li_3501, li_3513, li_3525, li_3537, li_3633, li_3730, li_3742, li_3754, li_3766, li_4095, li_4096, li_4300, li_9011, li_9999, li_10000, li_36864, li_65536, li_1000000, ll_0, ll_1, ll_100, ll_11, ll_16, ll_20, ll_3, ll_32, ll_50, ll_8, ll_96, ll_99, ll_9999, ne_m1, e_if, e_ret, e_rz0, e_rz1, e_rzb, e_call, bCallX_eq, nI_add, nI_mul, nI_succ1, le_i, lt_i, eq_i, m1_i, m1_le, m1_lt, m1_ge, m1_eq, ite_true, ite_false, if_true, if_false, e_callV hT0.k, q_no hT0, Nat.not_lt_zero, show ¬ 4 ≤ k by omega, show so ≤ 3 by omega, neg_le hz (show 60 < 2147483648 by decide), neg_ge hz]
          · by_cases h60 : l ≤ 60
            · obtain ⟨c1, c2, c3, c4⟩ := hS.2.2.1 k h4
              have hH2 : sH s 2 = (15, 4) := hS.2.1.1
              obtain ⟨s2, g1, g2, g3⟩ := l_fill (s := wI (wI s (98 + 2 * k) 1 (nI so)) (98 + 2 * k) 2 (nI l)) (a := 99 + 2 * k) (n := 60) c4 (by decide)
              have gI : sI s2 = sI (wI (wI s (98 + 2 * k) 1 (nI so)) (98 + 2 * k) 2 (nI l)) := g2.1
              have hS2 : CS s2 := hS.w.w.mv (fun _ _ => by rw [g2.2.2.1]) (fun _ _ _ _ _ _ _ => by rw [g2.2.1])
              have hF2 : FR bB s s2 := (FI.w (A := bB) 1 (nI so) (Or.inr (Or.inr ⟨by omega, by omega⟩))).fr.tr ((FI.w (A := bB) 2 (nI l) (Or.inr (Or.inr ⟨by omega, by omega⟩))).fr.tr (g2.fr (Or.inr (Or.inr ⟨by omega, by omega⟩))))
              have hF3 : FR bB s (wI s2 1 11 (nI 0)) := hF2.tr (FI.w (A := bB) 11 (nI 0) (Or.inl rfl)).fr
              have e1s : ∀ b, b ≠ 98 + 2 * k → sI s2 b = sI s b := fun b hb => by
                rw [gI]; funext i; rw [sI_wI_ne (Or.inl hb), sI_wI_ne (Or.inl hb)]
              have hCN : CN s2 D.1 := hC.2.1.mv (e1s 1 (by omega)) (g2.2.2.2.2.2 1 (by omega))
              have hCT : CT (wI s2 1 11 (nI 0)) (up (dTr D) k (so, some l, fun _ => 0)) := by
                refine hC.2.2.2.1.up (fun q hq hqk => ⟨?_, ?_⟩) ?_ ?_ (fun j hj => ?_)
                · funext i
                  rw [sI_wI_ne (Or.inl (by omega)), e1s _ (by omega)]
                · rw [sL_wI, g2.2.2.2.2.2 _ (by omega)]
                  rfl
                · rw [sI_wI_ne (Or.inl (by omega)), gI, sI_wI_ne (Or.inr (by decide)), sI_wI_eq]
                · rw [sI_wI_ne (Or.inl (by omega)), gI, sI_wI_eq]
                · rw [sL_wI]; exact g3 j (by omega)
              obtain ⟨t2, k1, k2, k3, k4⟩ := l_zero (s := wI (wI (q0 t) 114 k (nI so)) 115 k (nI l)) (k := k) (l := l) hT0.2.2.2.2.2.2.2.2.2.2.2.2.2.2.1 hT0.k hT0.2.2.2.1 h4 h60
              have e2s : ∀ b, b ≠ 114 → b ≠ 115 → sI t2 b = sI (q0 t) b := fun b h1 h2 => by
                rw [k2.1]; funext i; rw [sI_wI_ne (Or.inl h2), sI_wI_ne (Or.inl h1)]
              have hR0 := hR.q0 hD
              have hRT : RTr t2 (up (dTr D) k (so, some l, fun _ => 0)) := by
                refine hR0.2.2.2.1.up (fun q l' hl' => (hD.2.2.2 q).2 l' hl') (fun q hq hqk => ⟨?_, ?_, fun j hj => ?_⟩) ?_ ?_ (fun j hj => k3 j hj)
                · rw [k2.1, sI_wI_ne (Or.inl (by decide)), sI_wI_ne (Or.inr hqk)]
                · rw [k2.1, sI_wI_ne (Or.inr hqk), sI_wI_ne (Or.inl (by decide))]
                · rw [k4 _ (by omega)]; rfl
                · rw [k2.1, sI_wI_ne (Or.inl (by decide)), sI_wI_eq]
                · rw [k2.1, sI_wI_eq]
              refine ⟨nI 1, wI s2 1 11 (nI 0), t2, dTw D 0 (up (dTr D) k (so, some l, fun _ => 0)), ?_, ?_, ?_, ?_, hD.tw (by decide) (by omega) h60, bB_c hF3, ?_⟩
              · unfold fX8_tray fX8_tray_17 fX5_lay
                simp (disch := omega) only [k_now hS, k_cv hS, k_tell hS, k_none hS, k_refuse hS, k_accept hS, k_tellIf0 hS, k_tellIf1 hS, n10, li_0, li_1, li_2, li_3, li_4, li_5, li_6, li_7, li_8, li_9, li_10, li_11, li_12, li_13, li_14, li_15, li_16, li_17, li_20, li_24, li_25, li_29, li_31, li_32, li_33, li_37, li_40, li_41, li_48, li_49, li_50, li_56, li_57, li_59, li_60, li_61, li_62, li_63, li_70, li_73, li_85, li_97, li_98, li_99, li_100, li_101, li_102, li_103, li_104, li_105, li_107, li_108, li_109, li_110, li_111, li_112, li_114, li_115, li_116, li_117, li_118, li_119, li_121, li_122, li_140, li_193, li_200, li_240, li_255, li_289, li_290, li_300, li_302, li_314, li_326, li_860, li_880, li_900, li_999, li_1024, li_2801, li_3440, li_3441, li_3442, li_3443, li_3444, li_3447, li_3448, li_3449, li_3457, li_3465, li_3469, li_3473, li_3477, li_3501, li_3513, li_3525, li_3537, li_3633, li_3730, li_3742, li_3754, li_3766, li_4095, li_4096, li_4300, li_9011, li_9999, li_10000, li_36864, li_65536, li_1000000, ll_0, ll_1, ll_100, ll_11, ll_16, ll_20, ll_3, ll_32, ll_50, ll_8, ll_96, ll_99, ll_9999, ne_m1, e_if, e_ret, e_rz0, e_rz1, e_rzb, e_call, bCallX_eq, nI_add, nI_mul, nI_succ1, le_i, lt_i, eq_i, m1_i, m1_le, m1_lt, m1_ge, m1_eq, ite_true, ite_false, if_true, if_false, hi k hk, h4, decide_true, bt0, Bool.true_eq_false, Nat.not_lt_zero, hs4, h60, Nat.zero_le, k_trays hS, xAR hH2 h4 (by decide) c1, e_callV c2, xPI c2]
                rw [xPI (s := wI s (98 + 2 * k) 1 (nI so)) c2, xGR (s := wI (wI s (98 + 2 * k) 1 (nI so)) (98 + 2 * k) 2 (nI l)) c2 c3, e_call]
                have g1' : fJ7_fill_d0a16 (99 + 2 * k) (lN 0) (wI (wI s (98 + 2 * k) 1 (nI so)) (98 + 2 * k) 2 (nI l)) = some ((), s2) := g1
                rw [g1']
                simp (disch := omega) only [li_0, li_1, li_2, li_3, li_4, li_5, li_6, li_7, li_8, li_9, li_10, li_11, li_12, li_13, li_14, li_15, li_16, li_17, li_20, li_24, li_25, li_29, li_31, li_32, li_33, li_37, li_40, li_41, li_48, li_49, li_50, li_56, li_57, li_59, li_60, li_61, li_62, li_63, li_70, li_73, li_85, li_97, li_98, li_99, li_100, li_101, li_102, li_103, li_104, li_105, li_107, li_108, li_109, li_110, li_111, li_112, li_114, li_115, li_116, li_117, li_118, li_119, li_121, li_122, li_140, li_193, li_200, li_240, li_255, li_289, li_290, li_300, li_302, li_314, li_326, li_860, li_880, li_900, li_999, li_1024, li_2801, li_3440, li_3441, li_3442, li_3443, li_3444, li_3447, li_3448, li_3449, li_3457, li_3465, li_3469, li_3473, li_3477, li_3501, li_3513, li_3525, li_3537, li_3633, li_3730, li_3742, li_3754, li_3766, li_4095, li_4096, li_4300, li_9011, li_9999, li_10000, li_36864, li_65536, li_1000000, ll_0, ll_1, ll_100, ll_11, ll_16, ll_20, ll_3, ll_32, ll_50, ll_8, ll_96, ll_99, ll_9999, ne_m1, e_if, e_ret, e_rz0, e_rz1, e_rzb, e_call, bCallX_eq, nI_add, nI_mul, nI_succ1, le_i, lt_i, eq_i, m1_i, m1_le, m1_lt, m1_ge, m1_eq, ite_true, ite_false, if_true, if_false, k_cv hS2, k_accept hS2]
              · unfold fX9_tray fX9_tray_28
                rw [q0_b hT]
                simp (disch := omega) only [li_0, li_1, li_2, li_3, li_4, li_5, li_6, li_7, li_8, li_9, li_10, li_11, li_12, li_13, li_14, li_15, li_16, li_17, li_20, li_24, li_25, li_29, li_31, li_32, li_33, li_37, li_40, li_41, li_48, li_49, li_50, li_56, li_57, li_59, li_60, li_61, li_62, li_63, li_70, li_73, li_85, li_97, li_98, li_99, li_100, li_101, li_102, li_103, li_104, li_105, li_107, li_108, li_109, li_110, li_111, li_112, li_114, li_115, li_116, li_117, li_118, li_119, li_121, li_122, li_140, li_193, li_200, li_240, li_255, li_289, li_290, li_300, li_302, li_314, li_326, li_860, li_880, li_900, li_999, li_1024, li_2801, li_3440, li_3441, li_3442, li_3443, li_3444, li_3447, li_3448, li_3449, li_3457, li_3465, li_3469, li_3473, li_3477, li_3501, li_3513, li_3525, li_3537, li_3633, li_3730, li_3742, li_3754, li_3766, li_4095, li_4096, li_4300, li_9011, li_9999, li_10000, li_36864, li_65536, li_1000000, ll_0, ll_1, ll_100, ll_11, ll_16, ll_20, ll_3, ll_32, ll_50, ll_8, ll_96, ll_99, ll_9999, ne_m1, e_if, e_ret, e_rz0, e_rz1, e_rzb, e_call, bCallX_eq, nI_add, nI_mul, nI_succ1, le_i, lt_i, eq_i, m1_i, m1_le, m1_lt, m1_ge, m1_eq, ite_true, ite_false, if_true, if_false, e_callV hT0.k, q_no hT0, Nat.not_lt_zero, show ¬ 4 ≤ k by omega, show so ≤ 3 by omega, h60, Nat.zero_le]
                rw [xGR hT0.k hT0.2.1, xSI hT0.2.2.2.2.2.2.2.2.2.2.2.2.1 h4 (by decide), xGR (s := wI (q0 t) 114 k (nI so)) hT0.k hT0.2.2.1, xSI (s := wI (q0 t) 114 k (nI so)) hT0.2.2.2.2.2.2.2.2.2.2.2.2.2.1 h4 (by decide)]
                exact k1
              · exact hC.upB (0, D.1.2) (dTp D) _ hF3 (by show sP s2 = sP s; rw [g2.2.1]; rfl) (hCN.st 0) rfl hD.2.2.1 (fun j hj => by rw [sI_wI_ne (Or.inl (by decide)), e1s 3 (by omega)]; exact hC.2.2.1 j hj) hCT
              · exact hR0.upB (0, D.1.2) (dTp D) _ (by rw [k2.2.2.1]; rfl) (by rw [k2.2.1]; rfl) (e2s 118 (by decide) (by decide)) (hR0.2.1.mv (e2s 113 (by decide) (by decide)) (k2.2.2.2.2.2 113 (by decide))) rfl (fun j hj => by rw [e2s 117 (by decide) (by decide)]; exact hR0.2.2.1 j hj) hRT
              · exact (fr_q0 t).tr ((FI.w (A := rfA) k (nI so) ⟨by decide, by decide⟩).fr.tr ((FI.w (A := rfA) k (nI l) ⟨by decide, by decide⟩).fr.tr (k2.fr ⟨by decide, by decide⟩)))
            · refine hrd 5 (by decide) ?_ ?_
              · unfold fX8_tray fX8_tray_17
                simp (disch := omega) only [k_now hS, k_cv hS, k_tell hS, k_none hS, k_refuse hS, k_accept hS, k_tellIf0 hS, k_tellIf1 hS, n10, li_0, li_1, li_2, li_3, li_4, li_5, li_6, li_7, li_8, li_9, li_10, li_11, li_12, li_13, li_14, li_15, li_16, li_17, li_20, li_24, li_25, li_29, li_31, li_32, li_33, li_37, li_40, li_41, li_48, li_49, li_50, li_56, li_57, li_59, li_60, li_61, li_62, li_63, li_70, li_73, li_85, li_97, li_98, li_99, li_100, li_101, li_102, li_103, li_104, li_105, li_107, li_108, li_109, li_110, li_111, li_112, li_114, li_115, li_116, li_117, li_118, li_119, li_121, li_122, li_140, li_193, li_200, li_240, li_255, li_289, li_290, li_300, li_302, li_314, li_326, li_860, li_880, li_900, li_999, li_1024, li_2801, li_3440, li_3441, li_3442, li_3443, li_3444, li_3447, li_3448, li_3449, li_3457, li_3465, li_3469, li_3473, li_3477, li_3501, li_3513, li_3525, li_3537, li_3633, li_3730, li_3742, li_3754, li_3766, li_4095, li_4096, li_4300, li_9011, li_9999, li_10000, li_36864, li_65536, li_1000000, ll_0, ll_1, ll_100, ll_11, ll_16, ll_20, ll_3, ll_32, ll_50, ll_8, ll_96, ll_99, ll_9999, ne_m1, e_if, e_ret, e_rz0, e_rz1, e_rzb, e_call, bCallX_eq, nI_add, nI_mul, nI_succ1, le_i, lt_i, eq_i, m1_i, m1_le, m1_lt, m1_ge, m1_eq, ite_true, ite_false, if_true, if_false, hi k hk, h4, decide_true, bt0, Bool.true_eq_false, Nat.not_lt_zero, hs4, h60]
              · unfold fX9_tray fX9_tray_28
                rw [q0_b hT]
                simp (disch := omega) only [li_0, li_1, li_2, li_3, li_4, li_5, li_6, li_7, li_8, li_9, li_10, li_11, li_12, li_13, li_14, li_15, li_16, li_17, li_20, li_24, li_25, li_29, li_31, li_32, li_33, li_37, li_40, li_41, li_48, li_49, li_50, li_56, li_57, li_59, li_60, li_61, li_62, li_63, li_70, li_73, li_85, li_97, li_98, li_99, li_100, li_101, li_102, li_103, li_104, li_105, li_107, li_108, li_109, li_110, li_111, li_112, li_114, li_115, li_116, li_117, li_118, li_119, li_121, li_122, li_140, li_193, li_200, li_240, li_255, li_289, li_290, li_300, li_302, li_314, li_326, li_860, li_880, li_900, li_999, li_1024, li_2801, li_3440, li_3441, li_3442, li_3443, li_3444, li_3447, li_3448, li_3449, li_3457, li_3465, li_3469, li_3473, li_3477, li_3501, li_3513, li_3525, li_3537, li_3633, li_3730, li_3742, li_3754, li_3766, li_4095, li_4096, li_4300, li_9011, li_9999, li_10000, li_36864, li_65536, li_1000000, ll_0, ll_1, ll_100, ll_11, ll_16, ll_20, ll_3, ll_32, ll_50, ll_8, ll_96, ll_99, ll_9999, ne_m1, e_if, e_ret, e_rz0, e_rz1, e_rzb, e_call, bCallX_eq, nI_add, nI_mul, nI_succ1, le_i, lt_i, eq_i, m1_i, m1_le, m1_lt, m1_ge, m1_eq, ite_true, ite_false, if_true, if_false, e_callV hT0.k, q_no hT0, Nat.not_lt_zero, show ¬ 4 ≤ k by omega, show so ≤ 3 by omega, h60]
        · refine hrd 1 (by decide) ?_ ?_
          · unfold fX8_tray fX8_tray_17
            simp (disch := omega) only [k_now hS, k_cv hS, k_tell hS, k_none hS, k_refuse hS, k_accept hS, k_tellIf0 hS, k_tellIf1 hS, n10, li_0, li_1, li_2, li_3, li_4, li_5, li_6, li_7, li_8, li_9, li_10, li_11, li_12, li_13, li_14, li_15, li_16, li_17, li_20, li_24, li_25, li_29, li_31, li_32, li_33, li_37, li_40, li_41, li_48, li_49, li_50, li_56, li_57, li_59, li_60, li_61, li_62, li_63, li_70, li_73, li_85, li_97, li_98, li_99, li_100, li_101, li_102, li_103, li_104, li_105, li_107, li_108, li_109, li_110, li_111, li_112, li_114, li_115, li_116, li_117, li_118, li_119, li_121, li_122, li_140, li_193, li_200, li_240, li_255, li_289, li_290, li_300, li_302, li_314, li_326, li_860, li_880, li_900, li_999, li_1024, li_2801, li_3440, li_3441, li_3442, li_3443, li_3444, li_3447, li_3448, li_3449, li_3457, li_3465, li_3469, li_3473, li_3477, li_3501, li_3513, li_3525, li_3537, li_3633, li_3730, li_3742, li_3754, li_3766, li_4095, li_4096, li_4300, li_9011, li_9999, li_10000, li_36864, li_65536, li_1000000, ll_0, ll_1, ll_100, ll_11, ll_16, ll_20, ll_3, ll_32, ll_50, ll_8, ll_96, ll_99, ll_9999, ne_m1, e_if, e_ret, e_rz0, e_rz1, e_rzb, e_call, bCallX_eq, nI_add, nI_mul, nI_succ1, le_i, lt_i, eq_i, m1_i, m1_le, m1_lt, m1_ge, m1_eq, ite_true, ite_false, if_true, if_false, hi k hk, h4, decide_true, bt0, Bool.true_eq_false, Nat.not_lt_zero, hs4]
          · unfold fX9_tray fX9_tray_28
            rw [q0_b hT]
            simp (disch := omega) only [li_0, li_1, li_2, li_3, li_4, li_5, li_6, li_7, li_8, li_9, li_10, li_11, li_12, li_13, li_14, li_15, li_16, li_17, li_20, li_24, li_25, li_29, li_31, li_32, li_33, li_37, li_40, li_41, li_48, li_49, li_50, li_56, li_57, li_59, li_60, li_61, li_62, li_63, li_70, li_73, li_85, li_97, li_98, li_99, li_100, li_101, li_102, li_103, li_104, li_105, li_107, li_108, li_109, li_110, li_111, li_112, li_114, li_115, li_116, li_117, li_118, li_119, li_121, li_122, li_140, li_193, li_200, li_240, li_255, li_289, li_290, li_300, li_302, li_314, li_326, li_860, li_880, li_900, li_999, li_1024, li_2801, li_3440, li_3441, li_3442, li_3443, li_3444, li_3447, li_3448, li_3449, li_3457, li_3465, li_3469, li_3473, li_3477, li_3501, li_3513, li_3525, li_3537, li_3633, li_3730, li_3742, li_3754, li_3766, li_4095, li_4096, li_4300, li_9011, li_9999, li_10000, li_36864, li_65536, li_1000000, ll_0, ll_1, ll_100, ll_11, ll_16, ll_20, ll_3, ll_32, ll_50, ll_8, ll_96, ll_99, ll_9999, ne_m1, e_if, e_ret, e_rz0, e_rz1, e_rzb, e_call, bCallX_eq, nI_add, nI_mul, nI_succ1, le_i, lt_i, eq_i, m1_i, m1_le, m1_lt, m1_ge, m1_eq, ite_true, ite_false, if_true, if_false, e_callV hT0.k, q_no hT0, Nat.not_lt_zero, show ¬ 4 ≤ k by omega, show ¬ so ≤ 3 by omega]
    · refine hrd 1 (by decide) ?_ ?_
      · unfold fX8_tray fX8_tray_17
        simp (disch := omega) only [k_now hS, k_cv hS, k_tell hS, k_none hS, k_refuse hS, k_accept hS, k_tellIf0 hS, k_tellIf1 hS, n10, li_0, li_1, li_2, li_3, li_4, li_5, li_6, li_7, li_8, li_9, li_10, li_11, li_12, li_13, li_14, li_15, li_16, li_17, li_20, li_24, li_25, li_29, li_31, li_32, li_33, li_37, li_40, li_41, li_48, li_49, li_50, li_56, li_57, li_59, li_60, li_61, li_62, li_63, li_70, li_73, li_85, li_97, li_98, li_99, li_100, li_101, li_102, li_103, li_104, li_105, li_107, li_108, li_109, li_110, li_111, li_112, li_114, li_115, li_116, li_117, li_118, li_119, li_121, li_122, li_140, li_193, li_200, li_240, li_255, li_289, li_290, li_300, li_302, li_314, li_326, li_860, li_880, li_900, li_999, li_1024, li_2801, li_3440, li_3441, li_3442, li_3443, li_3444, li_3447, li_3448, li_3449, li_3457, li_3465, li_3469, li_3473, li_3477, li_3501, li_3513, li_3525, li_3537, li_3633, li_3730, li_3742, li_3754, li_3766, li_4095, li_4096, li_4300, li_9011, li_9999, li_10000, li_36864, li_65536, li_1000000, ll_0, ll_1, ll_100, ll_11, ll_16, ll_20, ll_3, ll_32, ll_50, ll_8, ll_96, ll_99, ll_9999, ne_m1, e_if, e_ret, e_rz0, e_rz1, e_rzb, e_call, bCallX_eq, nI_add, nI_mul, nI_succ1, le_i, lt_i, eq_i, m1_i, m1_le, m1_lt, m1_ge, m1_eq, ite_true, ite_false, if_true, if_false, hi k hk, h4, decide_false, bt0]
      · unfold fX9_tray fX9_tray_28
        rw [q0_b hT]
        simp (disch := omega) only [li_0, li_1, li_2, li_3, li_4, li_5, li_6, li_7, li_8, li_9, li_10, li_11, li_12, li_13, li_14, li_15, li_16, li_17, li_20, li_24, li_25, li_29, li_31, li_32, li_33, li_37, li_40, li_41, li_48, li_49, li_50, li_56, li_57, li_59, li_60, li_61, li_62, li_63, li_70, li_73, li_85, li_97, li_98, li_99, li_100, li_101, li_102, li_103, li_104, li_105, li_107, li_108, li_109, li_110, li_111, li_112, li_114, li_115, li_116, li_117, li_118, li_119, li_121, li_122, li_140, li_193, li_200, li_240, li_255, li_289, li_290, li_300, li_302, li_314, li_326, li_860, li_880, li_900, li_999, li_1024, li_2801, li_3440, li_3441, li_3442, li_3443, li_3444, li_3447, li_3448, li_3449, li_3457, li_3465, li_3469, li_3473, li_3477, li_3501, li_3513, li_3525, li_3537, li_3633, li_3730, li_3742, li_3754, li_3766, li_4095, li_4096, li_4300, li_9011, li_9999, li_10000, li_36864, li_65536, li_1000000, ll_0, ll_1, ll_100, ll_11, ll_16, ll_20, ll_3, ll_32, ll_50, ll_8, ll_96, ll_99, ll_9999, ne_m1, e_if, e_ret, e_rz0, e_rz1, e_rzb, e_call, bCallX_eq, nI_add, nI_mul, nI_succ1, le_i, lt_i, eq_i, m1_i, m1_le, m1_lt, m1_ge, m1_eq, ite_true, ite_false, if_true, if_false, e_callV hT0.k, q_no hT0, Nat.not_lt_zero, show 4 ≤ k by omega]

/-! THE ODDS -/
theorem loop_p {α : Type} (f : Nat → Nat → mM α) (I : Nat → mS → Prop) (N : Nat) (g : mM α) (J : mS → Prop) (hs : ∀ n k s, k < N → I k s → ∃ s', I (k + 1) s' ∧ f (n + 1) k s = f n (k + 1) s') (he : ∀ n s, I N s → ∃ v, f (n + 1) N s = g v ∧ J v) : ∀ n k s, k ≤ N → N < n + k → I k s → ∃ v, f n k s = g v ∧ J v := by
  intro n
  induction n with
  | zero => intro k s h1 h2 _; omega
  | succ n ih =>
    intro k s h1 h2 hI
    by_cases hk : k = N
    · subst hk; exact he n s hI
    · obtain ⟨s', h3, h4⟩ := hs n k s (by omega) hI
      rw [h4]
      exact ih (k + 1) s' (by omega) (by omega) h3
def ocN (W : wW) (p n sd k : Nat) : Nat := it (fun j c => if wDk (wQ (wSe W (sd + j)) n) p then c + 1 else c) 0 k
theorem ocN_s (W : wW) (p n sd k : Nat) : ocN W p n sd (k + 1) = if wDk (wQ (wSe W (sd + k)) n) p then ocN W p n sd k + 1 else ocN W p n sd k := rfl
theorem ocN_le (W : wW) (p n sd : Nat) : ∀ k, ocN W p n sd k ≤ k
  | 0 => Nat.le_refl _
  | k + 1 => by
    have := ocN_le W p n sd k
    rw [ocN_s]
    split <;> omega
theorem wSe_ok {W : wW} (h : wOk W) {d : Nat} (hd : d < 65536) : wOk (wSe W d) := wNum_ok h h.1 h.2.1 h.2.2.1 hd
theorem c_odds {s : mS} {D : dD} {p n sd m : Nat} (hC : CP s D) (hD : DOk D) (hp : p < wPe (dW D)) (hn : n ≤ 100) (hsd : sd + m ≤ 10000) (hm : m ≤ 20) (hm0 : 0 < m) : ∃ v, HA s v ∧ fX8_odds_68 fu 1 (nI p) (nI n) (nI sd) (nI m) (nI 0) (nI 0) s = some (nI 1, wI (wL (wL v 1 12 (lN (ocN (dW D) p n sd m / Nat.gcd (ocN (dW D) p n sd m) m))) 1 13 (lN (m / Nat.gcd (ocN (dW D) p n sd m) m))) 1 11 (nI 0)) := by
  have hS := hC.1
  have hw : wOk (dW D) := hC.2.2.2.2.1.wi
  have hle := ocN_le (dW D) p n sd
  have key := loop_p (fun i k => fX8_odds_68 i 1 (nI p) (nI n) (nI sd) (nI m) (nI (ocN (dW D) p n sd k)) (nI k)) (fun _ v => HA s v) m (fX8_odds_104 1 (nI m) (nI (ocN (dW D) p n sd m))) (fun v => HA s v) ?_ ?_ fu 0 s (by omega) (by unfold fu; omega) hC.rf
  · obtain ⟨v, e1, e2⟩ := key
    refine ⟨v, e2, e1.trans ?_⟩
    have hSv := e2.cs hS
    have := hle m
    unfold fX8_odds_104
    simp (disch := omega) only [k_cv hSv, l_i, c_tellFraction hSv, li_0, li_1, li_2, li_3, li_4, li_5, li_6, li_7, li_8, li_9, li_10, li_11, li_12, li_13, li_14, li_15, li_16, li_17, li_20, li_24, li_25, li_29, li_31, li_32, li_33, li_37, li_40, li_41, li_48, li_49, li_50, li_56, li_57, li_59, li_60, li_61, li_62, li_63, li_70, li_73, li_85, li_97, li_98, li_99, li_100, li_101, li_102, li_103, li_104, li_105, li_107, li_108, li_109, li_110, li_111, li_112, li_114, li_115, li_116, li_117, li_118, li_119, li_121, li_122, li_140, li_193, li_200, li_240, li_255, li_289, li_290, li_300, li_302, li_314, li_326, li_860, li_880, li_900, li_999, li_1024, li_2801, li_3440, li_3441, li_3442, li_3443, li_3444, li_3447, li_3448, li_3449, li_3457, li_3465, li_3469, li_3473, li_3477, li_3501, li_3513, li_3525, li_3537, li_3633, li_3730, li_3742, li_3754, li_3766, li_4095, li_4096, li_4300, li_9011, li_9999, li_10000, li_36864, li_65536, li_1000000, ll_0, ll_1, ll_100, ll_11, ll_16, ll_20, ll_3, ll_32, ll_50, ll_8, ll_96, ll_99, ll_9999, ne_m1, e_if, e_ret, e_rz0, e_rz1, e_rzb, e_call, bCallX_eq, nI_add, nI_mul, nI_succ1, le_i, lt_i, eq_i, m1_i, m1_le, m1_lt, m1_ge, m1_eq, ite_true, ite_false, if_true, if_false]
  · rintro i k v hk hA
    have hCv := hC.ah hD hA
    obtain ⟨w, g1, g2, g3⟩ := c_ahead hCv (n := n) (d := sd + k) (by omega) (by omega)
    have hSv := hA.cs hS
    have hAw := hA.tr g2
    have hSw := hAw.cs hS
    have := hle k
    have hpe : wPe (wQ (wSe (dW D) (sd + k)) n) = wPe (dW D) := (GT.q (wSe_ok hw (by omega)) n).2.1
    refine ⟨w, hAw, ?_⟩
    show fX8_odds_68 (i + 1) 1 _ _ _ _ _ _ v = _
    rw [qX8_odds_68]
    simp (disch := omega) only [li_0, li_1, li_2, li_3, li_4, li_5, li_6, li_7, li_8, li_9, li_10, li_11, li_12, li_13, li_14, li_15, li_16, li_17, li_20, li_24, li_25, li_29, li_31, li_32, li_33, li_37, li_40, li_41, li_48, li_49, li_50, li_56, li_57, li_59, li_60, li_61, li_62, li_63, li_70, li_73, li_85, li_97, li_98, li_99, li_100, li_101, li_102, li_103, li_104, li_105, li_107, li_108, li_109, li_110, li_111, li_112, li_114, li_115, li_116, li_117, li_118, li_119, li_121, li_122, li_140, li_193, li_200, li_240, li_255, li_289, li_290, li_300, li_302, li_314, li_326, li_860, li_880, li_900, li_999, li_1024, li_2801, li_3440, li_3441, li_3442, li_3443, li_3444, li_3447, li_3448, li_3449, li_3457, li_3465, li_3469, li_3473, li_3477, li_3501, li_3513, li_3525, li_3537, li_3633, li_3730, li_3742, li_3754, li_3766, li_4095, li_4096, li_4300, li_9011, li_9999, li_10000, li_36864, li_65536, li_1000000, ll_0, ll_1, ll_100, ll_11, ll_16, ll_20, ll_3, ll_32, ll_50, ll_8, ll_96, ll_99, ll_9999, ne_m1, e_if, e_ret, e_rz0, e_rz1, e_rzb, e_call, bCallX_eq, nI_add, nI_mul, nI_succ1, le_i, lt_i, eq_i, m1_i, m1_le, m1_lt, m1_ge, m1_eq, ite_true, ite_false, if_true, if_false, show ¬ m ≤ k by omega, k_cv hSv, g1, k_then hSw, e_callV g3.k, c_isDrinking g3 (show p < wPe (wQ (wSe (dW D) (sd + k)) n) by omega), bt0, ocN_s]
    cases wDk (wQ (wSe (dW D) (sd + k)) n) p <;> rfl
  · rintro i v hA
    refine ⟨v, ?_, hA⟩
    show fX8_odds_68 (i + 1) 1 _ _ _ _ _ _ v = _
    rw [qX8_odds_68, e_if, if_pos (by rw [le_i (by omega) (by omega)]; exact Nat.le_refl _)]
theorem x_oddsYears {s t : mS} {W : wW} (h : HK s t) (u : RX t W) {n : Nat} (hn : wYr W + n ≤ 200) (r77 : Nat → Int32 → Int32 → Int32 → Int32 → Int32 → Int32 → mM Int32) (p sd m c j : Int32) : ∃ v, fX9_odds_98 r77 fu 113 p (nI n) sd m c j (nI 0) t = fX9_odds_114 r77 113 p (nI n) sd m c j v ∧ HK s v ∧ RX v (wQ W n) := by
  refine loop_p (fun i k => fX9_odds_98 r77 i 113 p (nI n) sd m c j (nI k)) (fun k v => HK s v ∧ RX v (wQ W k)) n (fX9_odds_114 r77 113 p (nI n) sd m c j) (fun v => HK s v ∧ RX v (wQ W n)) ?_ ?_ fu 0 t (by omega) (by unfold fu; omega) ⟨h, u⟩
  · rintro i k v hk ⟨hF, hv⟩
    have hy : wYr (wQ W k) < 200 := by rw [wQ_yr k (by omega)]; omega
    obtain ⟨w, e1, e2, e3⟩ := x_oneYear hv hy
    have e3 : RX w (wQ W (k + 1)) := by
      rw [wQ_s]
      unfold wPs
      rw [if_pos hy]
      exact e3
    refine ⟨w, ⟨hF.fm e2, e3⟩, ?_⟩
    show fX9_odds_98 r77 (i + 1) 113 _ _ _ _ _ _ _ v = _
    rw [qX9_odds_98]
    simp (disch := omega) only [li_0, li_1, li_2, li_3, li_4, li_5, li_6, li_7, li_8, li_9, li_10, li_11, li_12, li_13, li_14, li_15, li_16, li_17, li_20, li_24, li_25, li_29, li_31, li_32, li_33, li_37, li_40, li_41, li_48, li_49, li_50, li_56, li_57, li_59, li_60, li_61, li_62, li_63, li_70, li_73, li_85, li_97, li_98, li_99, li_100, li_101, li_102, li_103, li_104, li_105, li_107, li_108, li_109, li_110, li_111, li_112, li_114, li_115, li_116, li_117, li_118, li_119, li_121, li_122, li_140, li_193, li_200, li_240, li_255, li_289, li_290, li_300, li_302, li_314, li_326, li_860, li_880, li_900, li_999, li_1024, li_2801, li_3440, li_3441, li_3442, li_3443, li_3444, li_3447, li_3448, li_3449, li_3457, li_3465, li_3469, li_3473, li_3477, li_3501, li_3513, li_3525, li_3537, li_3633, li_3730, li_3742, li_3754, li_3766, li_4095, li_4096, li_4300, li_9011, li_9999, li_10000, li_36864, li_65536, li_1000000, ll_0, ll_1, ll_100, ll_11, ll_16, ll_20, ll_3, ll_32, ll_50, ll_8, ll_96, ll_99, ll_9999, ne_m1, e_if, e_ret, e_rz0, e_rz1, e_rzb, e_call, bCallX_eq, nI_add, nI_mul, nI_succ1, le_i, lt_i, eq_i, m1_i, m1_le, m1_lt, m1_ge, m1_eq, ite_true, ite_false, if_true, if_false, show ¬ n ≤ k by omega, e_callV hv.k, e1]
  · rintro i v ⟨hF, hv⟩
    refine ⟨v, ?_, hF, hv⟩
    show fX9_odds_98 r77 (i + 1) 113 _ _ _ _ _ _ _ v = _
    rw [qX9_odds_98, e_if, if_pos (by rw [le_i (by omega) (by omega)]; exact Nat.le_refl _)]
theorem x_odds {s t : mS} {W : wW} {p n sd m : Nat} (u : RX s W) (hK : HK s t) (hR : HR s t) (hp : p < wPe W) (hn : ahOk W n) (hsd : sd + m ≤ 10000) (hm : m ≤ 20) (hm0 : 0 < m) : ∃ v, HR s v ∧ fX9_odds_77 fu 113 (nI p) (nI n) (nI sd) (nI m) (nI 0) (nI 0) t = some (nI 1, wL (wL v 113 2 (lN (ocN W p n sd m / Nat.gcd (ocN W p n sd m) m))) 113 3 (lN (m / Nat.gcd (ocN W p n sd m) m))) := by
  have hle := ocN_le W p n sd
  have key := loop_p (fun i k => fX9_odds_77 i 113 (nI p) (nI n) (nI sd) (nI m) (nI (ocN W p n sd k)) (nI k)) (fun _ v => HK s v ∧ HR s v) m (fX9_odds_142 113 (nI m) (nI (ocN W p n sd m))) (fun v => HR s v) ?_ ?_ fu 0 t (by omega) (by unfold fu; omega) ⟨hK, hR⟩
  · obtain ⟨v, e1, e2⟩ := key
    refine ⟨v, e2, e1.trans ?_⟩
    have uv := e2.rx u
    have := hle m
    unfold fX9_odds_142
    simp (disch := omega) only [e_callV uv.k, l_i, x_fraction uv.1, li_0, li_1, li_2, li_3, li_4, li_5, li_6, li_7, li_8, li_9, li_10, li_11, li_12, li_13, li_14, li_15, li_16, li_17, li_20, li_24, li_25, li_29, li_31, li_32, li_33, li_37, li_40, li_41, li_48, li_49, li_50, li_56, li_57, li_59, li_60, li_61, li_62, li_63, li_70, li_73, li_85, li_97, li_98, li_99, li_100, li_101, li_102, li_103, li_104, li_105, li_107, li_108, li_109, li_110, li_111, li_112, li_114, li_115, li_116, li_117, li_118, li_119, li_121, li_122, li_140, li_193, li_200, li_240, li_255, li_289, li_290, li_300, li_302, li_314, li_326, li_860, li_880, li_900, li_999, li_1024, li_2801, li_3440, li_3441, li_3442, li_3443, li_3444, li_3447, li_3448, li_3449, li_3457, li_3465, li_3469, li_3473, li_3477, li_3501, li_3513, li_3525, li_3537, li_3633, li_3730, li_3742, li_3754, li_3766, li_4095, li_4096, li_4300, li_9011, li_9999, li_10000, li_36864, li_65536, li_1000000, ll_0, ll_1, ll_100, ll_11, ll_16, ll_20, ll_3, ll_32, ll_50, ll_8, ll_96, ll_99, ll_9999, ne_m1, e_if, e_ret, e_rz0, e_rz1, e_rzb, e_call, bCallX_eq, nI_add, nI_mul, nI_succ1, le_i, lt_i, eq_i, m1_i, m1_le, m1_lt, m1_ge, m1_eq, ite_true, ite_false, if_true, if_false]
  · rintro i k v hk ⟨hKv, hRv⟩
    have uv := hRv.rx u
    have hse := x_seed uv (d := sd + k) (by omega)
    have hK1 : HK s (wI v 118 6 (nI (sd + k))) := hKv.fm (FM.w (by decide))
    obtain ⟨w, g1, g2, g3⟩ := x_oddsYears (n := n) hK1 hse hn.2 (fX9_odds_77 i) (nI p) (nI sd) (nI m) (nI (ocN W p n sd k)) (nI k)
    obtain ⟨w2, k1, k2, k3⟩ := x_take2 g2 g3.1
    have hpe : wPe (wQ (wSe W (sd + k)) n) = wPe W := (GT.q (wSe_ok u.wi (by omega)) n).2.1
    have g3 : RX w (wQ (wSe W (sd + k)) n) := g3
    have := hle k
    refine ⟨w2, ⟨k3, k2⟩, ?_⟩
    show fX9_odds_77 (i + 1) 113 _ _ _ _ _ _ v = _
    rw [qX9_odds_77]
    simp (disch := omega) only [li_0, li_1, li_2, li_3, li_4, li_5, li_6, li_7, li_8, li_9, li_10, li_11, li_12, li_13, li_14, li_15, li_16, li_17, li_20, li_24, li_25, li_29, li_31, li_32, li_33, li_37, li_40, li_41, li_48, li_49, li_50, li_56, li_57, li_59, li_60, li_61, li_62, li_63, li_70, li_73, li_85, li_97, li_98, li_99, li_100, li_101, li_102, li_103, li_104, li_105, li_107, li_108, li_109, li_110, li_111, li_112, li_114, li_115, li_116, li_117, li_118, li_119, li_121, li_122, li_140, li_193, li_200, li_240, li_255, li_289, li_290, li_300, li_302, li_314, li_326, li_860, li_880, li_900, li_999, li_1024, li_2801, li_3440, li_3441, li_3442, li_3443, li_3444, li_3447, li_3448, li_3449, li_3457, li_3465, li_3469, li_3473, li_3477, li_3501, li_3513, li_3525, li_3537, li_3633, li_3730, li_3742, li_3754, li_3766, li_4095, li_4096, li_4300, li_9011, li_9999, li_10000, li_36864, li_65536, li_1000000, ll_0, ll_1, ll_100, ll_11, ll_16, ll_20, ll_3, ll_32, ll_50, ll_8, ll_96, ll_99, ll_9999, ne_m1, e_if, e_ret, e_rz0, e_rz1, e_rzb, e_call, bCallX_eq, nI_add, nI_mul, nI_succ1, le_i, lt_i, eq_i, m1_i, m1_le, m1_lt, m1_ge, m1_eq, ite_true, ite_false, if_true, if_false, show ¬ m ≤ k by omega, r_c uv, rt_w uv.1]
    rw [g1]
    unfold fX9_odds_114 fX9_odds_129
    simp (disch := omega) only [li_0, li_1, li_2, li_3, li_4, li_5, li_6, li_7, li_8, li_9, li_10, li_11, li_12, li_13, li_14, li_15, li_16, li_17, li_20, li_24, li_25, li_29, li_31, li_32, li_33, li_37, li_40, li_41, li_48, li_49, li_50, li_56, li_57, li_59, li_60, li_61, li_62, li_63, li_70, li_73, li_85, li_97, li_98, li_99, li_100, li_101, li_102, li_103, li_104, li_105, li_107, li_108, li_109, li_110, li_111, li_112, li_114, li_115, li_116, li_117, li_118, li_119, li_121, li_122, li_140, li_193, li_200, li_240, li_255, li_289, li_290, li_300, li_302, li_314, li_326, li_860, li_880, li_900, li_999, li_1024, li_2801, li_3440, li_3441, li_3442, li_3443, li_3444, li_3447, li_3448, li_3449, li_3457, li_3465, li_3469, li_3473, li_3477, li_3501, li_3513, li_3525, li_3537, li_3633, li_3730, li_3742, li_3754, li_3766, li_4095, li_4096, li_4300, li_9011, li_9999, li_10000, li_36864, li_65536, li_1000000, ll_0, ll_1, ll_100, ll_11, ll_16, ll_20, ll_3, ll_32, ll_50, ll_8, ll_96, ll_99, ll_9999, ne_m1, e_if, e_ret, e_rz0, e_rz1, e_rzb, e_call, bCallX_eq, nI_add, nI_mul, nI_succ1, le_i, lt_i, eq_i, m1_i, m1_le, m1_lt, m1_ge, m1_eq, ite_true, ite_false, if_true, if_false, e_callV g3.k, x_isDrinking g3 (show p < wPe (wQ (wSe W (sd + k)) n) by omega), bt0, k1, ocN_s]
    cases wDk (wQ (wSe W (sd + k)) n) p <;> rfl
  · rintro i v ⟨hKv, hRv⟩
    refine ⟨v, ?_, hRv⟩
    show fX9_odds_77 (i + 1) 113 _ _ _ _ _ _ v = _
    rw [qX9_odds_77, e_if, if_pos (by rw [le_i (by omega) (by omega)]; exact Nat.le_refl _)]

/-! PLAN, SPREAD: the calls -/
theorem FC.st {s v : mS} (h : FC s v) (j : Nat) (x : Int32) : FC s (wI v 1 j x) := by
  obtain ⟨c1, c2, c3, c4, c5, c6⟩ := h
  refine ⟨fun b hb => ?_, c2, c3, c4, c5, c6⟩
  obtain ⟨q1, q2, q3⟩ := c1 b hb
  refine ⟨Eq.trans ?_ q1, q2, q3⟩
  funext i
  exact sI_wI_ne (Or.inl (by have := hb.1; omega))
theorem kf_VL {W : wW} (hw : wOk W) {n a : Nat} (h : VL W n 4095 a) : (kf W n = none → a = 1000000) ∧ ∀ m, kf W n = some m → a = m ∧ m ≤ 12 := by
  obtain ⟨h1, h2, h3⟩ := h
  have hR := wre_pos W hw
  have hD := wDe_le hw
  have hiff : ∀ c, wvO W n c 4095 ↔ n ≤ wak W 12 ∨ ∃ U, U < 2 ^ wcn W 12 ∧ wgF W U / 1024 = n - wak W 12 ∧ ca U ≤ c + (n - wak W 12) := fun c => vO_iff hR hD
  unfold kf
  by_cases hle : n ≤ wak W 12
  · rw [if_pos hle]
    refine ⟨fun h => (by cases h), fun m hm => ?_⟩
    cases hm
    have := h3 0 ((hiff 0).mpr (Or.inl hle))
    omega
  · rw [if_neg hle]
    cases hf : fw (wgF W) (2 ^ wcn W 12) (n - wak W 12) with
    | none =>
      refine ⟨fun _ => ?_, fun m hm => (by cases hm)⟩
      rcases Nat.lt_or_ge a 1000000 with hlt | hge
      · rcases (hiff a).mp (h2 hlt) with h | ⟨U, u1, u2, -⟩
        · exact absurd h hle
        · exact absurd u2 (fw_none _ _ _ hf U u1)
      · omega
    | some x =>
      refine ⟨fun h => (by cases h), fun m hm => ?_⟩
      have hm : x - (n - wak W 12) = m := by cases hm; rfl
      obtain ⟨⟨S, s1, s2, s3⟩, s4⟩ := fw_some _ _ _ _ hf
      have hx := fw_12 _ _ _ _ hf
      have h5 := h3 m ((hiff m).mpr (Or.inr ⟨S, s1, s2, by omega⟩))
      rcases (hiff a).mp (h2 (by omega)) with h | ⟨U, u1, u2, u3⟩
      · exact absurd h hle
      · have := s4 U u1 u2
        omega
theorem RP.pt {s s1 : mS} {D : dD} (h : RP s D) (hD : DOk D) (hF : FI pT s s1) : RP s1 D :=
  h.upd D.1 (dW D) (h.2.1.mv (hF.1 113 (by decide)) (by rw [hF.L])) rfl rfl hD.2.2.1 (h.1.mv hF.H hF.P (hF.1 118 (by decide))) (hF.1 114 (by decide)) (hF.1 115 (by decide)) (hF.1 117 (by decide)) (by rw [hF.L]) (fun i _ _ => by rw [hF.1 118 (by decide)])
theorem frpt {s s1 : mS} (hF : FI pT s s1) : FR rfA s s1 := (hF.mo (B := rfA) (fun b hb => by rcases hb with rfl | rfl <;> exact ⟨by decide, by decide⟩)).fr
theorem s_plan : Sim (fX8_plan 1) (fX9_plan 113) := by
  intro s t D hC hR hD
  have hS := hC.1
  have hT := hR.1.1
  have hR0 := hR.q0 hD
  have hT0 : RT (q0 t) := hR0.1.1
  have hD0 : DOk (dSt D 0) := dSt_ok hD (by decide)
  have h : CW s 4 (dW D) := hC.2.2.2.2.1
  have u : RX (q0 t) (dW D) := hR0.1
  have hw := h.wi
  have hpe : wPe (dW D) ≤ 8 := hw.2.2.2.2.2.2.2.1
  have han : wAn (dW D) ≤ wPe (dW D) := wAn_le (dW D) (wPe (dW D))
  have hde := wDe_le hw
  obtain ⟨t1, e1, e2, e3⟩ := x_serve u
  have hR1 := hR0.pt hD0 e2
  have u1 : RX t1 (dW D) := hR1.1
  have hT1 := u1.1
  have hF1 : FR rfA t t1 := (fr_q0 t).tr (frpt e2)
  have h9 : fX9_plan 113 t = bIf (nI (wAn (dW D)) = 0) (bCallV 9 113 (fX9_refuse 113 (8 : Int32)) (fun x5 => bRet x5)) (bGR 9 113 30 (fun x2 => bAI 11 x2 (((4096 : Int32) * nI (wAn (dW D))) + (4095 : Int32)) (fun x3 => bCallV 9 113 (fX9_isDry 113) (fun x4 => bIf (x4 = 0) (bIf (x3 < (1000000 : Int32)) (bRet x3) (fX9_plan_55 113)) (fX9_plan_55 113))))) t1 := by
    unfold fX9_plan
    rw [q0_b hT, e_callV hT0.k, x_call e1]
  have hrd : ∀ k, k < 12 → fX8_plan 1 s = some (mI, wI s 1 11 (nI k)) → fX9_plan 113 t = some (mI, wI t1 113 0 (nI k)) → ∃ (x : Int32) (s' t' : mS) (D' : dD), fX8_plan 1 s = some (x, s') ∧ fX9_plan 113 t = some (x, t') ∧ CP s' D' ∧ RP t' D' ∧ DOk D' ∧ FC s s' ∧ FR rfA t t' := fun k hk h1 h2 => ⟨mI, _, _, dSt D k, h1, h2, hC.st hD k, hR1.st hD0 k, dSt_ok hD hk, fc1 _ _, hF1.tr (fr113 0 _)⟩
  by_cases ha0 : wAn (dW D) = 0
  · refine hrd 8 (by decide) ?_ ?_
    · unfold fX8_plan
      rw [k_now hS, e_callV h.k, x_call (c_countAlive h), e_if, if_pos (by rw [ha0]; rfl), k_cv hS, li_8, x_call (k_none hS 8)]
      rfl
    · rw [h9, e_if, if_pos (by rw [ha0]; rfl), e_callV hT1.k, li_8, x_call (q_refuse hT1 8)]
      rfl
  · obtain ⟨v, f1, f2, f3, f4⟩ := c_weigh hC hD
    have hSv := f2.1
    have hkn := c_knotsFor hSv f4 (by omega) hde (Nat.le_refl (wAn (dW D)))
    obtain ⟨a, a1, a2⟩ := e3 (wAn (dW D)) (Nat.le_refl _) 4095 (by decide)
    have ha6 := a2.1
    obtain ⟨k1, k2⟩ := kf_VL hw a2
    have h8 : fX8_plan 1 s = bIf ((if wBo (dW D) < wDe (dW D) then mI else oI (kf (dW D) (wAn (dW D)))) = (-1 : Int32)) (bCallV 8 1 (fX8_none 1 (9 : Int32)) (fun x8 => bRet x8)) (bCallV 8 1 (fX8_tell 1 (if wBo (dW D) < wDe (dW D) then mI else oI (kf (dW D) (wAn (dW D))))) (fun x7 => bRet x7)) v := by
      unfold fX8_plan
      rw [k_now hS, e_callV h.k, x_call (c_countAlive h), e_if, if_neg (by rw [li_0, eq_i (by omega) (by omega)]; exact ha0), k_pl9 hS, k_now hS, e_callV (CS.k93 hS), x_call f1, k_pl9 hSv, e_callV (CS.k93 hSv), x_call hkn]
    have h9' : fX9_plan 113 t = bIf (nI (decide (wBo (dW D) < wDe (dW D))).toNat = 0) (bIf (nI a < (1000000 : Int32)) (bRet (nI a)) (fX9_plan_55 113)) (fX9_plan_55 113) t1 := by
      rw [h9, e_if, if_neg (by rw [li_0, eq_i (by omega) (by omega)]; exact ha0), rt_30 hT1, li_4096, nI_mul, li_4095, nI_add, xAIe hT1.h123 (by omega) (by decide) a1, e_callV hT1.k, x_call (x_isDry u1)]
    have hno : (fX8_plan 1 s = some (mI, wI v 1 11 (nI 9)) ∧ fX9_plan 113 t = some (mI, wI t1 113 0 (nI 9))) → ∃ (x : Int32) (s' t' : mS) (D' : dD), fX8_plan 1 s = some (x, s') ∧ fX9_plan 113 t = some (x, t') ∧ CP s' D' ∧ RP t' D' ∧ DOk D' ∧ FC s s' ∧ FR rfA t t' := fun ⟨h1, h2⟩ => ⟨mI, _, _, dSt D 9, h1, h2, f2.st hD 9, hR1.st hD0 9, dSt_ok hD (by decide), f3.st _ _, hF1.tr (fr113 0 _)⟩
    have h55 : fX9_plan_55 113 t1 = some (mI, wI t1 113 0 (nI 9)) := by
      unfold fX9_plan_55
      rw [e_callV hT1.k, li_9, x_call (q_refuse hT1 9)]
      rfl
    by_cases hd : wBo (dW D) < wDe (dW D)
    · refine hno ⟨?_, ?_⟩
      · rw [h8, if_pos hd, e_if, if_pos (show mI = (-1 : Int32) from rfl), k_cv hSv, li_9, x_call (k_none hSv 9)]
        rfl
      · rw [h9', decide_eq_true hd, e_if, if_neg (by decide), h55]
    · rw [if_neg hd] at h8
      rw [decide_eq_false hd] at h9'
      cases hk : kf (dW D) (wAn (dW D)) with
      | none =>
        have ha := k1 hk
        refine hno ⟨?_, ?_⟩
        · rw [h8, hk, oI_n, e_if, if_pos (show mI = (-1 : Int32) from rfl), k_cv hSv, li_9, x_call (k_none hSv 9)]
          rfl
        · rw [h9', e_if, if_pos (by decide), e_if, if_neg (by rw [ha, li_1000000, lt_i (by decide) (by decide)]; omega), h55]
      | some m =>
        obtain ⟨ha, hm⟩ := k2 m hk
        subst ha
        refine ⟨nI a, wI v 1 11 (nI 0), t1, dSt D 0, ?_, ?_, f2.st hD 0, hR1, dSt_ok hD (by decide), f3.st _ _, hF1⟩
        · rw [h8, hk, oI_s, e_if, if_neg (by rw [li_1, ne_m1, m1_i (by omega)]; exact id), k_cv hSv, x_call (k_tell hSv _)]
          rfl
        · rw [h9', e_if, if_pos (by decide), e_if, if_pos (by rw [li_1000000, lt_i (by omega) (by decide)]; omega)]
          rfl
def okd (W : wW) (K d : Nat) : Bool := match kf W d with
  | some m => decide (m ≤ K)
  | none => false
def spd (W : wW) (K : Nat) : Nat → Nat
  | 0 => 0
  | d + 1 => if okd W K (d + 1) then d + 1 else spd W K d
theorem okd_s {W : wW} {K d m : Nat} (h : kf W d = some m) : okd W K d = decide (m ≤ K) := by unfold okd; rw [h]
theorem okd_n {W : wW} {K d : Nat} (h : kf W d = none) : okd W K d = false := by unfold okd; rw [h]
theorem spd_s (W : wW) (K d : Nat) : spd W K (d + 1) = if okd W K (d + 1) then d + 1 else spd W K d := rfl
theorem c_spd {v : mS} {W : wW} (hS : CS v) (h : PL v W) (hn8 : wAn W ≤ 8) (hde : wDe W ≤ 999) {K : Nat} (hK : K < 12) : ∀ n d, d < n → d ≤ wAn W → fX8_spread_35 n 1 (nI K) (nI d) v = some (nI (if wBo W < wDe W then 0 else spd W K d), wI v 1 11 (nI 0))
  | 0, d, h1, _ => by omega
  | n + 1, 0, h1, h2 => by
    rw [qX8_spread_35, e_if, if_pos (by decide)]
    unfold fX8_spread_70
    rw [k_cv hS, li_0, x_call (k_tell hS _), e_ret]
    split <;> rfl
  | n + 1, d + 1, h1, h2 => by
    have ih := c_spd hS h hn8 hde hK n d (by omega) (by omega)
    have hkn := c_knotsFor hS h hn8 hde h2
    have e2 : nI (d + 1) + (-1 : Int32) = nI d := by rw [li_1, ne_m1, add_m1 (by omega)]; rfl
    rw [qX8_spread_35, e_if, if_neg (by rw [li_0, le_i (by omega) (by omega)]; omega), k_pl9 hS, e_callV (CS.k93 hS), x_call hkn, e2]
    by_cases hd : wBo W < wDe W
    · rw [if_pos hd, if_pos hd, e_if, if_pos (show mI = (-1 : Int32) from rfl), ih, if_pos hd]
    · rw [if_neg hd] at ih ⊢
      rw [if_neg hd, spd_s]
      cases hk : kf W (d + 1) with
      | none =>
        rw [oI_n, e_if, if_pos (show mI = (-1 : Int32) from rfl), ih, okd_n hk]
        rfl
      | some m =>
        have hm : m ≤ 12 := by
          unfold kf at hk
          by_cases hle : d + 1 ≤ wak W 12
          · rw [if_pos hle] at hk
            cases hk
            omega
          · rw [if_neg hle] at hk
            cases hf : fw (wgF W) (2 ^ wcn W 12) (d + 1 - wak W 12) with
            | none => rw [hf] at hk; cases hk
            | some x =>
              rw [hf] at hk
              have hx := fw_12 _ _ _ _ hf
              have : x - (d + 1 - wak W 12) = m := by cases hk; rfl
              omega
        rw [oI_s, e_if, if_neg (by rw [li_1, ne_m1, m1_i (by omega)]; exact id), e_if, okd_s hk]
        by_cases hmK : m ≤ K
        · rw [if_neg (by rw [lt_i (by omega) (by omega)]; omega), decide_eq_true hmK, if_pos rfl]
          unfold fX8_spread_58
          rw [k_cv hS, x_call (k_tell hS _)]
          rfl
        · rw [if_pos (by rw [lt_i (by omega) (by omega)]; omega), decide_eq_false hmK, ih]
          rfl
theorem x_spd {v : mS} {W : wW} (hw : wOk W) (hT : RT v) {K : Nat} (hK : K < 12) (han : wAn W ≤ 8) (hv : ∀ q, q ≤ wAn W → vT W v q) : ∀ n d, d < n → d ≤ wAn W → fX9_spread_42 n 113 (nI K) (nI d) v = some (nI (spd W K d), v)
  | 0, d, h1, _ => by omega
  | n + 1, 0, h1, h2 => by
    obtain ⟨a, a1, a2⟩ := hv 0 h2 4095 (by decide)
    have ha := a2.2.2 0 trivial
    rw [qX9_spread_42, rt_30 hT, li_4096, nI_mul, li_4095, nI_add, xAIe hT.h123 (by omega) (by decide) a1, e_if, if_pos (by rw [le_i (by omega) (by omega)]; omega)]
    rfl
  | n + 1, d + 1, h1, h2 => by
    have ih := x_spd hw hT hK han hv n d (by omega) (by omega)
    obtain ⟨a, a1, a2⟩ := hv (d + 1) h2 4095 (by decide)
    have ha6 := a2.1
    obtain ⟨k1, k2⟩ := kf_VL hw a2
    have e2 : nI (d + 1) + (-1 : Int32) = nI d := by rw [li_1, ne_m1, add_m1 (by omega)]; rfl
    rw [qX9_spread_42, rt_30 hT, li_4096, nI_mul, li_4095, nI_add, xAIe hT.h123 (by omega) (by decide) a1, e_if, e2, spd_s]
    cases hk : kf W (d + 1) with
    | none =>
      have := k1 hk
      rw [if_neg (by rw [le_i (by omega) (by omega)]; omega), ih, okd_n hk]
      rfl
    | some m =>
      obtain ⟨ha, hm⟩ := k2 m hk
      rw [okd_s hk]
      by_cases hmK : m ≤ K
      · rw [if_pos (by rw [le_i (by omega) (by omega)]; omega), decide_eq_true hmK, if_pos rfl]
        rfl
      · rw [if_neg (by rw [le_i (by omega) (by omega)]; omega), decide_eq_false hmK, ih]
        rfl
theorem s_spread (x : Int32) : Sim (fX8_spread 1 x) (fX9_spread 113 x) := by
  intro s t D hC hR hD
  have hS := hC.1
  have hT := hR.1.1
  have hR0 := hR.q0 hD
  have hT0 : RT (q0 t) := hR0.1.1
  have hD0 : DOk (dSt D 0) := dSt_ok hD (by decide)
  have h : CW s 4 (dW D) := hC.2.2.2.2.1
  have u : RX (q0 t) (dW D) := hR0.1
  have hw := h.wi
  have hpe : wPe (dW D) ≤ 8 := hw.2.2.2.2.2.2.2.1
  have han : wAn (dW D) ≤ wPe (dW D) := wAn_le (dW D) (wPe (dW D))
  have hde := wDe_le hw
  have hno : fX8_spread 1 x s = some (mI, wI s 1 11 (nI 5)) → fX9_spread 113 x t = some (mI, wI (q0 t) 113 0 (nI 5)) → ∃ (x' : Int32) (s' t' : mS) (D' : dD), fX8_spread 1 x s = some (x', s') ∧ fX9_spread 113 x t = some (x', t') ∧ CP s' D' ∧ RP t' D' ∧ DOk D' ∧ FC s s' ∧ FR rfA t t' := fun h1 h2 => ⟨mI, _, _, dSt D 5, h1, h2, hC.st hD 5, hR0.st hD0 5, dSt_ok hD (by decide), fc1 _ _, (fr_q0 t).tr (fr113 0 _)⟩
  rcases arg x with hx | ⟨K, hK, rfl⟩
  · refine hno ?_ ?_
    · unfold fX8_spread fX8_spread_10
      rw [e_if, if_pos hx, k_cv hS, li_5, x_call (k_none hS 5)]
      rfl
    · unfold fX9_spread
      rw [q0_b hT]
      simp (disch := first | assumption | omega) only [li_0, li_1, li_2, li_3, li_4, li_5, li_6, li_7, li_8, li_9, li_10, li_11, li_12, li_13, li_14, li_15, li_16, li_17, li_20, li_24, li_25, li_29, li_31, li_32, li_33, li_37, li_40, li_41, li_48, li_49, li_50, li_56, li_57, li_59, li_60, li_61, li_62, li_63, li_70, li_73, li_85, li_97, li_98, li_99, li_100, li_101, li_102, li_103, li_104, li_105, li_107, li_108, li_109, li_110, li_111, li_112, li_114, li_115, li_116, li_117, li_118, li_119, li_121, li_122, li_140, li_193, li_200, li_240, li_255, li_289, li_290, li_300, li_302, li_314, li_326, li_860, li_880, li_900, li_999, li_1024, li_2801, li_3440, li_3441, li_3442, li_3443, li_3444, li_3447, li_3448, li_3449, li_3457, li_3465, li_3469, li_3473, li_3477, li_3501, li_3513, li_3525, li_3537, li_3633, li_3730, li_3742, li_3754, li_3766, li_4095, li_4096, li_4300, li_9011, li_9999, li_10000, li_36864, li_65536, li_1000000, ll_0, ll_1, ll_100, ll_11, ll_16, ll_20, ll_3, ll_32, ll_50, ll_8, ll_96, ll_99, ll_9999, ne_m1, e_if, e_ret, e_rz0, e_rz1, e_rzb, e_call, bCallX_eq, nI_add, nI_mul, nI_succ1, le_i, lt_i, eq_i, m1_i, m1_le, m1_lt, m1_ge, m1_eq, ite_true, ite_false, if_true, if_false, x_neg, e_callV hT0.k, q_refuse hT0]
  · by_cases hK12 : K < 12
    · obtain ⟨v, f1, f2, f3, f4⟩ := c_weigh hC hD
      have hSv := f2.1
      have hv4 : CW v 4 (dW D) := f2.2.2.2.2.1
      have h8 : fX8_spread 1 (nI K) s = some (nI (if wBo (dW D) < wDe (dW D) then 0 else spd (dW D) K (wAn (dW D))), wI v 1 11 (nI 0)) := by
        unfold fX8_spread
        rw [e_if, if_neg (by rw [li_0, lt_i (by omega) (by omega)]; omega), e_if, if_pos (by rw [li_12, lt_i (by omega) (by omega)]; exact hK12), k_pl9 hS, k_now hS, e_callV (CS.k93 hS), x_call f1, k_now hSv, e_callV hv4.k, x_call (c_countAlive hv4)]
        exact c_spd hSv f4 (by omega) hde hK12 fu _ (by unfold fu; omega) (Nat.le_refl _)
      have h9 : fX9_spread 113 (nI K) t = bIf (nI (decide (wBo (dW D) < wDe (dW D))).toNat = 0) (bCallV 9 113 (fX9_serve 113) (fun x3 => fX9_spread_42 fu 113 (nI K) x3)) (bRet (0 : Int32)) (q0 t) := by
        unfold fX9_spread
        have hi : fX9_isIn (Int32.toInt64 (nI K)) (0 : Int64) (11 : Int64) (q0 t) = some (nI 1, q0 t) := by
          rw [l_i (by omega), ll_0, ll_11, x_in (by omega) (by omega) (by omega), decide_eq_true (by omega)]
          rfl
        rw [q0_b hT, x_call hi, e_if, if_neg (by decide), e_callV hT0.k, x_call (x_isDry u)]
      by_cases hd : wBo (dW D) < wDe (dW D)
      · refine ⟨nI 0, wI v 1 11 (nI 0), q0 t, dSt D 0, ?_, ?_, f2.st hD 0, hR0, hD0, f3.st _ _, fr_q0 t⟩
        · rw [h8, if_pos hd]
        · rw [h9, decide_eq_true hd, e_if, if_neg (by decide)]
          rfl
      · obtain ⟨t1, e1, e2, e3⟩ := x_serve u
        have hR1 := hR0.pt hD0 e2
        have hT1 : RT t1 := hR1.1.1
        refine ⟨nI (spd (dW D) K (wAn (dW D))), wI v 1 11 (nI 0), t1, dSt D 0, ?_, ?_, f2.st hD 0, hR1, hD0, f3.st _ _, (fr_q0 t).tr (frpt e2)⟩
        · rw [h8, if_neg hd]
        · rw [h9, decide_eq_false hd, e_if, if_pos (by decide), e_callV hT0.k, x_call e1]
          exact x_spd hw hT1 hK12 (by omega) e3 fu _ (by unfold fu; omega) (Nat.le_refl _)
    · refine hno ?_ ?_
      · unfold fX8_spread fX8_spread_10
        rw [e_if, if_neg (by rw [li_0, lt_i (by omega) (by omega)]; omega), e_if, if_neg (by rw [li_12, lt_i (by omega) (by omega)]; exact hK12), k_cv hS, li_5, x_call (k_none hS 5)]
        rfl
      · unfold fX9_spread
        have hi : fX9_isIn (Int32.toInt64 (nI K)) (0 : Int64) (11 : Int64) (q0 t) = some (nI 0, q0 t) := by
          rw [l_i (by omega), ll_0, ll_11, x_in (by omega) (by omega) (by omega), decide_eq_false (by omega)]
          rfl
        rw [q0_b hT, x_call hi, e_if, if_pos (by decide), e_callV hT0.k, li_5, x_call (q_refuse hT0 5)]
        rfl

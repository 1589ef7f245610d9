/-! A NUMBER IS WRITTEN INTO A TRAY -/
def cutV (so : Nat) (v : Int64) : Int64 := if so = 0 then Int32.toInt64 ((Int32.toInt8 (Int64.toInt32 v)).toInt32) else if so = 1 then Int32.toInt64 ((Int32.toInt16 (Int64.toInt32 v)).toInt32) else if so = 2 then Int32.toInt64 (Int64.toInt32 v) else v
theorem x_cutV {so : Nat} (h : so ≤ 3) (v : Int64) (s : mS) : fX9_cut (nI so) v s = some (cutV so v, s) := by
  unfold fX9_cut cutV
  simp (disch := omega) only [li_0, li_1, li_2, li_3, li_4, li_5, li_6, li_7, li_8, li_9, li_10, li_11, li_12, li_13, li_14, li_15, li_16, li_17, li_20, li_24, li_25, li_29, li_31, li_32, li_33, li_37, li_40, li_41, li_48, li_49, li_50, li_56, li_57, li_59, li_60, li_61, li_62, li_63, li_70, li_73, li_85, li_97, li_98, li_99, li_100, li_101, li_102, li_103, li_104, li_105, li_107, li_108, li_109, li_110, li_111, li_112, li_114, li_115, li_116, li_117, li_118, li_119, li_121, li_122, li_140, li_193, li_200, li_240, li_255, li_289, li_290, li_300, li_302, li_314, li_326, li_860, li_880, li_900, li_999, li_1024, li_2801, li_3440, li_3441, li_3442, li_3443, li_3444, li_3447, li_3448, li_3449, li_3457, li_3465, li_3469, li_3473, li_3477, li_3501, li_3513, li_3525, li_3537, li_3633, li_3730, li_3742, li_3754, li_3766, li_4095, li_4096, li_4300, li_9011, li_9999, li_10000, li_36864, li_65536, li_1000000, ll_0, ll_1, ll_100, ll_11, ll_16, ll_20, ll_3, ll_32, ll_50, ll_8, ll_96, ll_99, ll_9999, ne_m1, e_if, e_ret, e_rz0, e_rz1, e_rzb, e_call, bCallX_eq, nI_add, nI_mul, nI_succ1, le_i, lt_i, eq_i, m1_i, m1_le, m1_lt, m1_ge, m1_eq, ite_true, ite_false, if_true, if_false]
  split
  · rfl
  · split
    · rfl
    · split <;> rfl
theorem t_put {s : mS} {a b so j : Nat} (v : Int64) (h : so ≤ 3) (hk : (sH s a).1 = 5) (hb : sP s a 0 = b) (hH : sH s b = (12, 60)) (hj : j < 60) (h1 : sI s a 1 = nI so) : fX5_put a (nI j) v s = some ((), wL s b j (cutV so v)) := by
  unfold fX5_put
  rw [xGIe hk h1]
  have hcase : so = 0 ∨ so = 1 ∨ so = 2 ∨ so = 3 := by omega
  rcases hcase with rfl | rfl | rfl | rfl
  · rw [bSw_in _ _ _ _ 0 0 _ (by simp) rfl rfl]
    dsimp only
    rw [xGR hk hb, xSL hH hj (by decide)]
    rfl
  · rw [bSw_in _ _ _ _ 0 1 _ (by simp) rfl rfl]
    dsimp only
    rw [xGR hk hb, xSL hH hj (by decide)]
    rfl
  · rw [bSw_in _ _ _ _ 0 2 _ (by simp) rfl rfl]
    dsimp only
    rw [xGR hk hb, xSL hH hj (by decide)]
    rfl
  · rw [bSw_no _ _ _ _ 0 (fun i hi => by
      have hi : i < 3 := hi
      intro e
      rw [eq_i (by decide) (by omega)] at e
      omega), xGR hk hb, xSL hH hj (by decide)]
    rfl
theorem s_write (x y : Int32) (v : Int64) : Sim (fX8_write 1 x y v) (fX9_write 113 x y v) := by
  intro s t D hC hR hD
  have hS := hC.1
  have hT := hR.1.1
  have hR1 := hR.th hD (nI 0)
  have hT1 : RT (wI t 113 1 (nI 0)) := hR1.1.1
  obtain ⟨st, hst, e1, e2, e3⟩ := place hC hR1 hD x y
  have hR2 := hR.qs hD st
  have hT2 := hR2.1.1
  have g0 : ∀ {α : Type} (f : Int32 → mM α), bGI 9 113 0 f (qs t st) = f (nI st) (qs t st) := fun f => xGIe hR2.1.1.k hR2.2.1.1
  have h9 : fX9_write 113 x y v t = bIf (nI st ≤ 0) (bGR 9 113 6 (fun x3 => bGR 9 113 4 (fun x4 => bAI 11 x4 x (fun x5 => bCall (fX9_cut x5 v) (fun x6 => bSL x3 (((60 : Int32) * x) + y) x6 (bRetZ (1 : Int32))))))) (bRetZ (0 : Int32)) (qs t st) := by
    unfold fX9_write
    rw [xPI hT.k, li_0, e_callV hT1.k, e_call, e2]
    show bPI 9 113 0 (nI st) _ (wI t 113 1 (nI 0)) = _
    rw [xPI hT1.k]
    exact g0 _
  by_cases h0 : st = 0
  · subst h0
    obtain ⟨k, j, len, k1, k2, k3, rfl, rfl⟩ := e3 rfl
    obtain ⟨c1, c2, c3, c4⟩ := hS.2.2.1 k k1
    have h60 := (hD.2.2.2 k).2 len k3
    have hso := (hD.2.2.2 k).1
    obtain ⟨a1, a2, a3⟩ := hC.2.2.2.1 k k1
    obtain ⟨b1, b2, b3⟩ := hR2.2.2.2.1 k k1
    have b1 : sI (qs t 0) 114 k = nI (dTr D k).1 := b1
    have hS1 : CS (wL s (99 + 2 * k) j (cutV (dTr D k).1 v)) := hS.l
    have hF : FR bB s (wI (wL s (99 + 2 * k) j (cutV (dTr D k).1 v)) 1 11 (nI 0)) := (FR.l (A := bB) j (Or.inr (Or.inr ⟨by omega, by omega⟩))).tr (FI.w (A := bB) 11 (nI 0) (Or.inl rfl)).fr
    have hCN : CN (wL s (99 + 2 * k) j (cutV (dTr D k).1 v)) D.1 := hC.2.1.mv rfl (by funext i; exact sL_ne (Or.inl (by omega)))
    refine ⟨nI 1, wI (wL s (99 + 2 * k) j (cutV (dTr D k).1 v)) 1 11 (nI 0), wL (qs t 0) 116 (60 * k + j) (cutV (dTr D k).1 v), dTw D 0 (up (dTr D) k ((dTr D k).1, some len, fun i => if i = j then cutV (dTr D k).1 v else (dTr D k).2.2 i)), ?_, ?_, ?_, ?_, hD.tw (by decide) hso h60, bB_c hF, (fr_qs t 0).tr (FR.l (A := rfA) _ ⟨by decide, by decide⟩)⟩
    · unfold fX8_write
      rw [k_cv hS, e_call, e1]
      show bIf (nI 0 = 0) _ _ s = _
      rw [e_if, if_pos (show nI 0 = (0 : Int32) from rfl), k_trays hS, xAR hS.2.1.1 k1 (by decide) c1, e_callV c2, e_call, t_put v hso c2 c3 c4 (by omega) a1]
      show bCallV 8 1 (fX8_accept 1) _ (wL s (99 + 2 * k) j (cutV (dTr D k).1 v)) = _
      rw [k_cv hS1, e_call, k_accept hS1]
      rfl
    · rw [h9, e_if, if_pos (by decide), xGR hT2.k hT2.2.2.2.1, xGR hT2.k hT2.2.1, xAIe hT2.2.2.2.2.2.2.2.2.2.2.2.2.1 k1 (by decide) b1, e_call, x_cutV hso]
      show bSL 116 ((60 : Int32) * nI k + nI j) _ _ (qs t 0) = _
      simp only [li_0, li_1, li_2, li_3, li_4, li_5, li_6, li_7, li_8, li_9, li_10, li_11, li_12, li_13, li_14, li_15, li_16, li_17, li_20, li_24, li_25, li_29, li_31, li_32, li_33, li_37, li_40, li_41, li_48, li_49, li_50, li_56, li_57, li_59, li_60, li_61, li_62, li_63, li_70, li_73, li_85, li_97, li_98, li_99, li_100, li_101, li_102, li_103, li_104, li_105, li_107, li_108, li_109, li_110, li_111, li_112, li_114, li_115, li_116, li_117, li_118, li_119, li_121, li_122, li_140, li_193, li_200, li_240, li_255, li_289, li_290, li_300, li_302, li_314, li_326, li_860, li_880, li_900, li_999, li_1024, li_2801, li_3440, li_3441, li_3442, li_3443, li_3444, li_3447, li_3448, li_3449, li_3457, li_3465, li_3469, li_3473, li_3477, li_3501, li_3513, li_3525, li_3537, li_3633, li_3730, li_3742, li_3754, li_3766, li_4095, li_4096, li_4300, li_9011, li_9999, li_10000, li_36864, li_65536, li_1000000, ll_0, ll_1, ll_100, ll_11, ll_16, ll_20, ll_3, ll_32, ll_50, ll_8, ll_96, ll_99, ll_9999, ne_m1, e_if, e_ret, e_rz0, e_rz1, e_rzb, e_call, bCallX_eq, nI_add, nI_mul, nI_succ1, le_i, lt_i, eq_i, m1_i, m1_le, m1_lt, m1_ge, m1_eq, ite_true, ite_false, if_true, if_false]
      rw [xSL hT2.2.2.2.2.2.2.2.2.2.2.2.2.2.2.1 (by omega) (by decide)]
      rfl
    · refine hC.upB (0, D.1.2) (dTp D) _ hF rfl (hCN.st 0) rfl hD.2.2.1 (fun i hi => by rw [sI_wI_ne (Or.inl (by decide))]; exact hC.2.2.1 i hi) ?_
      refine hC.2.2.2.1.up (fun q hq hqk => ⟨?_, ?_⟩) ?_ ?_ (fun i hi => ?_)
      · funext i; rw [sI_wI_ne (Or.inl (by omega))]; rfl
      · funext i; rw [sL_wI, sL_ne (Or.inl (by omega))]
      · rw [sI_wI_ne (Or.inl (by omega))]; exact a1
      · rw [sI_wI_ne (Or.inl (by omega))]
        have a2' := a2
        rw [k3] at a2'
        exact a2'
      · rw [sL_wI]
        by_cases hij : i = j
        · rw [hij, sL_eq, if_pos rfl]
        · rw [sL_ne (Or.inr hij), if_neg hij]; exact a3 len k3 i hi
    · refine hR2.upB (0, D.1.2) (dTp D) _ rfl rfl rfl (hR2.2.1.mv rfl (by funext i; exact sL_ne (Or.inl (by decide)))) rfl hR2.2.2.1 ?_
      refine hR2.2.2.2.1.up (fun q l hl => (hD.2.2.2 q).2 l hl) (fun q hq hqk => ⟨rfl, rfl, fun i hi => sL_ne (Or.inr (by omega))⟩) b1 ?_ (fun i hi => ?_)
      · have b2' := b2
        rw [show (dTr (dSt D 0) k).2.1 = some len from k3] at b2'
        exact b2'
      · by_cases hij : i = j
        · rw [hij, sL_eq, if_pos rfl]
        · rw [sL_ne (Or.inr (by omega)), if_neg hij]; exact b3 len k3 i hi
  · refine ⟨nI 0, wI s 1 11 (nI st), qs t st, dSt D st, ?_, ?_, hC.st hD st, hR2, dSt_ok hD hst, fc1 _ _, fr_qs t st⟩
    · unfold fX8_write
      simp (disch := omega) only [k_now hS, k_cv hS, k_tell hS, k_none hS, k_refuse hS, k_accept hS, k_tellIf0 hS, k_tellIf1 hS, n10, li_0, li_1, li_2, li_3, li_4, li_5, li_6, li_7, li_8, li_9, li_10, li_11, li_12, li_13, li_14, li_15, li_16, li_17, li_20, li_24, li_25, li_29, li_31, li_32, li_33, li_37, li_40, li_41, li_48, li_49, li_50, li_56, li_57, li_59, li_60, li_61, li_62, li_63, li_70, li_73, li_85, li_97, li_98, li_99, li_100, li_101, li_102, li_103, li_104, li_105, li_107, li_108, li_109, li_110, li_111, li_112, li_114, li_115, li_116, li_117, li_118, li_119, li_121, li_122, li_140, li_193, li_200, li_240, li_255, li_289, li_290, li_300, li_302, li_314, li_326, li_860, li_880, li_900, li_999, li_1024, li_2801, li_3440, li_3441, li_3442, li_3443, li_3444, li_3447, li_3448, li_3449, li_3457, li_3465, li_3469, li_3473, li_3477, li_3501, li_3513, li_3525, li_3537, li_3633, li_3730, li_3742, li_3754, li_3766, li_4095, li_4096, li_4300, li_9011, li_9999, li_10000, li_36864, li_65536, li_1000000, ll_0, ll_1, ll_100, ll_11, ll_16, ll_20, ll_3, ll_32, ll_50, ll_8, ll_96, ll_99, ll_9999, ne_m1, e_if, e_ret, e_rz0, e_rz1, e_rzb, e_call, bCallX_eq, nI_add, nI_mul, nI_succ1, le_i, lt_i, eq_i, m1_i, m1_le, m1_lt, m1_ge, m1_eq, ite_true, ite_false, if_true, if_false, e1, h0]
    · rw [h9, e_if, if_neg (by rw [li_0, le_i (by omega) (by omega)]; omega)]
      rfl

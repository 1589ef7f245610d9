/-! POURED: the call -/
theorem s_pour (x y z w v : Int32) : Sim (fX8_pour 1 x y z w v) (fX9_pour 113 x y z w v) := by
  intro s t D hC hR hD
  have hS := hC.1
  have hR0 := hR.q0 hD
  have hT0 : RT (q0 t) := hR0.1.1
  have hD0 : DOk (dSt D 0) := dSt_ok hD (by decide)
  obtain ⟨st, hst, e1, e2, e3⟩ := pourSt hC hR hD x y z w v
  by_cases h0 : st = 0
  · subst h0
    obtain ⟨a, i, b, j, m, la, lb, ha, hb, hma, hmb, hso, h1, h2, rfl, rfl, rfl, rfl, rfl, h9⟩ := e3 rfl
    have hA60 := (hD.2.2.2 a).2 la hma
    have hB60 := (hD.2.2.2 b).2 lb hmb
    obtain ⟨c1, c2, c3, c4⟩ := hS.2.2.1 a ha
    obtain ⟨d1, d2, d3⟩ := hC.2.2.2.1 a ha
    obtain ⟨r1, r2, r3⟩ := hR0.2.2.2.1 a ha
    obtain ⟨C1, C2, C3, C4⟩ := hS.2.2.1 b hb
    obtain ⟨D1, D2, D3⟩ := hC.2.2.2.1 b hb
    obtain ⟨R1, R2, R3⟩ := hR0.2.2.2.1 b hb
    have hp : ∃ t1, fX9_pour_158 fu 113 (nI a) (nI i) (nI b) (nI j) (nI m) (nI (if j ≤ i then 0 else 1)) (nI 0) (q0 t) = some (nI 1, t1) ∧ Poured (q0 t) t1 (60 * a + i) (60 * b + j) m := by
      by_cases hji : j ≤ i
      · rw [if_pos hji]
        exact l_pour0 hT0.2.2.2.2.2.2.2.2.2.2.2.2.2.2.1 hT0.k hT0.2.2.2.1 ha hb (by omega) (by omega) (Or.inr hji)
      · rw [if_neg hji]
        exact l_pour1 hT0.2.2.2.2.2.2.2.2.2.2.2.2.2.2.1 hT0.k hT0.2.2.2.1 ha hb (by omega) (by omega) (Or.inr (by omega))
    obtain ⟨t1, f1, f2, f3, f4⟩ := hp
    have hFL : FL (99 + 2 * b) s (cpL s (99 + 2 * a) i (99 + 2 * b) j m) := FL.cp
    have hS1 : CS (cpL s (99 + 2 * a) i (99 + 2 * b) j m) := hS.mv (fun _ _ => rfl) (fun _ _ _ _ _ _ _ => rfl)
    have hF : FR bB s (wI (cpL s (99 + 2 * a) i (99 + 2 * b) j m) 1 11 (nI 0)) := (hFL.fr (Or.inr (Or.inr ⟨by omega, by omega⟩))).tr (FI.w (A := bB) 11 (nI 0) (Or.inl rfl)).fr
    have hCN : CN (cpL s (99 + 2 * a) i (99 + 2 * b) j m) D.1 := hC.2.1.mv rfl (hFL.2.2.2.2.2 1 (by omega))
    refine ⟨nI 1, wI (cpL s (99 + 2 * a) i (99 + 2 * b) j m) 1 11 (nI 0), t1, dTw D 0 (up (dTr D) b ((dTr D b).1, some lb, fun o => if j ≤ o ∧ o < j + m then (dTr D a).2.2 (i + (o - j)) else (dTr D b).2.2 o)), ?_, ?_, ?_, ?_, hD.tw (by decide) (hD.2.2.2 b).1 hB60, bB_c hF, (fr_q0 t).tr (f2.fr ⟨by decide, by decide⟩)⟩
    · unfold fX8_pour
      rw [k_cv hS, e_call, e1]
      show bIf (nI 0 = 0) _ _ s = _
      rw [e_if, if_pos (show nI 0 = (0 : Int32) from rfl), k_trays hS, xAR hS.2.1.1 ha (by decide) c1, xGR c2 c3, k_trays hS, xAR hS.2.1.1 hb (by decide) C1, xGR C2 C3, x_cpL c4 C4 (by omega) (by omega), k_cv hS1, e_call, k_accept hS1]
      rfl
    · rw [h9]
      exact f1
    · refine hC.upB (0, D.1.2) (dTp D) _ hF rfl (hCN.st 0) rfl hD.2.2.1 (fun q hq => by rw [sI_wI_ne (Or.inl (by decide))]; exact hC.2.2.1 q hq) ?_
      refine hC.2.2.2.1.up (fun q hq hqk => ⟨?_, ?_⟩) ?_ ?_ (fun o ho => ?_)
      · funext n; rw [sI_wI_ne (Or.inl (by omega))]; rfl
      · rw [sL_wI]; exact hFL.2.2.2.2.2 _ (by omega)
      · rw [sI_wI_ne (Or.inl (by omega))]; exact D1
      · rw [sI_wI_ne (Or.inl (by omega))]
        rw [hmb] at D2
        exact D2
      · rw [sL_wI]
        by_cases hr : j ≤ o ∧ o < j + m
        · rw [if_pos hr]
          have e := cpL_in (s := s) (a0 := 99 + 2 * a) (i := i) (a := 99 + 2 * b) (j := j) (m := m) (o := o - j) (by omega)
          rw [show j + (o - j) = o by omega] at e
          rw [e]
          exact d3 la hma _ (by omega)
        · rw [if_neg hr, cpL_out hr]
          exact D3 lb hmb o ho
    · refine hR0.upB (0, D.1.2) (dTp D) _ f2.2.2.1 f2.2.1 (by rw [f2.1]) (hR0.2.1.mv (by rw [f2.1]) (f2.2.2.2.2.2 113 (by decide))) rfl (fun q hq => by rw [f2.1]; exact hR0.2.2.1 q hq) ?_
      refine hR0.2.2.2.1.up (fun q l hl => (hD.2.2.2 q).2 l hl) (fun q hq hqk => ⟨by rw [f2.1], by rw [f2.1], fun n hn => f4 _ (by omega)⟩) (by rw [f2.1]; exact R1) ?_ (fun o ho => ?_)
      · rw [f2.1]
        rw [show (dTr (dSt D 0) b).2.1 = some lb from hmb] at R2
        exact R2
      · by_cases hr : j ≤ o ∧ o < j + m
        · rw [if_pos hr]
          have e := f3 (o - j) (by omega)
          rw [show 60 * b + j + (o - j) = 60 * b + o by omega] at e
          rw [e, show 60 * a + i + (o - j) = 60 * a + (i + (o - j)) by omega]
          exact r3 la hma _ (by omega)
        · rw [if_neg hr, f4 _ (by omega)]
          exact R3 lb hmb o ho
  · refine ⟨nI 0, wI s 1 11 (nI st), wI (q0 t) 113 0 (nI st), dSt D st, ?_, e2 h0, hC.st hD st, hR0.st hD0 st, dSt_ok hD hst, fc1 _ _, (fr_q0 t).tr (fr113 0 _)⟩
    unfold fX8_pour
    simp (disch := omega) only [k_now hS, k_cv hS, k_tell hS, k_none hS, k_refuse hS, k_accept hS, k_tellIf0 hS, k_tellIf1 hS, n10, li_0, li_1, li_2, li_3, li_4, li_5, li_6, li_7, li_8, li_9, li_10, li_11, li_12, li_13, li_14, li_15, li_16, li_17, li_20, li_24, li_25, li_29, li_31, li_32, li_33, li_37, li_40, li_41, li_48, li_49, li_50, li_56, li_57, li_59, li_60, li_61, li_62, li_63, li_70, li_73, li_85, li_97, li_98, li_99, li_100, li_101, li_102, li_103, li_104, li_105, li_107, li_108, li_109, li_110, li_111, li_112, li_114, li_115, li_116, li_117, li_118, li_119, li_121, li_122, li_140, li_193, li_200, li_240, li_255, li_289, li_290, li_300, li_302, li_314, li_326, li_860, li_880, li_900, li_999, li_1024, li_2801, li_3440, li_3441, li_3442, li_3443, li_3444, li_3447, li_3448, li_3449, li_3457, li_3465, li_3469, li_3473, li_3477, li_3501, li_3513, li_3525, li_3537, li_3633, li_3730, li_3742, li_3754, li_3766, li_4095, li_4096, li_4300, li_9011, li_9999, li_10000, li_36864, li_65536, li_1000000, ll_0, ll_1, ll_100, ll_11, ll_16, ll_20, ll_3, ll_32, ll_50, ll_8, ll_96, ll_99, ll_9999, ne_m1, e_if, e_ret, e_rz0, e_rz1, e_rzb, e_call, bCallX_eq, nI_add, nI_mul, nI_succ1, le_i, lt_i, eq_i, m1_i, m1_le, m1_lt, m1_ge, m1_eq, ite_true, ite_false, if_true, if_false, e1, h0]

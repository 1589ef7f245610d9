/-! WAITING, LEAST WAITING: the calls -/
theorem CW.q97 {s v : mS} {W : wW} (h : CW s 4 W) (hF : FI (fun b => b = 97) s v) : CW v 4 W := h.mv (fun _ _ => by rw [hF.H]) (fun b hb => ⟨hF.1 b (by have := hb.1; have := hb.2; show ¬ b = 97; omega), by rw [hF.P]⟩) (fun h0 => by
  have h1 : 124 < sP s 4 16 := by
    rcases h.2.2.2 with hl | hl
    · exact absurd hl.1 h0
    · exact hl.1
  exact ⟨by rw [hF.H], by rw [hF.H], hF.1 _ (by show ¬ _ = 97; omega), hF.1 _ (by show ¬ _ = 97; omega), by rw [hF.P]⟩)
theorem CP.q97 {s s1 : mS} {D : dD} (h : CP s D) (hD : DOk D) (hF : FI (fun b => b = 97) s s1) : CP s1 D :=
  h.upd D.1 (dW D) (A := fun b => b = 97) hF.fr (fun b hb => Or.inr (Or.inr (Or.inl ⟨by omega, by omega⟩))) (fun b j _ _ _ => by rw [hF.P]) (by rw [hF.P]) (h.2.1.mv (hF.1 1 (by decide)) (by rw [hF.L])) rfl hD.2.2.1 rfl (CW.q97 h.2.2.2.2.1 hF) (h.2.2.2.2.2.1.mv hF.2)
theorem RP.q124 {s s1 : mS} {D : dD} (h : RP s D) (hD : DOk D) (hF : FI (fun b => b = 124) s s1) : RP s1 D :=
  h.upd D.1 (dW D) (h.2.1.mv (hF.1 113 (by decide)) (by rw [hF.L])) rfl rfl hD.2.2.1 (h.1.mv hF.H hF.P (hF.1 118 (by decide))) (hF.1 114 (by decide)) (hF.1 115 (by decide)) (hF.1 117 (by decide)) (by rw [hF.L]) (fun i _ _ => by rw [hF.1 118 (by decide)])
theorem fc97 {s s1 : mS} (hF : FI (fun b => b = 97) s s1) (k : Nat) : FC s (wI s1 1 11 (nI k)) :=
  ((hF.mo (B := fun b => b = 1 ∨ b = 97) (fun _ h => Or.inr h)).tr (FI.w _ _ (Or.inl rfl))).fr.c fun b hb hr => by
    have h1 : 113 ≤ b := hr.1
    rcases hb with hb | hb <;> omega
theorem fr124 {s s1 : mS} (hF : FI (fun b => b = 124) s s1) : FR rfA s s1 := (hF.mo (B := rfA) (fun b hb => by subst hb; exact ⟨by decide, by decide⟩)).fr
theorem s_waiting (x y : Int32) : Sim (fX8_waiting 1 x y) (fX9_waiting 113 x y) := by
  intro s t D hC hR hD
  have hS := hC.1
  have hT := hR.1.1
  have hR1 := hR.th hD (nI 0)
  have hT1 : RT (wI t 113 1 (nI 0)) := hR1.1.1
  obtain ⟨st, s1, t1, hst, e1, e2, e3, e4, e5⟩ := queue hC hR1 hD x y
  have hS1 := hS.fi e2
  have hR2 := hR1.q124 hD e4
  have hT2 : RT t1 := hR2.1.1
  have hR3 := hR2.st hD st
  have hT3 : RT (wI t1 113 0 (nI st)) := hR3.1.1
  have hF : FR rfA t (wI t1 113 0 (nI st)) := ((fr113 1 _).tr (fr124 e4)).tr (fr113 0 _)
  have h9 : fX9_waiting 113 x y t = bIf (nI st ≤ 0) (bCallV 9 113 (fX9_waits 113 y) (fun x3 => bRet x3)) (bRet (-1 : Int32)) (wI t1 113 0 (nI st)) := by
    unfold fX9_waiting
    rw [xPI hT.k, li_0, e_callV hT1.k, x_call e3, xPI hT2.k, xGIe hT3.k (sI_wI_eq _ _ _ _)]
  by_cases h0 : st = 0
  · subst h0
    obtain ⟨m, m1, hm1, rfl, m2⟩ := e5 rfl
    refine ⟨(wt (sI s1 97) m).2, wI s1 1 11 (nI 0), wI t1 113 0 (nI 0), dSt D 0, ?_, ?_, (hC.q97 hD e2).st hD 0, hR3, dSt_ok hD hst, fc97 e2 0, hF⟩
    · unfold fX8_waiting
      rw [k_cv hS, x_call e1, e_if, if_pos (show nI 0 = (0 : Int32) from rfl), k_cv hS1, x_call (c_wait hS1 m1), k_cv hS1, x_call (k_tell hS1 _)]
      rfl
    · rw [h9, e_if, if_pos (by decide), e_callV hT3.k, x_call (x_wait hT3 m1)]
      rw [show sI (wI t1 113 0 (nI 0)) 124 = sI t1 124 from sI_113 t1 0 _ (by decide), wt_c m m2]
      rfl
  · refine ⟨mI, wI s1 1 11 (nI st), wI t1 113 0 (nI st), dSt D st, ?_, ?_, (hC.q97 hD e2).st hD st, hR3, dSt_ok hD hst, fc97 e2 st, hF⟩
    · unfold fX8_waiting
      rw [k_cv hS, x_call e1, e_if, if_neg (by rw [li_0, eq_i (by omega) (by omega)]; exact h0), k_cv hS1, x_call (k_none hS1 _)]
      rfl
    · rw [h9, e_if, if_neg (by rw [li_0, le_i (by omega) (by omega)]; omega)]
      rfl
theorem s_leastWaiting (x y : Int32) : Sim (fX8_leastWaiting 1 x y) (fX9_leastWaiting 113 x y) := by
  intro s t D hC hR hD
  have hS := hC.1
  have hT := hR.1.1
  have hR1 := hR.th hD (nI 0)
  have hT1 : RT (wI t 113 1 (nI 0)) := hR1.1.1
  obtain ⟨st, s1, t1, hst, e1, e2, e3, e4, e5⟩ := queue hC hR1 hD x y
  have hS1 := hS.fi e2
  have hR2 := hR1.q124 hD e4
  have hT2 : RT t1 := hR2.1.1
  have hR3 := hR2.st hD st
  have hT3 : RT (wI t1 113 0 (nI st)) := hR3.1.1
  have hF : FR rfA t (wI t1 113 0 (nI st)) := ((fr113 1 _).tr (fr124 e4)).tr (fr113 0 _)
  have h9 : fX9_leastWaiting 113 x y t = bIf (nI st ≤ 0) (fX9_leastWaiting_26 fu 113 y (1 : Int32)) (bRet (-1 : Int32)) (wI t1 113 0 (nI st)) := by
    unfold fX9_leastWaiting
    rw [xPI hT.k, li_0, e_callV hT1.k, x_call e3, xPI hT2.k, xGIe hT3.k (sI_wI_eq _ _ _ _)]
  by_cases h0 : st = 0
  · subst h0
    obtain ⟨m, m1, hm1, rfl, m2⟩ := e5 rfl
    obtain ⟨s2, f1, f2, f3⟩ := c_sort hS1 m1 hm1
    obtain ⟨t2, g1, g2, g3⟩ := x_sort hT3 m1 hm1
    have hS2 := hS1.fi f2
    have hT4 := hT3.mv g2.2
    have hD0 := dSt_ok hD (show 0 < 12 by decide)
    refine ⟨(wt (sI s2 97) m).2, wI s2 1 11 (nI 0), t2, dSt D 0, ?_, ?_, (hC.q97 hD (e2.tr f2)).st hD 0, hR3.q124 hD0 g2, dSt_ok hD hst, fc97 (e2.tr f2) 0, hF.tr (fr124 g2)⟩
    · unfold fX8_leastWaiting
      rw [k_cv hS, x_call e1, e_if, if_pos (show nI 0 = (0 : Int32) from rfl), k_cv hS1, x_call f1, k_cv hS2, x_call (c_wait hS2 m1), k_cv hS2, x_call (k_tell hS2 _)]
      rfl
    · rw [h9, e_if, if_pos (by decide), li_1, g1]
      unfold fX9_leastWaiting_106
      rw [e_callV hT4.k, x_call (x_wait hT4 m1), e_ret, g3, f3, show sI (wI t1 113 0 (nI 0)) 124 = sI t1 124 from sI_113 t1 0 _ (by decide), wt_c m (srt_c m2 m (Nat.le_refl _))]
  · refine ⟨mI, wI s1 1 11 (nI st), wI t1 113 0 (nI st), dSt D st, ?_, ?_, (hC.q97 hD e2).st hD st, hR3, dSt_ok hD hst, fc97 e2 st, hF⟩
    · unfold fX8_leastWaiting
      rw [k_cv hS, x_call e1, e_if, if_neg (by rw [li_0, eq_i (by omega) (by omega)]; exact h0), k_cv hS1, x_call (k_none hS1 _)]
      rfl
    · rw [h9, e_if, if_neg (by rw [li_0, le_i (by omega) (by omega)]; omega)]
      rfl

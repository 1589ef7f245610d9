/-! THE CALL WELL, BOTH SIDES -/
theorem isB_xb {x : Int32} (h : isB x) : x = xb x.toInt8.toBitVec.toNat := by
  have e : Int8.ofNat x.toInt8.toBitVec.toNat = x.toInt8 := by
    apply Int8.toBitVec_inj.mp
    apply BitVec.eq_of_toNat_eq
    show (BitVec.ofNat 8 _).toNat = _
    rw [BitVec.toNat_ofNat]
    exact Nat.mod_eq_of_lt x.toInt8.toBitVec.isLt
  unfold xb
  rw [e]
  exact h
theorem s_well (x : Int32) : Sim (fX8_well 1 x) (fX9_well 113 x) := by
  intro s t D hC hR hD
  have hS := hC.1
  have hRT := hR.1.1
  have hTl := hD.2.1.1
  have hm3 := hD.2.2.1
  have c2 : sI s 1 2 = nI (nTl (dNn D)) := hC.2.1.2.2.2.2.2.1
  have r8 : sI t 113 8 = nI (nTl (dNn D)) := hR.2.1.2.2.2.2.2.1
  have hTq : RT (q0 t) := (hRT.w).w
  have r8q : sI (q0 t) 113 8 = nI (nTl (dNn D)) := by
    unfold q0
    rw [sI_wI_ne (Or.inr (by decide)), sI_wI_ne (Or.inr (by decide))]; exact r8
  have h12 : fX8_well_12 1 s = some (mI, wI s 1 11 (nI 5)) := by
    unfold fX8_well_12
    rw [e_callV hS.1.1, li_5, x_call (k_none hS 5)]
    rfl
  have h17 : fX9_opens_17 113 (q0 t) = some (nI 0, wI (q0 t) 113 0 (nI 5)) := by
    unfold fX9_opens_17
    have : fX9_no 113 (5 : Int32) (q0 t) = some (nI 0, wI (q0 t) 113 0 (nI 5)) := by
      unfold fX9_no
      rw [xPI hTq.k, li_5]
      rfl
    rw [e_callV hTq.k, x_call this]
    rfl
  have hbad : fX8_well 1 x s = some (mI, wI s 1 11 (nI 5)) → fX9_opens 113 x (900 : Int32) (q0 t) = some (nI 0, wI (q0 t) 113 0 (nI 5)) → ∃ (y : Int32) (s' t' : mS) (D' : dD), fX8_well 1 x s = some (y, s') ∧ fX9_well 113 x t = some (y, t') ∧ CP s' D' ∧ RP t' D' ∧ DOk D' ∧ FC s s' ∧ FR rfA t t' := fun e1 e2 => by
    refine ⟨mI, _, _, dSt D 5, e1, ?_, hC.st hD 5, (hR.q0 hD).st (dSt_ok hD (by decide)) 5, dSt_ok hD (by decide), fc1 _ _, (fr_q0 t).tr (fr113 0 _)⟩
    unfold fX9_well
    rw [q0_b hRT, e_callV hTq.k, x_call e2, e_if, if_pos (by decide)]
    rfl
  rcases arg x with hx | ⟨n, hn, rfl⟩
  · refine hbad ?_ ?_
    · unfold fX8_well
      rw [e_if, if_pos hx, h12]
    · unfold fX9_opens
      rw [e_if, if_pos hx, h17]
  have hneg : ¬ (nI n < (0 : Int32)) := by rw [li_0, lt_i (by omega) (by omega)]; omega
  by_cases hle : n ≤ nTl (dNn D)
  · have hn9 : n ≤ 900 := by omega
    obtain ⟨C, hCb⟩ : ∃ C : Nat → Nat, ∀ k, k < nTl (dNn D) → dTp D k = xb (C k) ∧ C k < 256 := by
      exact ⟨fun k => (dTp D k).toInt8.toBitVec.toNat, fun k hk => ⟨isB_xb (hD.2.1.2 k hk), (dTp D k).toInt8.toBitVec.isLt⟩⟩
    have hS1 : CS (wI s 1 2 (nI 0)) := hS.w
    have hw : WoS s 48 := hC.2.2.2.2.2.1
    have key := j_read (C := C) (s := wI s 1 2 (nI 0)) (t := t) (N := n) (m := nTl (dNn D)) hS1 hw.w (fun k hk => by rw [sI_wI_ne (Or.inl (by decide)), hC.2.2.1 k (by omega)]; exact hCb k (by omega)) hRT (fun k hk => by rw [hR.2.2.1 k (by omega)]; exact hCb k (by omega)) hn9 r8 hTl hle
    obtain ⟨v', t', a1, a2, a3, a4⟩ := key
    have hPv : ∀ b j, (b ≠ 48 ∨ j ≠ 16) → sP v' b j = sP s b j := fun b j hb => by
      rw [a1.P, sP_wP, if_neg (by omega)]
      rfl
    have hHv : sH v' = sH s := a1.H
    have hSv : CS v' := hS.mv (fun _ _ => by rw [hHv]) (fun b j _ _ _ h16 _ => hPv b j (Or.inr h16))
    have F1 : FR aW s v' := ((FI.w (A := aW) 2 _ (Or.inl rfl)).fr).tr ((fr_p 0).tr ((a1.mo (fun _ h => a48_W h)).fr))
    have FN : FR (fun b => b ≠ 1) (wI s 1 2 (nI 0)) v' := ⟨fun b hb => by
      have hb : b = 1 := Classical.byContradiction hb
      subst hb
      exact ⟨a1.1 1 (by show ¬ ((106 ≤ 1 ∧ 1 ≤ 110) ∨ (48 ≤ 1 ∧ 1 < 48 + 44)); omega), by rw [a1.L]; rfl, by
        funext j
        exact (hPv 1 j (Or.inl (by decide))).trans rfl⟩, a1.H, a1.Z, a1.W⟩
    have hcl : ∀ b q, fX6_readWell 107 (nI n) (wI s 1 2 (nI 0)) = some (b, v') → fX8_well 1 (nI n) s = q → q = bGR 8 1 7 (fun x4 => bGR 6 x4 0 (fun x5 => bCallV 8 1 (fX8_noteFault 1 x5) (fun _ => bIf (b = 0) (bCallV 8 1 (fX8_none 1 (10 : Int32)) (fun x11 => bRet x11)) (bGR 8 1 3 (fun x6 => bGR 8 1 4 (fun x7 => bCallV 7 x6 (fX7_copyFrom x6 x7) (fun _ => bGR 8 1 3 (fun x8 => bGI 7 x8 7 (fun x9 => bCallV 8 1 (fX8_tell 1 x9) (fun x10 => bRet x10)))))))))) v' := fun b q e1 e2 => by
      rw [← e2]
      unfold fX8_well
      rw [e_if, if_neg hneg, xGIe hS.1.1 c2, e_if, if_pos (by rw [le_i (by omega) (by omega)]; exact hle), xPI hS.1.1]
      show bGR 8 1 7 _ (wI s 1 2 (nI 0)) = _
      rw [xGR hS1.1.1 hS1.1.2.2.2.2.2.2.1, e_callV hS1.k107, x_call e1]
    have h107 : sP v' 1 7 = 107 := hSv.1.2.2.2.2.2.2.1
    rcases a4 with ⟨W, n', nr, nt, wt, q1, q2, q3, q4, q5⟩ | ⟨q1, je⟩
    · have hcc := hcl _ _ q1 rfl
      obtain ⟨⟨b1, b2, b3, -⟩, d1, -⟩ := q4
      have hwok : wOk W := d1.2.2.2.2.2.2.2.2.2.2.2.2.1
      have hla : wLa W = [] := q5.2.2
      obtain ⟨v2, hv2⟩ : ∃ v2, v2 = wI (wI v' 1 14 (nI 0)) 1 15 mI := ⟨_, rfl⟩
      have hnote : fX8_noteFault 1 106 v' = some ((), v2) := by rw [k_note hSv, q2.2.2.2.1, q2.2.2.2.2, hv2]
      have hSv2 : CS v2 := by rw [hv2]; exact (hSv.w).w
      have F2 : FI (fun b => b = 1) v' v2 := by
        rw [hv2]
        exact (FI.w (A := fun b => b = 1) _ _ rfl).tr (FI.w (A := fun b => b = 1) _ _ rfl)
      have hcw : CW v2 48 W := ⟨b1.fi F2, b2.mv (fun b hb => F2.1 b (by have := hb.1; show ¬ (b = 1); omega)), hwok, Or.inl ⟨by rw [F2.P]; exact b3, hla⟩⟩
      have hw4 : WoS v2 4 := (hC.2.2.2.2.1.1.mvP2 (fun b _ => by rw [hHv]) (fun b hb j _ => hPv b j (Or.inl (by have := hb.2; omega)))).fi F2
      have h16 : sP v2 48 16 = 0 := by rw [F2.P]; exact b3
      obtain ⟨w, e1, e2, e3, e4⟩ := c_copyFrom hw4 hcw (Or.inl (by decide)) (fun h0 => absurd h16 h0)
      rw [h16] at e4
      have hSw : CS w := hSv2.mv (fun _ _ => by rw [e2.2.1]) (fun b j hb h92 h93 hj hb2 => by rw [(e2.1 b (by show ¬ (4 ≤ b ∧ b < 4 + 44); omega)).2.2])
      have hpe : sI w 4 7 = nI (wPe W) := e3.2.1.2.2.2.2.2.2.2.1
      have hclass : fX8_well 1 (nI n) s = some (nI (wPe W), wI w 1 11 (nI 0)) := by
        rw [hcc, xGR hSv.1.1 h107, xGR hSv.k107 hSv.p107, e_callV hSv.1.1, x_call hnote, e_if, if_neg (by decide), xGR hSv2.1.1 hSv2.1.2.2.2.1, xGR hSv2.1.1 hSv2.1.2.2.2.2.1, e_callV hw4.1, x_call e1, xGR hSw.1.1 hSw.1.2.2.2.1, xGIe e3.1.1 hpe, e_callV hSw.1.1, x_call (k_tell hSw _)]
        rfl
      obtain ⟨u, g1, g2⟩ := x_endG q3 (W := W) d1.2.2.2.2.2.2.2.1
      have FA : FR aW s (wI w 1 11 (nI 0)) := ((F1.tr ((F2.mo (fun b hb => Or.inl hb)).fr)).tr (e2.mo (fun b hb => Or.inr (Or.inl ⟨hb.1, by have := hb.2; omega⟩)))).tr ((FI.w (A := aW) 11 _ (Or.inl rfl)).fr)
      have hP : ∀ b j, (b < 4 ∨ 92 ≤ b) → sP (wI w 1 11 (nI 0)) b j = sP s b j := fun b j hb => by
        show sP w b j = _
        rw [(e2.1 b (by show ¬ (4 ≤ b ∧ b < 4 + 44); omega)).2.2, F2.P]
        exact hPv b j (Or.inl (by omega))
      have hCN : CN (wI w 1 11 (nI 0)) (0, nFt (dNn D), nFb (dNn D), nI 0, mI, 0, nMk (dNn D)) := by
        have hh := hC.2.1.wl FN 0 (nI 0) mI
        rw [← hv2] at hh
        have g := e2.1 1 (by show ¬ (4 ≤ 1 ∧ 1 < 4 + 44); omega)
        refine hh.mv ?_ g.2.1
        funext j
        by_cases h0 : j = 11
        · rw [h0, sI_wI_eq, sI_wI_eq]
        · rw [sI_wI_ne (Or.inr h0), sI_wI_ne (Or.inr h0), g.1]
      have hCWf : CW (wI w 1 11 (nI 0)) 4 W := e3.w1
      have h48f : WoS (wI w 1 11 (nI 0)) 48 := (hcw.1.mvP2 (fun b _ => by rw [e2.2.1]) (fun b hb j _ => by rw [(e2.1 b (by have := hb.1; show ¬ (4 ≤ b ∧ b < 4 + 44); omega)).2.2])).w
      have hCPf : CP (wI w 1 11 (nI 0)) (dWl D 0 (nI 0) mI W) := hC.upW _ W FA (fun b hb => hb) hP (by rw [show sP (wI w 1 11 (nI 0)) 4 16 = 0 from e4]; exact Or.inl rfl) hCN rfl hm3 (Nat.zero_le _) hCWf h48f
      -- the reference
      have hb2 : ∀ b, b ≠ 113 → b ≠ 118 → sI u b = sI t b := fun b h1 h2 => by
        rw [g2.1.1 b h2]
        funext j
        rw [sI_wI_ne (Or.inl h1), sI_wI_ne (Or.inl h1), a2.2.2.2.2.1 b h1 h2, x00_b h1]
      have hu3 : ∀ j, j ≠ 10 → j ≠ 11 → sI u 113 j = sI t' 113 j := fun j h1 h2 => by
        rw [g2.1.1 113 (by decide), sI_wI_ne (Or.inr h2), sI_wI_ne (Or.inr h1)]
      have hu2 : u.2 = t'.2 := g2.1.2
      have hRN : RN u (0, nFt (dNn D), nFb (dNn D), nI 0, mI, 0, nMk (dNn D)) := by
        refine hR.2.1.wl a2 0 (nI 0) mI (fun j h0 h1 h2 => hu3 j h1 h2) ?_ ?_ ?_ (by show u.2.1 = t'.2.1; rw [hu2])
        · rw [hu3 0 (by decide) (by decide), a2.2.2.2.2.2.1 0 (by omega)]; exact x00_0.1
        · rw [g2.1.1 113 (by decide), sI_wI_ne (Or.inr (by decide)), sI_wI_eq]
        · rw [g2.1.1 113 (by decide), sI_wI_eq]
      have hRTu : RT u := q3.1.1.mv hu2
      have hRX : RX u W := ⟨hRTu, d1.cong fun i hi => by
        rw [g2.2.2 i hi, sI_wI_ne (Or.inl (by decide)), sI_wI_ne (Or.inl (by decide))]⟩
      have hsL : sL u 116 = sL t 116 := by
        rw [show sL u = sL t' by show u.2.1 = t'.2.1; rw [hu2], a2.2.2.2.2.2.2.2.1 116 (by decide) (by decide)]
        rfl
      have hRPf : RP u (dWl D 0 (nI 0) mI W) := hR.upW _ W hRN rfl hm3 rfl hRX (hb2 114 (by decide) (by decide)) (hb2 115 (by decide) (by decide)) hsL (fun i h1 h2 => by
        rw [g2.2.1 i h1, sI_wI_ne (Or.inl (by decide)), sI_wI_ne (Or.inl (by decide)), a2.2.2.2.2.2.2.1 i h2, x00_b (by decide)])
      exact ⟨nI (wPe W), _, u, dWl D 0 (nI 0) mI W, hclass, a3.trans g1, hCPf, hRPf, dWl_ok hD (by decide) _ _ _, aW_c FA, (x00_fr.tr a2.fr).tr (((fr113 10 _).tr (fr113 11 _)).tr ((g2.1.mo (fun b hb => by have hb : b = 118 := hb; subst hb; exact ⟨by decide, by decide⟩)).fr))⟩
    · have hcc := hcl _ _ q1 rfl
      obtain ⟨hTt, k, p, ce, re⟩ := je
      obtain ⟨v2, hv2⟩ : ∃ v2, v2 = wI (wI v' 1 14 (nI k)) 1 15 (nI p) := ⟨_, rfl⟩
      have hnote : fX8_noteFault 1 106 v' = some ((), v2) := by rw [k_note hSv, ce.1, ce.2.1, hv2]
      have hSv2 : CS v2 := by rw [hv2]; exact (hSv.w).w
      have F2 : FI (fun b => b = 1) v' v2 := by
        rw [hv2]
        exact (FI.w (A := fun b => b = 1) _ _ rfl).tr (FI.w (A := fun b => b = 1) _ _ rfl)
      have hclass : fX8_well 1 (nI n) s = some (mI, wI v2 1 11 (nI 10)) := by
        rw [hcc, xGR hSv.1.1 h107, xGR hSv.k107 hSv.p107, e_callV hSv.1.1, x_call hnote, e_if, if_pos (by decide), e_callV hSv2.1.1, li_10, x_call (k_none hSv2 10)]
        rfl
      have FA : FR aW s (wI v2 1 11 (nI 10)) := (F1.tr ((F2.mo (fun b hb => Or.inl hb)).fr)).tr ((FI.w (A := aW) 11 _ (Or.inl rfl)).fr)
      have hPf : ∀ b j, (b ≠ 48 ∨ j ≠ 16) → sP (wI v2 1 11 (nI 10)) b j = sP s b j := fun b j hb => by
        show sP v2 b j = _
        rw [F2.P]
        exact hPv b j hb
      have hCN : CN (wI v2 1 11 (nI 10)) (10, nFt (dNn D), nFb (dNn D), nI k, nI p, 0, nMk (dNn D)) := by
        have hh := hC.2.1.wl FN 10 (nI k) (nI p)
        rw [← hv2] at hh
        exact hh
      have hIf : ∀ b, b ≠ 1 → ¬ a48 b → sI (wI v2 1 11 (nI 10)) b = sI s b := fun b h1 h2 => by
        funext j
        rw [sI_wI_ne (Or.inl h1), F2.1 b h1, a1.1 b h2]
        show sI (wI s 1 2 (nI 0)) b j = _
        rw [sI_wI_ne (Or.inl h1)]
      have hHf : sH (wI v2 1 11 (nI 10)) = sH s := by
        show sH v2 = _
        rw [F2.H, hHv]
      have hla4 : LwA s (sP s 4 16) := hC.2.2.2.2.2.2.2.2.2.1
      have hCWf : CW (wI v2 1 11 (nI 10)) 4 (dW D) := by
        refine hC.2.2.2.2.1.mv (fun b _ => by rw [hHf]) (fun b hb => ⟨hIf b (by have := hb.1; omega) (by have := hb.2; show ¬ ((106 ≤ b ∧ b ≤ 110) ∨ (48 ≤ b ∧ b < 48 + 44)); omega), ?_⟩) (fun h0 => ?_)
        · funext j
          exact hPf b j (Or.inl (by have := hb.2; omega))
        · have hl : 124 < sP s 4 16 := by
            rcases hla4 with hl | hl
            · exact absurd hl h0
            · exact hl.1
          refine ⟨by rw [hHf], by rw [hHf], hIf _ (by omega) (by show ¬ ((106 ≤ _ ∧ _ ≤ 110) ∨ (48 ≤ _ ∧ _ < 48 + 44)); omega), hIf _ (by omega) (by show ¬ ((106 ≤ _ ∧ _ ≤ 110) ∨ (48 ≤ _ ∧ _ < 48 + 44)); omega), ?_⟩
          funext j
          exact hPf _ j (Or.inl (by omega))
      have h48f : WoS (wI v2 1 11 (nI 10)) 48 := hw.mvP2 (fun b _ => by rw [hHf]) (fun b _ j hj => hPf b j (Or.inr hj))
      have hCPf : CP (wI v2 1 11 (nI 10)) (dWl D 10 (nI k) (nI p) (dW D)) := hC.upW _ (dW D) FA (fun b hb => hb) (fun b j hb => hPf b j (Or.inl (by omega))) (by rw [hPf 4 16 (Or.inl (by decide))]; exact hla4) hCN rfl hm3 (Nat.zero_le _) hCWf h48f
      -- the reference
      obtain ⟨u, hu⟩ : ∃ u, u = wI (wI (wI t' 113 10 (nI k)) 113 11 (nI p)) 113 0 (nI 10) := ⟨_, rfl⟩
      have hend := x_endE hTt re
      rw [← hu] at hend
      have hu2 : u.2 = t'.2 := by rw [hu]; rfl
      have hub : ∀ b, b ≠ 113 → sI u b = sI t' b := fun b h1 => by
        funext j
        rw [hu, sI_wI_ne (Or.inl h1), sI_wI_ne (Or.inl h1), sI_wI_ne (Or.inl h1)]
      have hb2 : ∀ b, b ≠ 113 → b ≠ 118 → sI u b = sI t b := fun b h1 h2 => by
        rw [hub b h1, a2.2.2.2.2.1 b h1 h2, x00_b h1]
      have h118 : ∀ i, i < 3440 → sI u 118 i = sI t 118 i := fun i h1 => by
        rw [hub 118 (by decide), a2.2.2.2.2.2.2.1 i h1, x00_b (by decide)]
      have hRN : RN u (10, nFt (dNn D), nFb (dNn D), nI k, nI p, 0, nMk (dNn D)) := by
        refine hR.2.1.wl a2 10 (nI k) (nI p) (fun j h0 h1 h2 => ?_) ?_ ?_ ?_ (by show u.2.1 = t'.2.1; rw [hu2])
        · rw [hu, sI_wI_ne (Or.inr h0), sI_wI_ne (Or.inr h2), sI_wI_ne (Or.inr h1)]
        · rw [hu, sI_wI_eq]
        · rw [hu, sI_wI_ne (Or.inr (by decide)), sI_wI_ne (Or.inr (by decide)), sI_wI_eq]
        · rw [hu, sI_wI_ne (Or.inr (by decide)), sI_wI_eq]
      have hRTu : RT u := hTt.mv hu2
      have hRX : RX u (dW D) := ⟨hRTu, hR.1.2.cong fun i hi => h118 i (by omega)⟩
      have hsL : sL u 116 = sL t 116 := by
        rw [show sL u = sL t' by show u.2.1 = t'.2.1; rw [hu2], a2.2.2.2.2.2.2.2.1 116 (by decide) (by decide)]
        rfl
      have hRPf : RP u (dWl D 10 (nI k) (nI p) (dW D)) := hR.upW _ (dW D) hRN rfl hm3 rfl hRX (hb2 114 (by decide) (by decide)) (hb2 115 (by decide) (by decide)) hsL (fun i _ h2 => h118 i h2)
      refine ⟨mI, _, u, dWl D 10 (nI k) (nI p) (dW D), hclass, a3.trans hend, hCPf, hRPf, dWl_ok hD (by decide) _ _ _, aW_c FA, ?_⟩
      rw [hu]
      exact (x00_fr.tr a2.fr).tr (((fr113 10 _).tr (fr113 11 _)).tr (fr113 0 _))
  · have hlt : ¬ (nI n ≤ nI (nTl (dNn D))) := by rw [le_i (by omega) (by omega)]; exact hle
    have hgt : nI (nTl (dNn D)) < nI n := by rw [lt_i (by omega) (by omega)]; omega
    refine hbad ?_ ?_
    · unfold fX8_well
      rw [e_if, if_neg hneg, xGIe hS.1.1 c2, e_if, if_neg hlt, h12]
    · unfold fX9_opens
      rw [e_if, if_neg hneg, xGIe hTq.k r8q, e_if, if_pos hgt, h17]

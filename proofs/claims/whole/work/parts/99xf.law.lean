/-! THE CALL LAW, both sides -/
section SLAW
variable {s t u v w : mS} {D : dD} {N : Nat}
/-- a world with another law -/
abbrev wLw (W : wW) (L : List (List qS3 × Nat)) : wW := (wYr W, wWa W, wBo W, wSi W, wRa W, wRb W, wDr W, wPe W, wPa W, wDi W, wFl W, wFd W, wRo W, L)
theorem wLw_ok {W : wW} {L : List (List qS3 × Nat)} (h : wOk W) (hL : lOk L) : wOk (wLw W L) := by
  obtain ⟨h1, h2, h3, h4, h5, h6, h7, h8, h9, h10, h11, h12, h13, h14, h15, -⟩ := h
  exact ⟨h1, h2, h3, h4, h5, h6, h7, h8, h9, h10, h11, h12, h13, h14, h15, hL⟩
theorem RW.lw {c d : Nat → Int32} {W : wW} {L : List (List qS3 × Nat)} (h : RW c W) (hc : ∀ i, i < 289 → d i = c i) (hl : LaR d L) (hL : lOk L) : RW d (wLw W L) := by
  obtain ⟨e0, e1, e2, e3, e4, e5, e6, e7, e8, ep, ef, er, ew, el⟩ := h
  have iP := ew.2.2.2.2.2.2.2.1
  have iF := ew.2.2.2.2.2.2.2.2.2.2.1
  refine ⟨by rw [hc _ (by omega)]; exact e0, by rw [hc _ (by omega)]; exact e1, by rw [hc _ (by omega)]; exact e2, by rw [hc _ (by omega)]; exact e3, by rw [hc _ (by omega)]; exact e4, by rw [hc _ (by omega)]; exact e5, by rw [hc _ (by omega)]; exact e6, by rw [hc _ (by omega)]; exact e7, by rw [hc _ (by omega)]; exact e8, fun p hp => ?_, fun f hf => ?_, fun r hr => ?_, wLw_ok ew hL, hl⟩
  · have hp : p < wPe W := hp
    rw [hc _ (by omega), hc _ (by omega)]; exact ep p hp
  · have hf : f < wFl W := hf
    rw [hc _ (by omega), hc _ (by omega), hc _ (by omega)]; exact ef f hf
  · exact (er r hr).mv (ew.2.2.2.2.2.2.2.2.2.2.2.2.1 r).1 fun i hi => hc i (by omega)
theorem FWL.fr (h : FWL t v) : FR rfA t v := by
  obtain ⟨h1, h2, h3, h4, h5, h6, h7, h8, h9⟩ := h
  exact ⟨fun b hb => ⟨h5 b (fun e => hb (by rw [e]; exact ⟨by decide, by decide⟩)) (fun e => hb (by rw [e]; exact ⟨by decide, by decide⟩)), h8 b (fun e => hb (by rw [e]; exact ⟨by decide, by decide⟩)) (fun e => hb (by rw [e]; exact ⟨by decide, by decide⟩)), by rw [h1]⟩, h2, h3, h4⟩
theorem RN.ll {n : dN} (h : RN t n) (hF : FWL (x00 t N) v) (k : Nat) (a b : Int32) (hu1 : ∀ j, j ≠ 0 → j ≠ 10 → j ≠ 11 → sI w 113 j = sI v 113 j) (hu0 : sI w 113 0 = nI k) (hua : sI w 113 10 = a) (hub : sI w 113 11 = b) (hL : sL w = sL v) : RN w (k, nFt n, nFb n, a, b, 0, nMk n) := by
  obtain ⟨h1, h2, h3, h4, h5, h6, h7⟩ := h
  refine ⟨hu0, ?_, ?_, hua, hub, ?_, ?_⟩
  · rw [hL, hF.2.2.2.2.2.2.2.2 2 (by decide)]; exact h2
  · rw [hL, hF.2.2.2.2.2.2.2.2 3 (by decide)]; exact h3
  · rw [hu1 8 (by decide) (by decide) (by decide), hF.2.2.2.2.2.1 8 (by omega) (by decide)]; exact x00_0.2
  · rw [hu1 28 (by decide) (by decide) (by decide), hF.2.2.2.2.2.1 28 (by omega) (by decide), x00_I (by decide) (by decide) (by decide) (by decide) (by decide) (by decide)]; exact h7
abbrev dNt (D : dD) (a b : Int32) : dD := ((nSt (dNn D), nFt (dNn D), nFb (dNn D), a, b, 0, nMk (dNn D)), dTp D, dTr D, dW D, dM D)
/-- the class's object when the text was read and its fault noted -/
theorem CP.noted (hC : CP s D) (hm3 : nMk (dNn D) ≤ 3) (h : FI a11 (wI s 1 2 (nI 0)) v) (a b : Int32) : CP (wI (wI v 1 14 a) 1 15 b) (dNt D a b) ∧ FR aW s (wI (wI v 1 14 a) 1 15 b) := by
  have F1 : FI aW s (wI (wI v 1 14 a) 1 15 b) := (((FI.w (A := aW) 2 _ (Or.inl rfl)).tr (h.mo (fun c hc => by
    have hc : c = 106 ∨ c = 111 ∨ c = 112 := hc
    exact Or.inr (Or.inr ⟨by omega, by omega⟩)))).tr (FI.w (A := aW) _ _ (Or.inl rfl))).tr (FI.w (A := aW) _ _ (Or.inl rfl))
  have hP := F1.P
  have hH := F1.H
  have hI : ∀ c, c ≠ 1 → c ≠ 106 → c ≠ 111 → c ≠ 112 → sI (wI (wI v 1 14 a) 1 15 b) c = sI s c := fun c h1 h2 h3 h4 => by
    funext j
    rw [sI_wI_ne (Or.inl h1), sI_wI_ne (Or.inl h1), h.1 c (by show ¬ (c = 106 ∨ c = 111 ∨ c = 112); omega), sI_wI_ne (Or.inl h1)]
  have hla4 : LwA s (sP s 4 16) := hC.2.2.2.2.2.2.2.2.2.1
  have hCW : CW (wI (wI v 1 14 a) 1 15 b) 4 (dW D) := by
    refine hC.2.2.2.2.1.mv (fun c _ => by rw [hH]) (fun c hc => ⟨hI c (by have := hc.1; omega) (by have := hc.2; omega) (by have := hc.2; omega) (by have := hc.2; omega), by rw [hP]⟩) (fun h0 => ?_)
    have hl : 124 < sP s 4 16 := by
      rcases hla4 with hl | hl
      · exact absurd hl h0
      · exact hl.1
    exact ⟨by rw [hH], by rw [hH], hI _ (by omega) (by omega) (by omega) (by omega), hI _ (by omega) (by omega) (by omega) (by omega), by rw [hP]⟩
  have hCN : CN (wI (wI v 1 14 a) 1 15 b) (nSt (dNn D), nFt (dNn D), nFb (dNn D), a, b, 0, nMk (dNn D)) := by
    obtain ⟨c1, c2, c3, c4, c5, c6, c7⟩ := hC.2.1
    have g1 : sI v 1 = sI (wI s 1 2 (nI 0)) 1 := h.1 1 (by decide)
    have g2 : sL v = sL s := by rw [h.L]; rfl
    refine ⟨?_, ?_, ?_, ?_, ?_, ?_, ?_⟩
    · rw [sI_wI_ne (Or.inr (by decide)), sI_wI_ne (Or.inr (by decide)), g1, sI_wI_ne (Or.inr (by decide))]; exact c1
    · show sL v 1 12 = _
      rw [g2]; exact c2
    · show sL v 1 13 = _
      rw [g2]; exact c3
    · rw [sI_wI_ne (Or.inr (by decide)), sI_wI_eq]
    · rw [sI_wI_eq]
    · rw [sI_wI_ne (Or.inr (by decide)), sI_wI_ne (Or.inr (by decide)), g1, sI_wI_eq]
    · rw [sI_wI_ne (Or.inr (by decide)), sI_wI_ne (Or.inr (by decide)), g1, sI_wI_ne (Or.inr (by decide))]; exact c7
  exact ⟨hC.upW _ (dW D) F1.fr (fun c hc => hc) (fun c j _ => by rw [hP]) (by rw [hP]; exact hla4) hCN rfl hm3 (Nat.zero_le _) hCW (hC.2.2.2.2.2.1.fi F1), F1.fr⟩
/-- the new law is the law of now -/
theorem CP.lawed {n nL : Nat} {L : List (List qS3 × Nat)} (hC : CP v D) (hm3 : nMk (dNn D) ≤ 3) (hL : lOk L) (hn : n = (lEnc L).length) (hnL : nL = L.length) (h112 : ∀ i, i < (lEnc L).length → sI v 112 i = (lEnc L).getD i 0) : CP (wP (mdS v n nL) 4 16 (sZ v + 1)) (dNn D, dTp D, dTr D, wLw (dW D) L, dM D) := by
  subst hnL
  have hG := mdS_g v n L.length
  have hz : 124 ≤ sZ v := hC.2.2.2.2.2.2.1
  have hC3 : CP (mdS v n L.length) D := hC.gw hG hm3
  have hld := mdS_ld (v := v) hz hn h112
  have hz3 : sZ (mdS v n L.length) = sZ v + 2 := hG.2.1
  have e92 := (hG.1 92 (by omega)).2.2.1
  have e93 := (hG.1 93 (by omega)).2.2.1
  have m3 := hC.2.2.2.2.2.2.2.2.1
  have m5 := hC.2.2.2.2.2.2.2.2.2.2.1
  have hcf : cF v ≤ sZ v := by
    rcases m3 with m3 | m3
    · omega
    · exact m3.2.1
  have hla : LwA (mdS v n L.length) (sZ v + 1) := by
    refine Or.inr ⟨by omega, by omega, ?_, ?_, fun i hi => ?_⟩
    · show sZ v + 1 + 1 ≠ sP (mdS v n L.length) 93 5
      rw [e93]
      unfold cF at hcf
      omega
    · show sZ v + 1 ≠ sP (mdS v n L.length) 93 5
      rw [e93]
      unfold cF at hcf
      omega
    · show sP (mdS v n L.length) 92 i ≠ 0 → ¬ wA (sP (mdS v n L.length) 92 i) (sZ v + 1) ∧ ¬ wA (sP (mdS v n L.length) 92 i) (sZ v + 1 + 1)
      rw [e92]
      intro h0
      have k2 : sP v 92 i + 43 ≤ sZ v := (m5 i hi h0).2.1
      exact ⟨fun hw => by have := hw.2; omega, fun hw => by have := hw.2; omega⟩
  obtain ⟨c1, c2, c3, -⟩ := hC3.2.2.2.2.1
  have hF : FR aW (mdS v n L.length) (wP (mdS v n L.length) 4 16 (sZ v + 1)) := ⟨fun b hb => ⟨rfl, rfl, by
    funext j
    rw [sP_wP, if_neg (fun e => hb (by rw [e.1]; exact Or.inr (Or.inl ⟨by decide, by decide⟩)))]⟩, rfl, rfl, rfl⟩
  have h416 : sP (wP (mdS v n L.length) 4 16 (sZ v + 1)) 4 16 = sZ v + 1 := by rw [sP_wP, if_pos ⟨rfl, rfl⟩]
  have hCW : CW (wP (mdS v n L.length) 4 16 (sZ v + 1)) 4 (wLw (dW D) L) := by
    refine ⟨c1.p, c2, wLw_ok c3 hL, ?_⟩
    rw [h416]
    rcases hld with hld | ⟨d1, d2, d3, d4, d5, d6⟩
    · exact absurd hld.1 (by omega)
    · exact Or.inr ⟨d1, d2, by rw [sP_wP, if_neg (by omega)]; exact d3, d4, d5, d6⟩
  exact hC3.upW (dNn D) (wLw (dW D) L) hF (fun b hb => hb) (fun b j hb => by rw [sP_wP, if_neg (by omega)]) (by rw [h416]; exact hla) (hC3.2.1.mv rfl rfl) rfl hm3 (Nat.le_refl _) hCW hC3.2.2.2.2.2.1.p
end SLAW
theorem s_law (x : Int32) : Sim (fX8_law 1 x) (fX9_law 113 x) := by
  intro s t D hC hR hD
  have hS := hC.1
  have hRT := hR.1.1
  have hTl := hD.2.1.1
  have hm3 := hD.2.2.1
  have c2 : sI s 1 2 = nI (nTl (dNn D)) := hC.2.1.2.2.2.2.2.1
  have r8 : sI t 113 8 = nI (nTl (dNn D)) := hR.2.1.2.2.2.2.2.1
  have hTq : RT (q0 t) := (hRT.w).w
  have r8q : sI (q0 t) 113 8 = nI (nTl (dNn D)) := by
    unfold q0
    rw [sI_wI_ne (Or.inr (by decide)), sI_wI_ne (Or.inr (by decide))]; exact r8
  have h12 : fX8_law_19 1 s = some (mI, wI s 1 11 (nI 5)) := by
    unfold fX8_law_19
    rw [e_callV hS.1.1, li_5, x_call (k_none hS 5)]
    rfl
  have h17 : fX9_opens_17 113 (q0 t) = some (nI 0, wI (q0 t) 113 0 (nI 5)) := by
    unfold fX9_opens_17
    have : fX9_no 113 (5 : Int32) (q0 t) = some (nI 0, wI (q0 t) 113 0 (nI 5)) := by
      unfold fX9_no
      rw [xPI hTq.k, li_5]
      rfl
    rw [e_callV hTq.k, x_call this]
    rfl
  have hbad : fX8_law 1 x s = some (mI, wI s 1 11 (nI 5)) → fX9_opens 113 x (300 : Int32) (q0 t) = some (nI 0, wI (q0 t) 113 0 (nI 5)) → ∃ (y : Int32) (s' t' : mS) (D' : dD), fX8_law 1 x s = some (y, s') ∧ fX9_law 113 x t = some (y, t') ∧ CP s' D' ∧ RP t' D' ∧ DOk D' ∧ FC s s' ∧ FR rfA t t' := fun e1 e2 => by
    refine ⟨mI, _, _, dSt D 5, e1, ?_, hC.st hD 5, (hR.q0 hD).st (dSt_ok hD (by decide)) 5, dSt_ok hD (by decide), fc1 _ _, (fr_q0 t).tr (fr113 0 _)⟩
    unfold fX9_law
    rw [q0_b hRT, e_callV hTq.k, x_call e2, e_if, if_pos (by decide)]
    rfl
  rcases arg x with hx | ⟨n, hn, rfl⟩
  · refine hbad ?_ ?_
    · unfold fX8_law
      rw [e_if, if_pos hx, h12]
    · unfold fX9_opens
      rw [e_if, if_pos hx, h17]
  have hneg : ¬ (nI n < (0 : Int32)) := by rw [li_0, lt_i (by omega) (by omega)]; omega
  by_cases hle : n ≤ nTl (dNn D)
  · have hlc : ¬ (nI (nTl (dNn D)) < nI n) := by rw [lt_i (by omega) (by omega)]; omega
    by_cases h300 : n ≤ 300
    · have h3c : nI n ≤ (300 : Int32) := by rw [li_300, le_i (by omega) (by omega)]; omega
      obtain ⟨C, hCb⟩ : ∃ C : Nat → Nat, ∀ k, k < nTl (dNn D) → dTp D k = xb (C k) ∧ C k < 256 := by
        exact ⟨fun k => (dTp D k).toInt8.toBitVec.toNat, fun k hk => ⟨isB_xb (hD.2.1.2 k hk), (dTp D k).toInt8.toBitVec.isLt⟩⟩
      have hS1 : CS (wI s 1 2 (nI 0)) := hS.w
      have key := j_readLaw (C := C) (s := wI s 1 2 (nI 0)) (t := t) (N := n) (m := nTl (dNn D)) hS1 (fun k hk => by rw [sI_wI_ne (Or.inl (by decide)), hC.2.2.1 k (by omega)]; exact hCb k (by omega)) hRT (fun k hk => by rw [hR.2.2.1 k (by omega)]; exact hCb k (by omega)) h300 r8 hTl hle
      obtain ⟨v', t', r, q1, a3, a1, a2, a4⟩ := key
      have hSv : CS v' := hS1.fi a1
      obtain ⟨v2, hv2⟩ : ∃ v2, v2 = wI (wI v' 1 14 (sI v' 106 7)) 1 15 (sI v' 106 8) := ⟨_, rfl⟩
      have hnote : fX8_noteFault 1 106 v' = some ((), v2) := by rw [k_note hSv, hv2]
      obtain ⟨hC2, F2⟩ := hC.noted hm3 a1 (sI v' 106 7) (sI v' 106 8)
      rw [← hv2] at hC2 F2
      have hS2 := hC2.1
      have hz : 124 ≤ sZ v2 := hC2.2.2.2.2.2.2.1
      have hcc : fX8_law 1 (nI n) s = (bIf (r = 0) (bCallV 8 1 (fX8_none 1 (10 : Int32)) (fun x12 => bRet x12)) (bGR 8 1 3 (fun x6 => bGR 8 1 8 (fun x7 => bCallV 1 x7 (fX1_made x7) (fun x8 => bPR 7 x6 16 x8 (bGR 8 1 8 (fun x9 => bGI 1 x9 1 (fun x10 => bCallV 8 1 (fX8_tell 1 x10) (fun x11 => bRet x11))))))))) v2 := by
        unfold fX8_law
        rw [e_if, if_neg hneg, xGIe hS.1.1 c2, e_if, if_neg hlc, e_if, if_pos h3c, li_0, xPI hS.1.1, xGR hS1.1.1 hS1.1.2.2.2.2.2.2.2.1, e_callV hS1.k111, x_call q1, xGR hSv.1.1 hSv.1.2.2.2.2.2.2.2.1, xGR hSv.k111 hSv.p111, e_callV hSv.1.1, x_call hnote]
      have hDn : DOk (dNt D (sI v' 106 7) (sI v' 106 8)) := ⟨hD.1, ⟨Nat.zero_le _, fun j hj => absurd hj (by show ¬ j < 0; omega)⟩, hD.2.2⟩
      rcases a4 with ⟨s0, L, a, m, s1, s2, ⟨s3, s4⟩, s5⟩ | ⟨s0, hTt, k, p, ce, re⟩
      · -- the law stands
        subst s0
        have e111 : sI v2 111 = sI v' 111 := by
          rw [hv2]
          funext j
          rw [sI_wI_ne (Or.inl (by decide)), sI_wI_ne (Or.inl (by decide))]
        have e112 : sI v2 112 = sI v' 112 := by
          rw [hv2]
          funext j
          rw [sI_wI_ne (Or.inl (by decide)), sI_wI_ne (Or.inl (by decide))]
        have hEl : (lEnc L ++ ([] : List qS3).map lCode) = lEnc L := List.append_nil _
        rw [hEl] at s3
        have hEb : (lEnc L).length ≤ 132 := by
          have h1 := lEnc_len L
          have h2 := s5.1
          have h3 := s5.2.1
          omega
        have hmade := c_made hS2 hz (n := (lEnc L).length) (nL := L.length) (by rw [e111]; exact s3.1) (by rw [e111]; exact s3.2.2.1) (by omega)
        have hG := mdS_g v2 (lEnc L).length L.length
        have hC4 := hC2.lawed hm3 s5 rfl rfl (fun i hi => by rw [e112]; exact s3.2.2.2 i hi)
        have hS4 := hC4.1
        obtain ⟨w, hw⟩ : ∃ w, w = wP (mdS v2 (lEnc L).length L.length) 4 16 (sZ v2 + 1) := ⟨_, rfl⟩
        rw [← hw] at hC4 hS4
        have hk4 : (sH (mdS v2 (lEnc L).length L.length) 4).1 = 7 := by
          rw [(hG.1 4 (by omega)).2.2.2]
          exact hC2.2.2.2.2.1.1.1
        have e1w : sI w 111 1 = nI L.length := by
          rw [hw]
          show sI (mdS v2 (lEnc L).length L.length) 111 1 = _
          rw [(hG.1 111 (by omega)).1, e111]
          exact s3.1
        have hclass : fX8_law 1 (nI n) s = some (nI L.length, wI w 1 11 (nI 0)) := by
          rw [hcc, e_if, if_neg (by decide), xGR hS2.1.1 hS2.1.2.2.2.1, xGR hS2.1.1 hS2.1.2.2.2.2.2.2.2.1, e_callV hS2.k111, x_call hmade, xPR hk4, ← hw, xGR hS4.1.1 hS4.1.2.2.2.2.2.2.2.1, xGIe hS4.k111 e1w, e_callV hS4.1.1, x_call (k_tell hS4 _)]
          rfl
        have hCE := s1.2.2.2
        rw [hCE.1, hCE.2] at hC4 hDn
        have hCPf := hC4.st (D := (dNn (dNt D (nI 0) mI), dTp D, dTr D, wLw (dW D) L, dM D)) ⟨hDn.1, hDn.2⟩ 0
        obtain ⟨u, g1, g2, g3, g4, g5, g6, g7⟩ := x_59G s2 s4 s5
        have hu2 : u.2 = t'.2 := g2.2
        have hRTu : RT u := s2.1.1.mv hu2
        have hb2 : ∀ b, b ≠ 113 → b ≠ 118 → sI u b = sI t b := fun b h1 h2 => by
          rw [g2.1 b (by omega), a2.2.2.2.2.1 b h1 h2, x00_b h1]
        have h118 : ∀ i, (i < 289 ∨ 860 ≤ i) → i < 3440 → sI u 118 i = sI t 118 i := fun i h1 h2 => by
          rw [g6 i h1, a2.2.2.2.2.2.2.1 i h2, x00_b (by decide)]
        have hRN : RN u (0, nFt (dNn D), nFb (dNn D), nI 0, mI, 0, nMk (dNn D)) := by
          refine hR.2.1.ll a2 0 (nI 0) mI (fun j h0 h1 h2 => g3 j h1 h2) ?_ g4 g5 (by show u.2.1 = t'.2.1; rw [hu2])
          rw [g3 0 (by decide) (by decide), a2.2.2.2.2.2.1 0 (by omega) (by decide)]; exact x00_0.1
        have hRX : RX u (wLw (dW D) L) := ⟨hRTu, hR.1.2.lw (fun i hi => h118 i (Or.inl hi) (by omega)) g7 s5⟩
        have hsL : sL u 116 = sL t 116 := by
          rw [show sL u = sL t' by show u.2.1 = t'.2.1; rw [hu2], a2.2.2.2.2.2.2.2.1 116 (by decide) (by decide)]
          rfl
        have hRPf : RP u (dWl D 0 (nI 0) mI (wLw (dW D) L)) := hR.upW _ _ hRN rfl hm3 rfl hRX (hb2 114 (by decide) (by decide)) (hb2 115 (by decide) (by decide)) hsL (fun i h1 h2 => h118 i (Or.inr h1) h2)
        have hFC : FC s (wI w 1 11 (nI 0)) := by
          obtain ⟨f1, f2, f3, f4, f5, f6⟩ := aW_c F2
          have hzw : sZ w = sZ v2 + 2 := by rw [hw]; exact hG.2.1
          have hww : sW w = sW v2 + (2 + (lEnc L).length) := by rw [hw]; exact hG.2.2
          have hz2 : sZ v2 = sZ s := F2.2.2.1
          have hw2 : sW v2 = sW s := F2.2.2.2
          refine FC.st ⟨fun b hb => ?_, fun b hb => ?_, by omega, by omega, by omega, by omega⟩ 11 _
          · have hb1 : 113 ≤ b ∧ b ≤ 124 := hb
            obtain ⟨q1, q2, q3⟩ := f1 b hb
            have q := hG.1 b (by omega)
            rw [hw]
            refine ⟨q.1.trans q1, q.2.1.trans q2, Eq.trans ?_ (q.2.2.1.trans q3)⟩
            funext i
            rw [sP_wP, if_neg (by omega)]
          · rw [hw]
            exact ((hG.1 b (by omega)).2.2.2).trans (f2 b hb)
        exact ⟨nI L.length, _, u, dWl D 0 (nI 0) mI (wLw (dW D) L), hclass, a3.trans g1, hCPf, hRPf, dWl_ok hD (by decide) _ _ _, hFC, (x00_fr.tr a2.fr).tr ((g2.mo (fun b hb => by
          have hb : b = 113 ∨ b = 118 := hb
          exact ⟨by omega, by omega⟩)).fr)⟩
      · -- a fault
        subst s0
        have hclass : fX8_law 1 (nI n) s = some (mI, wI v2 1 11 (nI 10)) := by
          rw [hcc, e_if, if_pos (by decide), e_callV hS2.1.1, li_10, x_call (k_none hS2 10)]
          rfl
        rw [ce.1, ce.2.1] at hC2 hDn
        have hCPf := hC2.st hDn 10
        obtain ⟨u, hu⟩ : ∃ u, u = wI (wI (wI t' 113 10 (nI k)) 113 11 (nI p)) 113 0 (nI 10) := ⟨_, rfl⟩
        have hend := x_59E hTt re
        rw [← hu] at hend
        have hu2 : u.2 = t'.2 := by rw [hu]; rfl
        have hub : ∀ b, b ≠ 113 → sI u b = sI t' b := fun b h1 => by
          funext j
          rw [hu, sI_wI_ne (Or.inl h1), sI_wI_ne (Or.inl h1), sI_wI_ne (Or.inl h1)]
        have hb2 : ∀ b, b ≠ 113 → b ≠ 118 → sI u b = sI t b := fun b h1 h2 => by
          rw [hub b h1, a2.2.2.2.2.1 b h1 h2, x00_b h1]
        have h118 : ∀ i, i < 3440 → sI u 118 i = sI t 118 i := fun i h1 => by
          rw [hub 118 (by decide), a2.2.2.2.2.2.2.1 i h1, x00_b (by decide)]
        have hRN : RN u (10, nFt (dNn D), nFb (dNn D), nI k, nI p, 0, nMk (dNn D)) := by
          refine hR.2.1.ll a2 10 (nI k) (nI p) (fun j h0 h1 h2 => ?_) ?_ ?_ ?_ (by show u.2.1 = t'.2.1; rw [hu2])
          · rw [hu, sI_wI_ne (Or.inr h0), sI_wI_ne (Or.inr h2), sI_wI_ne (Or.inr h1)]
          · rw [hu, sI_wI_eq]
          · rw [hu, sI_wI_ne (Or.inr (by decide)), sI_wI_ne (Or.inr (by decide)), sI_wI_eq]
          · rw [hu, sI_wI_ne (Or.inr (by decide)), sI_wI_eq]
        have hRTu : RT u := hTt.mv hu2
        have hRX : RX u (dW D) := ⟨hRTu, hR.1.2.cong fun i hi => h118 i (by omega)⟩
        have hsL : sL u 116 = sL t 116 := by
          rw [show sL u = sL t' by show u.2.1 = t'.2.1; rw [hu2], a2.2.2.2.2.2.2.2.1 116 (by decide) (by decide)]
          rfl
        have hRPf : RP u (dWl D 10 (nI k) (nI p) (dW D)) := hR.upW _ (dW D) hRN rfl hm3 rfl hRX (hb2 114 (by decide) (by decide)) (hb2 115 (by decide) (by decide)) hsL (fun i _ h2 => h118 i h2)
        refine ⟨mI, _, u, dWl D 10 (nI k) (nI p) (dW D), hclass, a3.trans hend, hCPf, hRPf, dWl_ok hD (by decide) _ _ _, (aW_c F2).st 11 _, ?_⟩
        rw [hu]
        exact (x00_fr.tr a2.fr).tr (((fr113 10 _).tr (fr113 11 _)).tr (fr113 0 _))
    · have h3c : ¬ (nI n ≤ (300 : Int32)) := by rw [li_300, le_i (by omega) (by omega)]; omega
      refine hbad ?_ ?_
      · unfold fX8_law
        rw [e_if, if_neg hneg, xGIe hS.1.1 c2, e_if, if_neg hlc, e_if, if_neg h3c, h12]
      · unfold fX9_opens
        rw [e_if, if_neg hneg, xGIe hTq.k r8q, e_if, if_neg hlc, e_if, if_neg h3c, h17]
  · have hgt : nI (nTl (dNn D)) < nI n := by rw [lt_i (by omega) (by omega)]; omega
    refine hbad ?_ ?_
    · unfold fX8_law
      rw [e_if, if_neg hneg, xGIe hS.1.1 c2, e_if, if_pos hgt, h12]
    · unfold fX9_opens
      rw [e_if, if_neg hneg, xGIe hTq.k r8q, e_if, if_pos hgt, h17]

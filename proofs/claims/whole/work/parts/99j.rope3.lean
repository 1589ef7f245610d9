/-! THE PART OF A ROPE: from its first word on -/
section ROPEC
variable {v t v0 t0 u : mS} {C : Nat → Nat} {N a n nr np x y : Nat} {nt : tN} {W : wW} {wt : Bool}
theorem x_54E (h : BD t) (a b : Int32) : fX9_readRope_54 fu 113 a b (0 : Int32) (1 : Int32) t = some ((), t) := by
  show fX9_readRope_54 (4999 + 1) 113 a b (0 : Int32) (1 : Int32) t = some ((), t)
  rw [qX9_readRope_54, e_if, if_neg (by decide), xGI h.1.k, e_if, if_neg h.ne.2, x_185E h]
/-- the owner -/
def cOw (X : Nat) : mM Int32 := bCallV 6 107 (fX6_takePerson 107) (fun x9 => bIf (x9 = 0) (bRetZ (0 : Int32)) (bGR 6 107 0 (fun x10 => bGI 4 x10 6 (fun x11 => bPI 3 X 0 x11 (bCallV 6 107 (fX6_readPieces 107 X) (kP X))))))
def xOw (r : Int32) : mM Unit := bCallV 9 113 (fX9_readPersonName 113) (fun x3 => fX9_readRope_54 fu 113 r x3 (0 : Int32) (1 : Int32))
theorem x_OwE (h : BD t) (r : Int32) : xOw r t = some ((), t) := by
  unfold xOw
  rw [e_callV h.1.k, x_call (x_pnE h), x_54E h]
/-- who the owner is, is not known before -/
def RRo (v0 v t0 t : mS) (C : Nat → Nat) (N a n r x y np : Nat) (nt : tN) (fc : mM Int32) (fr : mM Unit) : Prop := ∃ v' t', fr t = some ((), t') ∧ KF v0 v' t0 t' ∧ ((∃ o u ho sl ps a', o < np ∧ fc v = fX6_readRope_145 107 v' ∧ t' = roR u r o ps.length (Bool.toNat ho) sl ∧ KR v0 v' t0 u C n r x y nt ∧ RoD v' (56 + 3 * r) (some o, none, ho, sl, ps) ∧ PC u r ps ∧ sl ≤ 15 ∧ (1 ≤ ps.length ∧ ps.length ≤ 4 ∧ ∀ k, k < ps.length → 1 ≤ pY ps k ∧ pY ps k ≤ 200 ∧ pA ps k ≤ 300) ∧ a ≤ a' ∧ CG v' C N a' ∧ RG u C N a') ∨ (fc v = some (nI 0, v') ∧ JE v' t'))
theorem j_owner (hK : KR v0 v t0 t C n nr x y nt) (h : CG v C N a) (g : RG t C N a) (hw : WoS v 48) (hr : nr < 6) (h21 : sI t 113 21 = nI nr) (hD : RoD v (56 + 3 * nr) r0) (hN : NI C N (n + 1) np (nr + 1) (addT nt n x y (8 + nr))) (hR : RNT t C (n + 1) (addT nt n x y (8 + nr))) (h47 : sI t 118 3447 = nI np) : RRo v0 v t0 t C N a n nr x y np nt (cOw (56 + 3 * nr)) (xOw (nI nr)) := by
  have hS := h.1.1
  have hT := g.1.1
  obtain ⟨v1, t1, z, f1, p1, q1, hx⟩ := j_person h g hN hK.1.2.2.2 hR h47
  have K1 := hK.fs2 (by omega) p1 q1
  have hS1 : CS v1 := hS.fi p1.1
  have hw1 : WoS v1 48 := hw.mv p1.1.2
  rcases hx with ⟨o, k1, k2, k3, k4, c1, r1⟩ | ⟨k1, je⟩
  · subst k2
    have hX : (sH v1 (56 + 3 * nr)).1 = 3 := (hw1.2.2.2.2.2.2.2.2.2.2.2.2.2.2.2 nr (by omega)).2.1
    have K2 := K1.rp (v' := wI v1 (56 + 3 * nr) 0 (nI o)) (by omega) (FI.w _ _ (Or.inl rfl))
    have D2 : RoD (wI v1 (56 + 3 * nr) 0 (nI o)) (56 + 3 * nr) (some o, none, false, 0, []) := (hD.f6 (by omega) p1).ow
    have c2 : CG (wI v1 (56 + 3 * nr) 0 (nI o)) C N (nx C N a) := c1.w (by omega) (by omega)
    have key := j_pieces 4 fu fu [] (wI v1 (56 + 3 * nr) 0 (nI o)) t1 (nx C N a) true (v0 := v0) (t0 := t0) (o := o) rfl (by unfold fu; omega) (by unfold fu; omega) K2 c2 r1 hw1.w hr (by rw [q1.I (by decide)]; exact h21) D2 (fun k hk => absurd hk (by show ¬ k < 0; omega)) piOk_0 (fun _ => rfl) (fun h0 => absurd rfl h0)
    obtain ⟨v3, t3, m1, m2, m3⟩ := key
    have hr3 : xOw (nI nr) t = some ((), t3) := by
      unfold xOw
      rw [g.1.cv, x_call f1]
      exact m1
    have hc3 : cOw (56 + 3 * nr) v = bCall (fX6_readPieces_4 fu 107 (56 + 3 * nr) (nI (Bool.toNat true)) (nI ([] : List (Nat × Nat)).length)) (kP (56 + 3 * nr)) (wI v1 (56 + 3 * nr) 0 (nI o)) := by
      unfold cOw
      rw [e_callV hS.k107, x_call k1, e_if, if_neg (by decide), w_tk hS1, xGIe hS1.k106 k4, xPI hX, e_callV c2.1.1.k107]
      rfl
    refine ⟨v3, t3, hr3, m2, ?_⟩
    rcases m3 with ⟨u, ho, sl, ps, a', o1, o2, o3, o4, o5, o6, o7, o8, o9, o10⟩ | ⟨o1, je⟩
    · exact Or.inl ⟨o, u, ho, sl, ps, a', k3, hc3.trans o1, o2, o3, o4, o5, o6, o7, Nat.le_trans (nx_ge C N a) o8, o9, o10⟩
    · exact Or.inr ⟨hc3.trans o1, je⟩
  · refine ⟨v1, t1, ?_, K1.kf, Or.inr ⟨?_, je⟩⟩
    · unfold xOw
      rw [g.1.cv, x_call f1, x_54E je.bd]
    · unfold cOw
      rw [e_callV hS.k107, x_call k1, e_if, if_pos (by decide)]
      rfl
theorem j_ropePart (h : CG v C N a) (g : RG t C N a) (hlt : a < N) (hJ : JW v t C W n nr nt wt) (hI : JI C N W n nr nt) (hr : nr < 6) (r40 : Nat → mM Int32) : JRes v t C N a (fX6_readRope 107) (bCallV 9 113 (fX9_readRope 113) (fun _ => fX9_well_114 r40 113)) r40 := by
  have hJ0 := hJ
  obtain ⟨⟨a1, a2, a3, a4, a5, a6⟩, b1, b2, b3, b4, b5⟩ := hJ
  have hI0 := hI
  obtain ⟨hN, hr0, hla⟩ := hI
  have hS := h.1.1
  have hT := g.1.1
  have h47 : sI t 118 3447 = nI (wPe W) := b1.2.2.2.2.2.2.2.1
  obtain ⟨v1, t1, e1, f1, p1, q1, c1, r1⟩ := j_next h g
  have hS1 := c1.1.1
  have J1 := hJ0.f p1 q1
  have hgt := nx_gt C hlt
  have h471 : sI t1 118 3447 = nI (wPe W) := by rw [(q1.1 118 (by decide)).1]; exact h47
  obtain ⟨v2, t2, f2, p2, q2, hx⟩ := j_newName c1 r1 hN J1.1.2.2.2.1 J1.2.2.1 h471 J1.2.2.2.2.1 (first := 8) (many := nr) (by omega)
  rw [show 56 + 8 + nr = 64 + nr by omega] at q2 hx
  have hS2 : CS v2 := hS1.fi p2.1
  have hw2 : WoS v2 48 := J1.1.1.fi p2.1
  have hrd : fX9_readRope 113 t = bCallV 9 113 (fX9_isOf 113) (fun x2 => bCallV 9 113 (fX9_must 113 x2) (fun _ => xOw (nI nr))) t2 := by
    have hnew : fX9_readNew 113 (8 : Int32) (nI nr) t = some ((), t2) := by
      unfold fX9_readNew
      rw [g.1.cv, x_call f1, li_8]
      exact f2
    unfold fX9_readRope
    rw [xGIe hT.k b4, e_if, if_neg (by rw [li_6, eq_i (by omega) (by omega)]; omega)]
    unfold fX9_readRope_21
    rw [g.1.gi g.2.2.2, e_if, if_pos (by decide), g.1.cv, x_call hnew]
    rfl
  have hcd : fX6_readRope 107 v = bCall (fX6_takeNewName 107) (fun x6 => bIf (x6 = 0) (bRetZ (0 : Int32)) (bCallV 6 107 (fX6_keepName 107 (-1 : Int32)) (fun _ => bGR 6 107 0 (fun x7 => bCallV 4 x7 (fX4_takeWord x7 27) (fun x8 => bIf (x8 = 0) (bRetZ (0 : Int32)) (cOw (56 + 3 * nr))))))) v1 := by
    unfold fX6_readRope
    rw [w_th hS, xGR a1.1 (show sP v 48 10 = 51 from a1.2.2.2.1), xGIe hS.k107 a6, xAR (show sH v 51 = (14, 12) from a1.2.2.2.2.2.2.2.2.2.2.1) (show nr < 12 by omega) (by decide) (show sP v 51 nr = 56 + 3 * nr from (a1.2.2.2.2.2.2.2.2.2.2.2.2.2.2.2 nr (by omega)).1), w_tk hS, e_callV hS.k106, x_call e1, e_callV hS1.k107]
    rfl
  unfold JRes
  rw [g.1.cv]
  rcases hx with ⟨k1, k2, k3, k4, k5, k6, c2, r2⟩ | ⟨k1, je⟩
  · have hNN := nn_of c1.2.2.1 k2 k3
    obtain ⟨hC2, hA2, hB2⟩ := J1.g7 p2 q2
    have hn : n < 14 := by have := hN.1; have := hN.2.1; omega
    have hkeep := c_keepName hS2 hn hC2.1 k4 k5 (-1 : Int32)
    obtain ⟨x, hxe⟩ : ∃ x, x = nx C N a := ⟨_, rfl⟩
    obtain ⟨y, hye⟩ : ∃ y, y = ed C N (nx C N a) := ⟨_, rfl⟩
    rw [← hye, ← hxe] at hkeep hNN
    have hCk : CNT (kpS v2 n x y (-1 : Int32)) (n + 1) (addT nt n x y (8 + nr)) := hC2.add (by rw [if_neg (by omega)]; rfl)
    have hSk : CS (kpS v2 n x y (-1 : Int32)) := hS2.kp
    have ck : CG (kpS v2 n x y (-1 : Int32)) C N (nx C N (nx C N a)) := c2.kp
    have hwk : WoS (kpS v2 n x y (-1 : Int32)) 48 := hw2.kp
    have hb : ∀ b, b ≠ 106 → b ≠ 107 → sI v2 b = sI v b := fun b h1 h2 => by rw [p2.1.1 b (by omega), p1.1.1 b h1]
    have hkp : ∀ b, b ≠ 107 → b ≠ 108 → b ≠ 109 → b ≠ 110 → sI (kpS v2 n x y (-1 : Int32)) b = sI v2 b := fun b h1 h2 h3 h4 => by
      funext j
      unfold kpS
      rw [sI_wI_ne (Or.inl h1), sI_wI_ne (Or.inl h4), sI_wI_ne (Or.inl h3), sI_wI_ne (Or.inl h2)]
    have K2 : KR v (kpS v2 n x y (-1 : Int32)) t t2 C n nr x y nt := by
      refine ⟨⟨(p1.fi.tr p2.kf).tr fi_kp, fun j h1 h2 h3 => ?_, fun b hb' h0 => ?_, hCk⟩, q1.fw.tr q2.1, fun i _ _ => ?_, fun j hj => ?_, ?_, fun j hj => ?_⟩
      · unfold kpS
        rw [sI_wI_ne (Or.inr h1), sI_wI_ne (Or.inl (by decide)), sI_wI_ne (Or.inl (by decide)), sI_wI_ne (Or.inl (by decide)), p2.2 j h2 h3, p1.1.1 107 (by decide)]
      · have hb2 := hb'.2
        rw [hkp b (by omega) (by omega) (by omega) (by omega), hb b (by omega) (by omega)]
      · rw [q2.2.1, (q1.1 118 (by decide)).1]
      · rw [q2.2.2.2 j hj, (q1.1 120 (by decide)).2]
      · rw [hye, hxe]; exact k6
      · rw [q2.2.2.1 j hj, q1.I hj]
    have hN2 := hN.add hNN (z := 8 + nr) (np' := wPe W) (nr' := nr + 1) (Or.inr ⟨rfl, hr, rfl, rfl⟩)
    have hR2 : RNT t2 C (n + 1) (addT nt n x y (8 + nr)) := RNT.add (t := t1) J1.2.2.1 hN (Or.inr rfl) (Or.inr rfl) (fun j hj => q2.2.2.2 j (by omega)) (by rw [show 56 + (8 + nr) = 64 + nr by omega, hye, hxe]; exact k6)
    have hD2 : RoD (kpS v2 n x y (-1 : Int32)) (56 + 3 * nr) r0 := by
      have := a2.2.2.2.2.2.2.2.2.2.2.2 nr (by omega)
      rw [hr0 nr (Nat.le_refl _)] at this
      exact this.mv ((hkp _ (by omega) (by omega) (by omega) (by omega)).trans (hb _ (by omega) (by omega))) ((hkp _ (by omega) (by omega) (by omega) (by omega)).trans (hb _ (by omega) (by omega))) ((hkp _ (by omega) (by omega) (by omega) (by omega)).trans (hb _ (by omega) (by omega)))
    rw [x_call k1, e_if, if_neg (by decide), e_callV hS2.k107, x_call hkeep, w_tk hSk, e_callV hSk.k106] at hcd
    rw [r2.1.cv, x_call (x_isOf r2.1.1), r2.wbq (by decide) (by decide)] at hrd
    obtain ⟨v3, t3, f3, p3, q3, hx3⟩ := j_word ck r2 (z := 27) (by decide) (b := wq C N (nx C N (nx C N a)) 27) rfl
    rw [r2.1.cv, x_call f3] at hrd
    have K3 := K2.fs2 (by omega) p3 q3
    rcases hx3 with ⟨l1, l2, c3, r3⟩ | ⟨l1, l2, je⟩
    · rw [x_call l1, e_if, if_neg (by decide)] at hcd
      have h213 : sI t3 113 21 = nI nr := by rw [K3.2.2.2.2.2 21 (by omega)]; exact b4
      have key := j_owner K3 c3 r3 (hwk.mv p3.1.2) hr h213 (hD2.f6 (by omega) p3) hN2 (fun i hi => by rw [(q3.1 120 (by decide)).2]; exact hR2 i hi) (by rw [(q3.1 118 (by decide)).1, q2.2.1]; exact h471)
      obtain ⟨v4, t4, m1, m2, m3⟩ := key
      rw [x_call (hrd.trans m1)]
      rcases m3 with ⟨o, u, ho, sl, ps, a', o1, o2, o3, o4, o5, o6, o7, o8, o9, o10, o11⟩ | ⟨o1, je⟩
      · subst o3
        have hS4 := o10.1.1
        have JW4 := o4.jw hJ0 hI0 hr o5 o6 o7 o8 o1
        have ck4 : CG (wI v4 107 3 (nI (nr + 1))) C N a' := o10.w (by decide) (by decide)
        have hS5 := ck4.1.1
        have h73 : sI v4 107 3 = nI nr := by rw [o4.1.2.1 3 (by decide) (by decide) (by decide)]; exact a6
        have hc : fX6_readRope 107 v = bCall (fX4_takeSign 106 (nI 59)) (fun x2 => bRetZ x2) (wI v4 107 3 (nI (nr + 1))) := by
          rw [hcd, o2]
          unfold fX6_readRope_145
          rw [xGIe hS4.k107 h73, nI_succ1, xPI hS4.k107, w_tk hS5, e_callV hS5.k106]
          rfl
        obtain ⟨v5, t5, g1, g2, g3, g4⟩ := j_end ck4 (roR_ok o11) r40
        refine ⟨v5, t5, ⟨(m2.1.tr (FI.w _ _ (Or.inl ⟨by decide, by decide⟩))).tr g2.fi, m2.2.tr g3.fw⟩, g1, ?_⟩
        rcases g4 with ⟨s1, s2, s3⟩ | ⟨s1, s2⟩
        · refine Or.inl ⟨_, _, _, _, _, _, by rw [hc, x_call s1]; rfl, s2, s3, JW4.f g2 g3, ⟨hN2, fun q hq => ?_, hla⟩, ?_⟩
          · show (if q = nr then _ else wRo W q) = r0
            rw [if_neg (by omega)]
            exact hr0 q (by omega)
          · have := nx_ge C N a'
            have := nx_ge C N (nx C N a)
            have := nx_ge C N (nx C N (nx C N a))
            omega
        · exact Or.inr ⟨by rw [hc, x_call s1]; rfl, s2⟩
      · exact ⟨v4, t4, m2, by rw [x_114E je.bd], Or.inr ⟨hcd.trans o1, je⟩⟩
    · rw [x_call l1, e_if, if_pos (by decide)] at hcd
      rw [x_call (hrd.trans (x_OwE je.bd _))]
      exact ⟨v3, t3, K3.kf, by rw [x_114E je.bd], Or.inr ⟨hcd.trans rfl, je⟩⟩
  · have hb := je.bd
    rw [e_callV hb.1.k, x_call (x_isOf hb.1), e_callV hb.1.k, x_call (x_mustE hb _), x_OwE hb] at hrd
    rw [x_call k1, e_if, if_pos (by decide)] at hcd
    rw [x_call hrd]
    exact ⟨v2, t2, ⟨p1.fi.tr p2.kf, q1.fw.tr q2.1⟩, by rw [x_114E je.bd], Or.inr ⟨hcd.trans rfl, je⟩⟩
end ROPEC

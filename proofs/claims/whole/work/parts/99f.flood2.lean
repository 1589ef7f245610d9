/-! THE PART OF A FLOOD, WHOLE -/
section FLOODB
variable {v t v0 t0 u : mS} {C : Nat → Nat} {N a n nr x y z : Nat} {nt : tN} {W : wW} {wt : Bool}
theorem flR_n {i f : Nat} (h0 : i ≠ 3448) (h1 : i ≠ 3465 + f) (h2 : i ≠ 3469 + f) (h3 : i ≠ 3473 + f) : sI (flR t f x y z) 118 i = sI t 118 i := by
  unfold flR
  rw [sI_wI_ne (Or.inr h0), sI_wI_ne (Or.inr h3), sI_wI_ne (Or.inr h2), sI_wI_ne (Or.inr h1)]
theorem flR_b {b f j : Nat} (h0 : b ≠ 118) : sI (flR t f x y z) b j = sI t b j := by
  unfold flR
  rw [sI_wI_ne (Or.inl h0), sI_wI_ne (Or.inl h0), sI_wI_ne (Or.inl h0), sI_wI_ne (Or.inl h0)]
theorem flR_x {f : Nat} (hf : f < 4) : sI (flR t f x y z) 118 (3465 + f) = nI x ∧ sI (flR t f x y z) 118 (3469 + f) = nI y ∧ sI (flR t f x y z) 118 (3473 + f) = nI z ∧ sI (flR t f x y z) 118 3448 = nI (f + 1) := by
  unfold flR
  refine ⟨?_, ?_, ?_, sI_wI_eq _ _ _ _⟩
  · rw [sI_wI_ne (Or.inr (by omega)), sI_wI_ne (Or.inr (by omega)), sI_wI_ne (Or.inr (by omega)), sI_wI_eq]
  · rw [sI_wI_ne (Or.inr (by omega)), sI_wI_ne (Or.inr (by omega)), sI_wI_eq]
  · rw [sI_wI_ne (Or.inr (by omega)), sI_wI_eq]
theorem flR_ok {f : Nat} (g : RG u C N a) : RG (flR u f x y z) C N a := by
  unfold flR
  exact ((g.c.c).c).c
theorem KL.jw (hJ : JW v0 t0 C W n nr nt wt) (h : KL v0 v t0 u (wFl W)) (hf : wFl W < 4) (h52 : sI v 52 (wFl W) = nI x) (h53 : sI v 53 (wFl W) = nI y) (h54 : sI v 54 (wFl W) = nI z) (hx : x ≤ 200) (hy : y ≤ 200) (hz : z ≤ 999) : JW (wI v 48 11 (nI (wFl W + 1))) (flR u (wFl W) x y z) C (flo W x y z) n nr nt wt := by
  obtain ⟨⟨a1, a2, a3, a4, a5, a6⟩, b1, b2, b3, b4, b5⟩ := hJ
  obtain ⟨⟨c1, c2⟩, d1⟩ := h
  have e48 : ∀ b, b ≠ 48 → sI (wI v 48 11 (nI (wFl W + 1))) b = sI v b := fun b hb => by
    funext j
    exact sI_wI_ne (Or.inl hb)
  have gb : ∀ b, b ≠ 106 → ¬ (52 ≤ b ∧ b ≤ 54) → sI v b = sI v0 b := fun b h1 h2 => c1.1 b (by show ¬ (b = 106 ∨ (52 ≤ b ∧ b ≤ 54)); omega)
  have g48 : ∀ j, j ≠ 11 → sI (wI v 48 11 (nI (wFl W + 1))) 48 j = sI v0 48 j := fun j hj => by
    rw [sI_wI_ne (Or.inr hj), gb 48 (by decide) (by decide)]
  have gw : ∀ b, b ≠ 48 → b ≠ 106 → ¬ (52 ≤ b ∧ b ≤ 54) → sI (wI v 48 11 (nI (wFl W + 1))) b = sI v0 b := fun b h0 h1 h2 => by rw [e48 b h0, gb b h1 h2]
  have q := (d1.1 118 (by decide)).1
  obtain ⟨f0, f1, f2, f3, f4, f5, f6, f7, f11, fp, ff, fr⟩ := a2
  obtain ⟨r0', r1, r2, r3, r4, r5, r6, r7, r8, rp, rf, rr, rw', rl⟩ := b1
  obtain ⟨w1, w2, w3, w4, w5, w6, w7, w8, w9, w10, w11, w12, w13, w14, w15, w16⟩ := rw'
  obtain ⟨x1, x2, x3, x4⟩ := flR_x (t := u) (x := x) (y := y) (z := z) hf
  have hg : ∀ i, i ≠ 3448 → i ≠ 3465 + wFl W → i ≠ 3469 + wFl W → i ≠ 3473 + wFl W → sI (flR u (wFl W) x y z) 118 i = sI t0 118 i := fun i h0 h1 h2 h3 => by
    rw [flR_n h0 h1 h2 h3, q]
  refine ⟨⟨(a1.fi c1).mv rfl, ⟨?_, ?_, ?_, ?_, ?_, ?_, ?_, ?_, ?_, ?_, ?_, ?_⟩, ?_, ?_, ?_, ?_⟩, ⟨?_, ?_, ?_, ?_, ?_, ?_, ?_, ?_, ?_, ?_, ?_, ?_, ?_, ?_⟩, ?_, ?_, ?_, ?_⟩
  · rw [g48 0 (by decide)]; exact f0
  · rw [g48 1 (by decide)]; exact f1
  · rw [g48 2 (by decide)]; exact f2
  · rw [g48 3 (by decide)]; exact f3
  · rw [g48 4 (by decide)]; exact f4
  · rw [g48 5 (by decide)]; exact f5
  · rw [g48 6 (by decide)]; exact f6
  · rw [g48 7 (by decide)]; exact f7
  · exact sI_wI_eq _ _ _ _
  · intro p hp
    rw [gw 49 (by decide) (by decide) (by decide), gw 50 (by decide) (by decide) (by decide)]
    exact fp p hp
  · intro i hi
    have hi : i < wFl W + 1 := hi
    show sI _ 52 i = nI (if i = wFl W then (x, y, z) else wFd W i).1 ∧ sI _ 53 i = nI (if i = wFl W then (x, y, z) else wFd W i).2.1 ∧ sI _ 54 i = nI (if i = wFl W then (x, y, z) else wFd W i).2.2
    rw [e48 52 (by decide), e48 53 (by decide), e48 54 (by decide)]
    by_cases h0 : i = wFl W
    · rw [if_pos h0, h0]; exact ⟨h52, h53, h54⟩
    · rw [if_neg h0, c2 52 i (by decide) (by decide) h0, c2 53 i (by decide) (by decide) h0, c2 54 i (by decide) (by decide) h0]; exact ff i (by omega)
  · intro r hr
    exact (fr r hr).mv (gw _ (by omega) (by omega) (by omega)) (gw _ (by omega) (by omega) (by omega)) (gw _ (by omega) (by omega) (by omega))
  · show sP v 48 16 = 0
    rw [c1.P]; exact a3
  · unfold CNT
    rw [gw 107 (by decide) (by decide) (by decide), gw 108 (by decide) (by decide) (by decide), gw 109 (by decide) (by decide) (by decide), gw 110 (by decide) (by decide) (by decide)]
    exact a4
  · rw [gw 107 (by decide) (by decide) (by decide)]; exact a5
  · rw [gw 107 (by decide) (by decide) (by decide)]; exact a6
  · show sI _ 118 (3440 + 0) = _
    rw [hg _ (by omega) (by omega) (by omega) (by omega)]; exact r0'
  · show sI _ 118 (3440 + 1) = _
    rw [hg _ (by omega) (by omega) (by omega) (by omega)]; exact r1
  · show sI _ 118 (3440 + 2) = _
    rw [hg _ (by omega) (by omega) (by omega) (by omega)]; exact r2
  · show sI _ 118 (3440 + 3) = _
    rw [hg _ (by omega) (by omega) (by omega) (by omega)]; exact r3
  · show sI _ 118 (3440 + 4) = _
    rw [hg _ (by omega) (by omega) (by omega) (by omega)]; exact r4
  · show sI _ 118 (3440 + 5) = _
    rw [hg _ (by omega) (by omega) (by omega) (by omega)]; exact r5
  · show sI _ 118 (3440 + 6) = _
    rw [hg _ (by omega) (by omega) (by omega) (by omega)]; exact r6
  · show sI _ 118 (3440 + 7) = _
    rw [hg _ (by omega) (by omega) (by omega) (by omega)]; exact r7
  · exact x4
  · intro p hp
    have hp8 : p < 8 := Nat.lt_of_lt_of_le hp w8
    show sI _ 118 _ = _ ∧ sI _ 118 _ = _
    rw [hg _ (by omega) (by omega) (by omega) (by omega), hg _ (by omega) (by omega) (by omega) (by omega)]
    exact rp p hp
  · intro i hi
    have hi : i < wFl W + 1 := hi
    show sI _ 118 (3440 + (25 + i)) = nI (if i = wFl W then (x, y, z) else wFd W i).1 ∧ sI _ 118 (3440 + (29 + i)) = nI (if i = wFl W then (x, y, z) else wFd W i).2.1 ∧ sI _ 118 (3440 + (33 + i)) = nI (if i = wFl W then (x, y, z) else wFd W i).2.2
    by_cases h0 : i = wFl W
    · rw [if_pos h0, h0, show 3440 + (25 + wFl W) = 3465 + wFl W by omega, show 3440 + (29 + wFl W) = 3469 + wFl W by omega, show 3440 + (33 + wFl W) = 3473 + wFl W by omega]; exact ⟨x1, x2, x3⟩
    · rw [if_neg h0, hg _ (by omega) (by omega) (by omega) (by omega), hg _ (by omega) (by omega) (by omega) (by omega), hg _ (by omega) (by omega) (by omega) (by omega)]
      exact rf i (by omega)
  · intro r hr
    exact (rr r hr).mv (w13 r).1 fun i hi => by
      show sI _ 118 (3440 + i) = sI t0 118 (3440 + i)
      exact hg _ (by omega) (by omega) (by omega) (by omega)
  · refine ⟨w1, w2, w3, w4, w5, w6, w7, w8, w9, w10, hf, fun i => ?_, w13, w14, w15, w16⟩
    show (if i = wFl W then (x, y, z) else wFd W i).1 ≤ 200 ∧ (if i = wFl W then (x, y, z) else wFd W i).2.1 ≤ 200 ∧ (if i = wFl W then (x, y, z) else wFd W i).2.2 ≤ 999
    by_cases h0 : i = wFl W
    · rw [if_pos h0]; exact ⟨hx, hy, hz⟩
    · rw [if_neg h0]; exact w12 i
  · obtain ⟨l1, l2, l3⟩ := rl
    refine ⟨?_, fun k hk => ?_, fun j hj => ?_⟩
    · show sI _ 118 (3440 + 289) = _
      rw [hg _ (by omega) (by omega) (by omega) (by omega)]; exact l1
    · show sI _ 118 _ = _ ∧ sI _ 118 _ = _ ∧ sI _ 118 _ = _
      rw [hg _ (by omega) (by omega) (by omega) (by omega), hg _ (by omega) (by omega) (by omega) (by omega), hg _ (by omega) (by omega) (by omega) (by omega)]; exact l2 k hk
    · show sI _ 118 _ = _ ∧ sI _ 118 _ = _ ∧ sI _ 118 _ = _
      rw [hg _ (by omega) (by omega) (by omega) (by omega), hg _ (by omega) (by omega) (by omega) (by omega), hg _ (by omega) (by omega) (by omega) (by omega)]; exact l3 j hj
  · intro i hi
    show sL u 120 _ = _
    rw [(d1.1 120 (by decide)).2]
    exact b2 i hi
  · rw [flR_b (by decide), d1.I (by decide)]; exact b3
  · rw [flR_b (by decide), d1.I (by decide)]; exact b4
  · refine ⟨fun p h1 h2 => ?_, fun r h1 h2 => ?_⟩
    · rw [hg _ (by omega) (by omega) (by omega) (by omega), hg _ (by omega) (by omega) (by omega) (by omega)]
      exact b5.1 p h1 h2
    · rw [hg _ (by omega) (by omega) (by omega) (by omega)]
      exact b5.2 r h1 h2
theorem j_floodPart (h : CG v C N a) (g : RG t C N a) (hlt : a < N) (hJ : JW v t C W n nr nt wt) (hI : JI C N W n nr nt) (hf : wFl W < 4) (r40 : Nat → mM Int32) : JRes v t C N a (fX6_readFlood 107) (bCallV 9 113 (fX9_readFlood 113) (fun _ => fX9_well_114 r40 113)) r40 := by
  have hJ0 := hJ
  obtain ⟨⟨a1, a2, a3, a4, a5, a6⟩, b1, b2, b3, b4, b5⟩ := hJ
  have hS := h.1.1
  have hT := g.1.1
  have h11 : sI v 48 11 = nI (wFl W) := a2.2.2.2.2.2.2.2.2.1
  have h48 : sI t 118 3448 = nI (wFl W) := b1.2.2.2.2.2.2.2.2.1
  obtain ⟨v1, t1, e1, f1, p1, q1, c1, r1⟩ := j_next h g
  have hS1 := c1.1.1
  have hgt := nx_gt C hlt
  obtain ⟨v2, t2, x, f2, p2, q2, hx⟩ := j_num c1 r1 (lo := 0) (hi := 200) (by decide) (by decide)
  have hS2 : CS v2 := hS1.fi p2.1
  have p12 := p1.1.tr p2.1
  have hw2 : WoS v2 48 := a1.mv p12.2
  have K0 : KL v v t t (wFl W) := ⟨⟨⟨fun _ _ => rfl, rfl⟩, fun _ _ _ _ _ => rfl⟩, F9.rf⟩
  have K2 : KL v v2 t t2 (wFl W) := (K0.fs2 p1 q1).fs2 p2 q2
  have hr0 : fX9_readFlood 113 t = fl0 (nI (wFl W)) (nI x) t2 := by
    unfold fX9_readFlood
    rw [rt_c hT, li_3448, rt_n hT (by decide), h48, e_if, if_neg (by rw [li_4, eq_i (by omega) (by omega)]; omega)]
    unfold fX9_readFlood_24
    rw [g.1.gi g.2.2.2, e_if, if_pos (by decide), g.1.cv, x_call f1, r1.1.cv, li_0, li_200, x_call f2]
    rfl
  unfold JRes
  rw [g.1.cv]
  rcases hx with ⟨k1, k2, k3, k4, c2, r2⟩ | ⟨k1, je⟩
  · have hc0 : fX6_readFlood 107 v = cl1 (nI (wFl W)) (wI v2 52 (wFl W) (nI x)) := by
      unfold fX6_readFlood
      rw [w_th hS, xGIe (show (sH v 48).1 = 7 from a1.1) h11, w_tk hS, e_callV hS.k106, x_call e1, w_tk hS1, e_callV hS1.k106, li_0, li_200, x_call k1, e_if, if_neg (by decide), w_th hS2, xGR hw2.1 (show sP v2 48 12 = 52 from hw2.2.2.2.2.1), w_tk hS2, xGIe hS2.k106 k2, xSI (show sH v2 52 = (11, 4) from hw2.2.2.2.2.2.2.2.2.2.2.2.1) hf (by decide)]
      rfl
    have K3 := K2.w (b := 52) (i := nI x) ⟨by decide, by decide⟩
    have c3 : CG (wI v2 52 (wFl W) (nI x)) C N (nx C N (nx C N a)) := c2.w (by decide) (by decide)
    have h482 : sI t2 118 3448 = nI (wFl W) := by rw [(q2.1 118 (by decide)).1, (q1.1 118 (by decide)).1]; exact h48
    have key : FRes v (wI v2 52 (wFl W) (nI x)) t t2 C N (nx C N (nx C N a)) (wFl W) x (cl1 (nI (wFl W))) (fl0 (nI (wFl W)) (nI x)) := by
      refine j_fw K3 c3 r2 (by decide) (by decide) (x_isTo r2.1.1) (fun u hu => fl1E hu _ _) (fun v3 t3 d3 s3 p3 q3 h6 => ?_)
      refine (j_fl1 (K3.fs2 p3 q3) d3 s3 (hw2.w.mv p3.1.2) hf ?_ ?_ ?_ k4)
      · rw [(q3.1 118 (by decide)).1]; exact h482
      · rw [p3.1.1 52 (by decide), sI_wI_eq]
      · rw [h6, sI_wI_ne (Or.inl (by decide))]; exact k2
    obtain ⟨v3, t3, m1, m2, m3⟩ := key
    rw [x_call (hr0.trans m1)]
    rcases m3 with ⟨y, z, u, a', o1, o2, o3, o4, o5, o6, o7, o8, o9, o10, o11⟩ | ⟨o1, je⟩
    · subst o2
      have hS3 := o10.1.1
      have hw3 : WoS v3 48 := a1.fi o3.1.1
      have hSm : CS (wI v3 48 11 (nI (wFl W + 1))) := hS3.w
      have JW3 := o3.jw hJ0 hf o4 o5 o6 k4 o7 o8
      have ck : CG (wI v3 48 11 (nI (wFl W + 1))) C N a' := o10.w (by decide) (by decide)
      have hc : fX6_readFlood 107 v = bCall (fX4_takeSign 106 (nI 59)) (fun x2 => bRetZ x2) (wI v3 48 11 (nI (wFl W + 1))) := by
        rw [hc0, o1]
        unfold cl5
        rw [w_th hS3, nI_succ1, xPI hw3.1, w_tk hSm, e_callV hSm.k106]
        rfl
      obtain ⟨v4, t4, g1, g2, g3, g4⟩ := j_end ck (flR_ok o11) r40
      refine ⟨v4, t4, ⟨(m2.1.tr (FI.w _ _ (Or.inr ⟨by decide, by decide⟩))).tr g2.fi, m2.2.tr g3.fw⟩, g1, ?_⟩
      rcases g4 with ⟨s1, s2, s3⟩ | ⟨s1, s2⟩
      · refine Or.inl ⟨_, _, _, _, _, _, by rw [hc, x_call s1]; rfl, s2, s3, JW3.f g2 g3, hI, ?_⟩
        have := nx_ge C N a'
        have := nx_ge C N (nx C N a)
        omega
      · exact Or.inr ⟨by rw [hc, x_call s1]; rfl, s2⟩
    · exact ⟨v3, t3, m2, by rw [x_114E je.bd], Or.inr ⟨by rw [hc0, o1], je⟩⟩
  · rw [x_call (hr0.trans (fl0E je.bd _ _))]
    refine ⟨v2, t2, K2.kf, by rw [x_114E je.bd], Or.inr ⟨?_, je⟩⟩
    unfold fX6_readFlood
    rw [w_th hS, xGIe (show (sH v 48).1 = 7 from a1.1) h11, w_tk hS, e_callV hS.k106, x_call e1, w_tk hS1, e_callV hS1.k106, li_0, li_200, x_call k1, e_if, if_pos (by decide)]
    rfl
end FLOODB

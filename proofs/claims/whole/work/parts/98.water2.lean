/-! WATER, THE WHOLE PART -/
def wat (W : wW) (w b s r rb : Nat) : wW := (wYr W, w, b, s, r, rb, wDr W, wPe W, wPa W, wDi W, wFl W, wFd W, wRo W, wLa W)
/-- what a part of the text does to both -/
def JRes (v t : mS) (C : Nat → Nat) (N a : Nat) (fc fr : mM Int32) (r40 : Nat → mM Int32) : Prop := ∃ v' t', KF v v' t t' ∧ fr t = r40 113 t' ∧ ((∃ W' n' nr' nt' wt' a', fc v = some (nI 1, v') ∧ CG v' C N a' ∧ RG t' C N a' ∧ JW v' t' C W' n' nr' nt' wt' ∧ JI C N W' n' nr' nt' ∧ a < a') ∨ (fc v = some (nI 0, v') ∧ JE v' t'))
section WATER
variable {v t : mS} {C : Nat → Nat} {N a : Nat}
theorem x_114E (h : BD t) (r40 : Nat → mM Int32) : fX9_well_114 r40 113 t = r40 113 t := by
  unfold fX9_well_114
  rw [e_callV h.1.k, li_59, x_call (x_isSign h.1 59), e_callV h.1.k, x_call (x_mustE h _)]
theorem j_end (h : CG v C N a) (g : RG t C N a) (r40 : Nat → mM Int32) : ∃ v' t', fX9_well_114 r40 113 t = r40 113 t' ∧ F6 j28 v v' ∧ F9 i12 l22 t t' ∧ ((fX4_takeSign 106 (nI 59) v = some (nI 1, v') ∧ CG v' C N (nx C N a) ∧ RG t' C N (nx C N a)) ∨ (fX4_takeSign 106 (nI 59) v = some (nI 0, v') ∧ JE v' t')) := by
  obtain ⟨v', t', e1, e2, e3, e4⟩ := j_sign h g (c := 59) (by decide) rfl
  refine ⟨v', t', ?_, e2, e3, e4⟩
  unfold fX9_well_114
  rw [g.1.cv, li_59, x_call (x_isSign g.1.1 59), g.sbq2 (by decide), g.1.cv, x_call e1]
theorem nx_ge (C : Nat → Nat) (N a : Nat) : a ≤ nx C N a := Nat.le_trans (ed_ge C N _) (sk_ge C N _)
theorem KW.jw {v0 t0 : mS} {W : wW} {n nr w b s r rb : Nat} {nt : tN} (hJ : JW v0 t0 C W n nr nt false) (h : KW v0 v t0 t w b s r rb) (h1 : w ≤ 999) (h2 : b ≤ 999) (h3 : s ≤ 99) (h4 : r ≤ 16) (h5 : rb ≤ 99) : JW v t C (wat W w b s r rb) n nr nt true := by
  obtain ⟨⟨a1, a2, a3, a4, a5, a6⟩, b1, b2, b3, b4, b5⟩ := hJ
  obtain ⟨⟨c1, c2, c3, c4, c5, c6, c7, c8, c9⟩, d1, d2, d3, d4, d5, d6, d7, d8, d9, d0⟩ := h
  have g : ∀ x, x ≠ 106 → x ≠ 107 → x ≠ 48 → sI v x = sI v0 x := fun x q1 q2 q3 => c1.1 x (by show ¬ (_ ∨ _ ∨ _); omega)
  obtain ⟨f0, f1, f2, f3, f4, f5, f6, f7, f11, fp, ff, fr⟩ := a2
  obtain ⟨r0', r1, r2, r3, r4, r5, r6, r7, r8, rp, rf, rr, rw', rl⟩ := b1
  refine ⟨⟨a1.mv c1.2, ⟨?_, c5, c6, c7, c8, c9, ?_, ?_, ?_, ?_, ?_, ?_⟩, by rw [c1.P]; exact a3, ?_, c3, by rw [c2 3 (by decide)]; exact a6⟩, ⟨?_, ?_, ?_, ?_, ?_, ?_, ?_, ?_, ?_, ?_, ?_, ?_, ?_, ?_⟩, ?_, d4, by rw [d5]; exact b4, fun p h1 h2 => by rw [d2 _ (by omega), d2 _ (by omega)]; exact b5.1 p h1 h2, fun q h1 h2 => by rw [d2 _ (by omega)]; exact b5.2 q h1 h2⟩
  · rw [c4 0 (Or.inl rfl)]; exact f0
  · rw [c4 6 (by omega)]; exact f6
  · rw [c4 7 (by omega)]; exact f7
  · rw [c4 11 (by omega)]; exact f11
  · intro p hp
    rw [g 49 (by decide) (by decide) (by decide), g 50 (by decide) (by decide) (by decide)]
    exact fp p hp
  · intro q hq
    rw [g 52 (by decide) (by decide) (by decide), g 53 (by decide) (by decide) (by decide), g 54 (by decide) (by decide) (by decide)]
    exact ff q hq
  · intro q hq
    exact (fr q hq).mv (g _ (by omega) (by omega) (by omega)) (g _ (by omega) (by omega) (by omega)) (g _ (by omega) (by omega) (by omega))
  · unfold CNT
    rw [c2 4 (by decide), g 108 (by decide) (by decide) (by decide), g 109 (by decide) (by decide) (by decide), g 110 (by decide) (by decide) (by decide)]
    exact a4
  · exact d6
  · exact d7
  · exact d8
  · exact d9
  · exact d0
  · show sI t 118 (3440 + 5) = _
    rw [d2 _ (by omega)]; exact r5
  · show sI t 118 (3440 + 6) = _
    rw [d2 _ (by omega)]; exact r6
  · show sI t 118 (3440 + 7) = _
    rw [d2 _ (by omega)]; exact r7
  · show sI t 118 (3440 + 8) = _
    rw [d2 _ (by omega)]; exact r8
  · intro p hp
    show sI t 118 _ = _ ∧ sI t 118 _ = _
    rw [d2 _ (by omega), d2 _ (by omega)]; exact rp p hp
  · intro q hq
    show sI t 118 _ = _ ∧ sI t 118 _ = _ ∧ sI t 118 _ = _
    rw [d2 _ (by omega), d2 _ (by omega), d2 _ (by omega)]; exact rf q hq
  · intro q hq
    exact (rr q hq).mv (rw'.2.2.2.2.2.2.2.2.2.2.2.2.1 q).1 fun i hi => by
      show sI t 118 (3440 + i) = sI t0 118 (3440 + i)
      rw [d2 _ (by omega)]
  · obtain ⟨w1, w2, w3, w4, w5, w6, w7⟩ := rw'
    exact ⟨w1, h1, h2, h3, h4, h5, w7⟩
  · obtain ⟨l1, l2, l3⟩ := rl
    refine ⟨?_, fun k hk => ?_, fun j hj => ?_⟩
    · show sI t 118 (3440 + 289) = _
      rw [d2 _ (by omega)]; exact l1
    · show sI t 118 _ = _ ∧ sI t 118 _ = _ ∧ sI t 118 _ = _
      rw [d2 _ (by omega), d2 _ (by omega), d2 _ (by omega)]; exact l2 k hk
    · show sI t 118 _ = _ ∧ sI t 118 _ = _ ∧ sI t 118 _ = _
      rw [d2 _ (by omega), d2 _ (by omega), d2 _ (by omega)]; exact l3 j hj
  · unfold RNT
    rw [d3]
    exact b2
theorem x_106E (h : BD t) : fX9_readWater_106 113 t = some ((), t) := by
  unfold fX9_readWater_106
  rw [xGI h.1.k, e_if, if_neg h.ne.2]
  rfl
theorem j_sinks {v0 t0 : mS} {w b s r rb : Nat} (hK : KW v0 v t0 t w b s r rb) (h : CG v C N a) (g : RG t C N a) (hw : WoS v 48) (hs : s ≤ 99) (hr : r ≤ 16) (hrb : rb ≤ 99) : ∃ v' t', (bGI 9 113 12 (fun x7 => bIf (x7 = 0) (bCallV 9 113 (fX9_isSinks 113) (fun x8 => bIf (x8 = 0) (fX9_readWater_106 113) (bCallV 9 113 (fX9_next 113) (fun _ => bGR 9 113 24 (fun x9 => bCallV 9 113 (fX9_count 113 (0 : Int32) (99 : Int32)) (fun x10 => bSI x9 (3442 : Int32) x10 (fX9_readWater_106 113))))))) (fX9_readWater_106 113))) t = some ((), t') ∧ KF v0 v' t0 t' ∧ ((∃ s' r' rb' a', (bGR 6 107 0 (fun x14 => bCallV 4 x14 (fX4_isWord x14 24) (fun x15 => bIf (x15 = 0) (fX6_readWater_132 107) (bGR 6 107 0 (fun x16 => bCallV 4 x16 (fX4_next x16) (fun _ => bGR 6 107 0 (fun x17 => bCallV 4 x17 (fX4_takeNumber x17 (0 : Int32) (99 : Int32)) (fun x18 => bIf (x18 = 0) (bRetZ (0 : Int32)) (bGR 6 107 1 (fun x19 => bGR 6 107 0 (fun x20 => bGI 4 x20 6 (fun x21 => bPI 7 x19 3 x21 (fX6_readWater_132 107))))))))))))) v = fX6_readWater_153 107 v' ∧ KW v0 v' t0 t' w b s' r' rb' ∧ s' ≤ 99 ∧ r' ≤ 16 ∧ rb' ≤ 99 ∧ a ≤ a' ∧ CG v' C N a' ∧ RG t' C N a') ∨ ((bGR 6 107 0 (fun x14 => bCallV 4 x14 (fX4_isWord x14 24) (fun x15 => bIf (x15 = 0) (fX6_readWater_132 107) (bGR 6 107 0 (fun x16 => bCallV 4 x16 (fX4_next x16) (fun _ => bGR 6 107 0 (fun x17 => bCallV 4 x17 (fX4_takeNumber x17 (0 : Int32) (99 : Int32)) (fun x18 => bIf (x18 = 0) (bRetZ (0 : Int32)) (bGR 6 107 1 (fun x19 => bGR 6 107 0 (fun x20 => bGI 4 x20 6 (fun x21 => bPI 7 x19 3 x21 (fX6_readWater_132 107))))))))))))) v = some (nI 0, v') ∧ JE v' t')) := by
  have hS := h.1.1
  rw [w_tk hS, e_callV hS.k106, x_call (c_isWord h (by decide)), g.1.gi g.2.2.2, e_if, if_pos (by decide), g.1.cv, x_call (x_isSinks g.1.1), g.wbq (by decide) (by decide), e_if, e_if]
  cases hq : wq C N a 24 with
  | false =>
    rw [if_pos (by decide), if_pos (by decide)]
    obtain ⟨v', t', e1, e2, e3⟩ := j_rain hK h g hw hr hrb
    refine ⟨v', t', e1, e2, ?_⟩
    rcases e3 with ⟨r', rb', a', q1, q2, q3, q4, q5, q6, q7⟩ | e3
    · exact Or.inl ⟨s, r', rb', a', q1, q2, hs, q3, q4, q5, q6, q7⟩
    · exact Or.inr e3
  | true =>
    obtain ⟨v1, t1, e1, f1, p1, q1, c1, r1⟩ := j_next h g
    have hS1 := c1.1.1
    have hT1 := r1.1.1
    have K1 := hK.f p1 q1
    have hw1 : WoS v1 48 := hw.mv p1.1.2
    obtain ⟨v2, t2, x, f2, p2, q2, hx⟩ := j_num c1 r1 (lo := 0) (hi := 99) (by decide) (by decide)
    have hT2 := hT1.f9 q2
    have K2 := K1.f p2 q2
    have hw2 : WoS v2 48 := hw1.mv p2.1.2
    have hS2 : CS v2 := hS1.fi p2.1
    have hn1 := nx_ge C N a
    have hn2 := nx_ge C N (nx C N a)
    rw [if_neg (by decide), if_neg (by decide), w_tk hS, e_callV hS.k106, x_call e1, w_tk hS1, e_callV hS1.k106, g.1.cv, x_call f1, rt_c hT1, e_callV hT1.k, li_0, li_99, x_call f2, li_3442, rt_cell hT2 (by decide)]
    rcases hx with ⟨k1, k2, k3, k4, c2, r2⟩ | ⟨k1, je⟩
    · have K3 := K2.put 2 x (by decide)
      simp only [show ¬ (2 = 0) by decide, show ¬ (2 = 1) by decide, show ¬ (2 = 3) by decide, show ¬ (2 = 4) by decide, if_false, if_true] at K3
      obtain ⟨v', t', m1, m2, m3⟩ := j_rain K3 (c2.w (by decide) (by decide)) r2.c hw2.w hr hrb
      rw [x_call k1, e_if, if_neg (by decide), w_th hS2, w_tk hS2, xGIe hS2.k106 k2, w48 hw2]
      refine ⟨v', t', m1, m2, ?_⟩
      rcases m3 with ⟨r', rb', a', q1, q2, q3, q4, q5, q6, q7⟩ | m3
      · exact Or.inl ⟨x, r', rb', a', q1, q2, k4, q3, q4, by omega, q6, q7⟩
      · exact Or.inr m3
    · have hb := je.bd.cc (i := 3442) (x := nI x)
      rw [x_call k1, e_if, if_pos (by decide), x_106E hb]
      exact ⟨v2, _, rfl, K2.kf.f (F6.rf (A := j28)) (FW.c (by decide)), Or.inr ⟨rfl, je.c (by decide)⟩⟩
theorem j_waterB {W : wW} {n nr : Nat} {nt : tN} (h : CG v C N a) (g : RG t C N a) (hlt : a < N) (hJ : JW v t C W n nr nt false) : ∃ v' t', fX9_readWater 113 t = some ((), t') ∧ KF v v' t t' ∧ ((∃ w b s r rb a', fX6_readWater 107 v = fX6_readWater_153 107 v' ∧ KW v v' t t' w b s r rb ∧ w ≤ 999 ∧ b ≤ 999 ∧ s ≤ 99 ∧ r ≤ 16 ∧ rb ≤ 99 ∧ a < a' ∧ CG v' C N a' ∧ RG t' C N a') ∨ (fX6_readWater 107 v = some (nI 0, v') ∧ JE v' t')) := by
  obtain ⟨⟨a1, a2, a3, a4, a5, a6⟩, b1, b2, b3, b4⟩ := hJ
  have hwo := b1.2.2.2.2.2.2.2.2.2.2.2.2.1
  have hS := h.1.1
  have hT := g.1.1
  have cA : CG (wI v 107 2 (nI 1)) C N a := h.w (by decide) (by decide)
  have rA : RG (wI t 113 23 (nI 1)) C N a := g.i (by decide)
  have hSA := cA.1.1
  have hwA : WoS (wI v 107 2 (nI 1)) 48 := a1.w
  have KA : KW v (wI v 107 2 (nI 1)) t (wI t 113 23 (nI 1)) (wWa W) (wBo W) (wSi W) (wRa W) (wRb W) := by
    obtain ⟨f0, f1, f2, f3, f4, f5, -⟩ := a2
    obtain ⟨r0', r1, r2, r3, r4, -⟩ := b1
    have e48 : ∀ j, sI (wI v 107 2 (nI 1)) 48 j = sI v 48 j := fun j => sI_wI_ne (Or.inl (by decide))
    have e118 : ∀ j, sI (wI t 113 23 (nI 1)) 118 j = sI t 118 j := fun j => sI_wI_ne (Or.inl (by decide))
    refine ⟨⟨FI.w _ _ (Or.inr (Or.inl rfl)), fun j hj => sI_wI_ne (Or.inr hj), sI_wI_eq _ _ _ _, fun j _ => e48 j, ?_, ?_, ?_, ?_, ?_⟩, FW.i ⟨by decide, by decide⟩, fun i _ => e118 i, rfl, sI_wI_eq _ _ _ _, sI_wI_ne (Or.inr (by decide)), ?_, ?_, ?_, ?_, ?_⟩
    · rw [e48]; exact f1
    · rw [e48]; exact f2
    · rw [e48]; exact f3
    · rw [e48]; exact f4
    · rw [e48]; exact f5
    · rw [e118]; exact r0'
    · rw [e118]; exact r1
    · rw [e118]; exact r2
    · rw [e118]; exact r3
    · rw [e118]; exact r4
  obtain ⟨v1, t1, e1, f1, p1, q1, c1, r1⟩ := j_next cA rA
  have hS1 := c1.1.1
  have hT1 := r1.1.1
  have K1 := KA.f p1 q1
  have hw1 : WoS v1 48 := hwA.mv p1.1.2
  have hgt := nx_gt C hlt
  obtain ⟨v2, t2, x, f2, p2, q2, hx⟩ := j_num c1 r1 (lo := 0) (hi := 999) (by decide) (by decide)
  have hT2 := hT1.f9 q2
  have K2 := K1.f p2 q2
  have hw2 : WoS v2 48 := hw1.mv p2.1.2
  have hS2 : CS v2 := hS1.fi p2.1
  have hT3 : RT (wI t2 118 3440 (nI x)) := hT2.w
  have hn2 := nx_ge C N (nx C N a)
  have hn3 := nx_ge C N (nx C N (nx C N a))
  have hn4 := nx_ge C N (nx C N (nx C N (nx C N a)))
  unfold fX6_readWater fX9_readWater
  rw [xPZ hS.k107 (Or.inr (by rfl)), xGIe hT.k b3, e_if, if_pos (by decide)]
  unfold fX9_readWater_16
  rw [g.1.gi g.2.2.2, e_if, if_pos (by decide), xPZ hT.k (Or.inr (by rfl)), li_1, w_tk hSA, e_callV hSA.k106, x_call e1, w_tk hS1, e_callV hS1.k106, rA.1.cv, x_call f1, rt_c hT1, e_callV hT1.k, li_0, li_999, x_call f2, li_3440, rt_cell hT2 (by decide), e_callV hT3.k]
  rcases hx with ⟨k1, k2, k3, k4, c2, r2⟩ | ⟨k1, je⟩
  · have K3 := K2.put 0 x (by decide)
    simp only [show ¬ (0 = 1) by decide, show ¬ (0 = 2) by decide, show ¬ (0 = 3) by decide, show ¬ (0 = 4) by decide, if_false, if_true] at K3
    have c3 : CG (wI v2 48 (0 + 1) (nI x)) C N (nx C N (nx C N a)) := c2.w (by decide) (by decide)
    have r3 : RG (wI t2 118 (3440 + 0) (nI x)) C N (nx C N (nx C N a)) := r2.c
    have hw3 : WoS (wI v2 48 (0 + 1) (nI x)) 48 := hw2.w
    have hS3 := c3.1.1
    obtain ⟨v4, t4, f4, p4, q4, hy⟩ := j_word c3 r3 (z := 23) (by decide) rfl
    have hT4 := r3.1.1.f9 q4
    have hS4 : CS v4 := hS3.fi p4.1
    have K4 := K3.f p4 q4
    have hw4 : WoS v4 48 := hw3.mv p4.1.2
    rw [x_call k1, e_if, if_neg (by decide), w_th hS2, w_tk hS2, xGIe hS2.k106 k2, w48 hw2]
    rw [w_tk hS3, e_callV hS3.k106, x_call (x_isBottom r3.1.1), r3.wbq (by decide) (by decide), r3.1.cv, x_call f4, rt_c hT4, e_callV hT4.k]
    rcases hy with ⟨m1, m2, c4, r4⟩ | ⟨m1, m2, je⟩
    · obtain ⟨v5, t5, y, f5, p5, q5, hz⟩ := j_num c4 r4 (lo := 0) (hi := 999) (by decide) (by decide)
      have hT5 := hT4.f9 q5
      have hS5 : CS v5 := hS4.fi p5.1
      have K5 := K4.f p5 q5
      have hw5 : WoS v5 48 := hw4.mv p5.1.2
      rw [x_call f5, li_3441, rt_cell hT5 (by decide), x_call m1, e_if, if_neg (by decide), w_tk hS4, e_callV hS4.k106]
      rcases hz with ⟨o1, o2, o3, o4, c5, r5⟩ | ⟨o1, je⟩
      · have K6 := K5.put 1 y (by decide)
        simp only [show ¬ (1 = 0) by decide, show ¬ (1 = 2) by decide, show ¬ (1 = 3) by decide, show ¬ (1 = 4) by decide, if_false, if_true] at K6
        obtain ⟨v', t', z1, z2, z3⟩ := j_sinks K6 (c5.w (by decide) (by decide)) r5.c hw5.w hwo.2.2.2.1 hwo.2.2.2.2.1 hwo.2.2.2.2.2.1
        rw [x_call o1, e_if, if_neg (by decide), w_th hS5, w_tk hS5, xGIe hS5.k106 o2, w48 hw5]
        refine ⟨v', t', z1, z2, ?_⟩
        rcases z3 with ⟨s', r', rb', a', u1, u2, u3, u4, u5, u6, u7, u8⟩ | z3
        · exact Or.inl ⟨x, y, s', r', rb', a', u1, u2, k4, o4, u3, u4, u5, by omega, u7, u8⟩
        · exact Or.inr z3
      · have hb := je.bd.cc (i := 3441) (x := nI y)
        rw [x_call o1, e_if, if_pos (by decide), xGI hb.1.k, e_if, if_neg (show ¬ _ = nI 0 from hb.ne.2), x_106E hb]
        exact ⟨v5, _, rfl, K5.kf.f (F6.rf (A := j28)) (FW.c (by decide)), Or.inr ⟨rfl, je.c (by decide)⟩⟩
    · rw [x_call (x_countE je.bd _ _), li_3441, rt_cell hT4 (by decide)]
      have hb := je.bd.cc (i := 3441) (x := nI 0)
      rw [x_call m1, e_if, if_pos (by decide), xGI hb.1.k, e_if, if_neg (show ¬ _ = nI 0 from hb.ne.2), x_106E hb]
      exact ⟨v4, _, rfl, K4.kf.f (F6.rf (A := j28)) (FW.c (by decide)), Or.inr ⟨rfl, je.c (by decide)⟩⟩
  · have hb := je.bd.cc (i := 3440) (x := nI x)
    rw [x_call k1, e_if, if_pos (by decide), x_call (x_isBottom hb.1), e_callV hb.1.k, x_call (x_mustE hb _), rt_c hb.1, e_callV hb.1.k, x_call (x_countE hb _ _), li_3441, rt_cell hb.1 (by decide)]
    have hb2 := hb.cc (i := 3441) (x := nI 0)
    rw [xGI hb2.1.k, e_if, if_neg (show ¬ _ = nI 0 from hb2.ne.2), x_106E hb2]
    exact ⟨v2, _, rfl, (K2.kf.f (F6.rf (A := j28)) (FW.c (i := 3440) (x := nI x) (by decide))).f (F6.rf (A := j28)) (FW.c (by decide)), Or.inr ⟨rfl, (je.c (by decide)).c (by decide)⟩⟩
theorem j_water {W : wW} {n nr : Nat} {nt : tN} (h : CG v C N a) (g : RG t C N a) (hlt : a < N) (hJ : JW v t C W n nr nt false) (hI : JI C N W n nr nt) (r40 : Nat → mM Int32) : JRes v t C N a (fX6_readWater 107) (bCallV 9 113 (fX9_readWater 113) (fun _ => fX9_well_114 r40 113)) r40 := by
  obtain ⟨v1, t1, e1, e2, e3⟩ := j_waterB h g hlt hJ
  unfold JRes
  rw [g.1.cv, x_call e1]
  rcases e3 with ⟨w, b, s, r, rb, a', k1, k2, k3, k4, k5, k6, k7, k8, k9, k0⟩ | ⟨k1, je⟩
  · obtain ⟨v2, t2, f1, f2, f3, f4⟩ := j_end k9 k0 r40
    have hS1 := k9.1.1
    have hc : fX6_readWater 107 v = bCall (fX4_takeSign 106 (nI 59)) (fun x2 => bRetZ x2) v1 := by
      rw [k1]
      unfold fX6_readWater_153
      rw [w_tk hS1, e_callV hS1.k106]
      rfl
    refine ⟨v2, t2, e2.f f2 f3.fw, f1, ?_⟩
    rcases f4 with ⟨q1, q2, q3⟩ | ⟨q1, q2⟩
    · refine Or.inl ⟨_, _, _, _, _, _, by rw [hc, x_call q1]; rfl, q2, q3, ((k2.jw hJ k3 k4 k5 k6 k7).f f2 f3), hI, Nat.lt_of_lt_of_le k8 (nx_ge C N a')⟩
    · exact Or.inr ⟨by rw [hc, x_call q1]; rfl, q2⟩
  · exact ⟨v1, t1, e2, by rw [x_114E je.bd], Or.inr ⟨k1, je⟩⟩
end WATER

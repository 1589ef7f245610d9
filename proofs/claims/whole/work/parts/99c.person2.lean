/-! THE PART OF A PERSON, THE REST -/
theorem WoS.fi {s t : mS} {A : Nat → Prop} {c : Nat} (h : WoS s c) (hF : FI A s t) : WoS t c := h.mv hF.2
section PERSB
variable {v t v0 t0 : mS} {C : Nat → Nat} {N a n nr : Nat} {nt : tN} {W : wW} {wt : Bool}
theorem j_pOf {p x y np : Nat} (hK : KP v0 v t0 t C p x y none none) (h : CG v C N a) (g : RG t C N a) (hw : WoS v 48) (hp : p < 8) (hN : NI C N n np nr nt) (hC : CNT v n nt) (hR : RNT t C n nt) (h47 : sI t 118 3447 = nI np) : ∃ v' t', (bGI 9 113 12 (fun x2 => bIf (x2 = 0) (bCallV 9 113 (fX9_isOf 113) (fun x3 => bIf (x3 = 0) (fX9_readPerson_71 113 (nI p)) (bCallV 9 113 (fX9_next 113) (fun _ => bGR 9 113 24 (fun x4 => bCallV 9 113 (fX9_readPersonName 113) (fun x5 => bSI x4 ((3449 : Int32) + nI p) x5 (fX9_readPerson_71 113 (nI p)))))))) (fX9_readPerson_71 113 (nI p)))) t = fX9_readPerson_107 113 t' ∧ KF v0 v' t0 t' ∧ ((∃ pa di a', (bGR 6 107 0 (fun x9 => bCallV 4 x9 (fX4_isWord x9 27) (fun x10 => bIf (x10 = 0) (fX6_readPerson_88 107 (nI p)) (bGR 6 107 0 (fun x11 => bCallV 4 x11 (fX4_next x11) (fun _ => bCallV 6 107 (fX6_takePerson 107) (fun x12 => bIf (x12 = 0) (bRetZ (0 : Int32)) (bGR 6 107 1 (fun x13 => bGR 7 x13 8 (fun x14 => bGR 6 107 0 (fun x15 => bGI 4 x15 6 (fun x16 => bSI x14 (nI p) x16 (fX6_readPerson_88 107 (nI p)))))))))))))) v = fX6_readPerson_139 107 (nI p) v' ∧ KP v0 v' t0 t' C p x y pa di ∧ (∀ q, pa = some q → q < np) ∧ (∀ d, di = some d → 1 ≤ d ∧ d ≤ 200) ∧ a ≤ a' ∧ CG v' C N a' ∧ RG t' C N a') ∨ ((bGR 6 107 0 (fun x9 => bCallV 4 x9 (fX4_isWord x9 27) (fun x10 => bIf (x10 = 0) (fX6_readPerson_88 107 (nI p)) (bGR 6 107 0 (fun x11 => bCallV 4 x11 (fX4_next x11) (fun _ => bCallV 6 107 (fX6_takePerson 107) (fun x12 => bIf (x12 = 0) (bRetZ (0 : Int32)) (bGR 6 107 1 (fun x13 => bGR 7 x13 8 (fun x14 => bGR 6 107 0 (fun x15 => bGI 4 x15 6 (fun x16 => bSI x14 (nI p) x16 (fX6_readPerson_88 107 (nI p)))))))))))))) v = some (nI 0, v') ∧ JE v' t')) := by
  have hS := h.1.1
  have hT := g.1.1
  rw [w_tk hS, e_callV hS.k106, x_call (c_isWord h (by decide)), e_if, g.1.gi g.2.2.2, e_if, if_pos (by decide), g.1.cv, x_call (x_isOf hT), g.wbq (by decide) (by decide), e_if]
  cases hq : wq C N a 27 with
  | false =>
    rw [if_pos (by decide), if_pos (by decide)]
    obtain ⟨v', t', e1, e2, e3⟩ := j_pDies hK h g hw hp
    refine ⟨v', t', e1, e2, ?_⟩
    rcases e3 with ⟨di, a', q1, q2, q3, q4, q5, q6⟩ | e3
    · exact Or.inl ⟨none, di, a', q1, q2, (fun q hq => by cases hq), q3, q4, q5, q6⟩
    · exact Or.inr e3
  | true =>
    obtain ⟨v1, t1, e1, f1, p1, q1, c1, r1⟩ := j_next h g
    have hS1 := c1.1.1
    have hT1 := r1.1.1
    have K1 := hK.f p1 q1
    have hw1 : WoS v1 48 := hw.mv p1.1.2
    have hC1 : CNT v1 n nt := by
      unfold CNT
      rw [p1.1.1 107 (by decide), p1.1.1 108 (by decide), p1.1.1 109 (by decide), p1.1.1 110 (by decide)]
      exact hC
    have hR1 : RNT t1 C n nt := fun i hi => by rw [(q1.1 120 (by decide)).2]; exact hR i hi
    obtain ⟨v2, t2, z, f2, p2, q2, hx⟩ := j_person c1 r1 hN hC1 hR1 (by rw [(q1.1 118 (by decide)).1]; exact h47)
    have hT2 := hT1.f9 q2
    have K2 := K1.f p2 q2
    have hw2 : WoS v2 48 := hw1.mv p2.1.2
    have hS2 : CS v2 := hS1.fi p2.1
    have hn1 := nx_ge C N a
    have hn2 := nx_ge C N (nx C N a)
    rw [if_neg (by decide), if_neg (by decide), w_tk hS, e_callV hS.k106, x_call e1, e_callV hS1.k107, g.1.cv, x_call f1, rt_c hT1, e_callV hT1.k, x_call f2, li_3449, nI_add, rt_cell hT2 (by omega)]
    rcases hx with ⟨k, k1, k2, k3, k4, c2, r2⟩ | ⟨k1, je⟩
    · subst k2
      have K3 := K2.pa (q := k) hp
      obtain ⟨v3, t3, m1, m2, m3⟩ := j_pDies K3 (c2.w (by decide) (by decide)) r2.c hw2.w hp
      rw [x_call k1, e_if, if_neg (by decide), w_th hS2, xGR hw2.1 (show sP v2 48 8 = 49 from hw2.2.1), w_tk hS2, xGIe hS2.k106 k4, xSI (show sH v2 49 = (11, 8) from hw2.2.2.2.2.2.2.2.2.1) hp (by decide)]
      refine ⟨v3, t3, m1, m2, ?_⟩
      rcases m3 with ⟨di, a', q1, q2, q3, q4, q5, q6⟩ | m3
      · exact Or.inl ⟨some k, di, a', q1, q2, (fun q hq => by cases hq; exact k3), q3, by omega, q5, q6⟩
      · exact Or.inr m3
    · have hb := je.bd.cc (i := 3449 + p) (x := z)
      rw [x_call k1, e_if, if_pos (by decide), x_71E hb]
      exact ⟨v2, _, (x_107E hb).symm, K2.kf.f (F6.rf (A := j28)) (FW.c (by omega)), Or.inr ⟨rfl, je.c (by omega)⟩⟩
/-- the person is kept -/
theorem KP.jw {x y : Nat} {pa di : Option Nat} (hJ : JW v0 t0 C W n nr nt wt) (hI : JI C N W n nr nt) (h : KP v0 v t0 t C (wPe W) x y pa di) (hp : wPe W < 8) (hpa : ∀ q, pa = some q → q < wPe W) (hdi : ∀ d, di = some d → 1 ≤ d ∧ d ≤ 200) : JW (wI (kpS v n x y (nI (wPe W))) 48 7 (nI (wPe W + 1))) (wI t 118 3447 (nI (wPe W + 1))) C (per W pa di) (n + 1) nr (addT nt n x y (wPe W)) wt := by
  obtain ⟨⟨a1, a2, a3, a4, a5, a6⟩, b1, b2, b3, b4, b5⟩ := hJ
  obtain ⟨⟨c1, c2, c3, c4, c5, c6, c7, c8⟩, d1, d2, d3, d4, d5, d6, d7⟩ := h
  have hkp : ∀ b, b ≠ 107 → b ≠ 108 → b ≠ 109 → b ≠ 110 → sI (kpS v n x y (nI (wPe W))) b = sI v b := fun b h1 h2 h3 h4 => by
    funext j
    unfold kpS
    rw [sI_wI_ne (Or.inl h1), sI_wI_ne (Or.inl h4), sI_wI_ne (Or.inl h3), sI_wI_ne (Or.inl h2)]
  have h107 : ∀ j, j ≠ 4 → sI (kpS v n x y (nI (wPe W))) 107 j = sI v 107 j := fun j h1 => by
    unfold kpS
    rw [sI_wI_ne (Or.inr h1), sI_wI_ne (Or.inl (by decide)), sI_wI_ne (Or.inl (by decide)), sI_wI_ne (Or.inl (by decide))]
  have e48 : ∀ b, b ≠ 48 → ∀ j, sI (wI (kpS v n x y (nI (wPe W))) 48 7 (nI (wPe W + 1))) b j = sI (kpS v n x y (nI (wPe W))) b j := fun b hb j => sI_wI_ne (Or.inl hb)
  have gb : ∀ b, b ≠ 48 → b ≠ 107 → b ≠ 108 → b ≠ 109 → b ≠ 110 → sI (wI (kpS v n x y (nI (wPe W))) 48 7 (nI (wPe W + 1))) b = sI v b := fun b h0 h1 h2 h3 h4 => by
    funext j
    rw [e48 b h0, hkp b h1 h2 h3 h4]
  have g48 : ∀ j, j ≠ 7 → sI (wI (kpS v n x y (nI (wPe W))) 48 7 (nI (wPe W + 1))) 48 j = sI v0 48 j := fun j hj => by
    rw [sI_wI_ne (Or.inr hj), hkp 48 (by decide) (by decide) (by decide) (by decide), c3 48 (Or.inr (Or.inr (Or.inr ⟨⟨by decide, by decide⟩, by decide, by decide⟩)))]
  have gw : ∀ b, wA 48 b → b ≠ 48 → b ≠ 49 → b ≠ 50 → sI (wI (kpS v n x y (nI (wPe W))) 48 7 (nI (wPe W + 1))) b = sI v0 b := fun b hb h0 h1 h2 => by
    have hb2 := hb.2
    rw [gb b h0 (by omega) (by omega) (by omega) (by omega), c3 b (Or.inr (Or.inr (Or.inr ⟨hb, h1, h2⟩)))]
  have hZ : ∀ r, r < 12 → ∀ k, k < 3 → wA 48 (48 + 8 + 3 * r + k) := fun r hr k hk => ⟨by omega, by omega⟩
  obtain ⟨f0, f1, f2, f3, f4, f5, f6, f7, f11, fp, ff, fr⟩ := a2
  obtain ⟨r0', r1, r2, r3, r4, r5, r6, r7, r8, rp, rf, rr, rw', rl⟩ := b1
  obtain ⟨w1, w2, w3, w4, w5, w6, w7, w8, w9, w10, w11, w12, w13, w14, w15, w16⟩ := rw'
  have hC : CNT v n nt := by
    unfold CNT
    rw [c2 4 (by decide) (by decide), c3 108 (Or.inl rfl), c3 109 (Or.inr (Or.inl rfl)), c3 110 (Or.inr (Or.inr (Or.inl rfl)))]
    exact a4
  have hC2 := hC.add (x := x) (y := y) (z := wPe W) (l := nI (wPe W)) (by rw [if_pos hp, oI_s])
  have hg : ∀ i, i ≠ 3447 → i ≠ 3449 + wPe W → i ≠ 3457 + wPe W → sI (wI t 118 3447 (nI (wPe W + 1))) 118 i = sI t0 118 i := fun i h0 h1 h2 => by
    rw [sI_wI_ne (Or.inr h0), d2 i h1 h2]
  have hg1 : sI (wI t 118 3447 (nI (wPe W + 1))) 118 (3449 + wPe W) = oI pa := by rw [sI_wI_ne (Or.inr (by omega))]; exact d3
  have hg2 : sI (wI t 118 3447 (nI (wPe W + 1))) 118 (3457 + wPe W) = zI di := by rw [sI_wI_ne (Or.inr (by omega))]; exact d4
  refine ⟨⟨(a1.fi c1).mv rfl, ⟨?_, ?_, ?_, ?_, ?_, ?_, ?_, ?_, ?_, ?_, ?_, ?_⟩, ?_, ?_, ?_, ?_⟩, ⟨?_, ?_, ?_, ?_, ?_, ?_, ?_, ?_, ?_, ?_, ?_, ?_, ?_, ?_⟩, ?_, ?_, ?_, ?_⟩
  · rw [g48 0 (by decide)]; exact f0
  · rw [g48 1 (by decide)]; exact f1
  · rw [g48 2 (by decide)]; exact f2
  · rw [g48 3 (by decide)]; exact f3
  · rw [g48 4 (by decide)]; exact f4
  · rw [g48 5 (by decide)]; exact f5
  · rw [g48 6 (by decide)]; exact f6
  · exact sI_wI_eq _ _ _ _
  · rw [g48 11 (by decide)]; exact f11
  · intro q hq
    have hq : q < wPe W + 1 := hq
    show sI _ 49 q = oI (if q = wPe W then pa else wPa W q) ∧ sI _ 50 q = oI (if q = wPe W then di else wDi W q)
    rw [gb 49 (by decide) (by decide) (by decide) (by decide) (by decide), gb 50 (by decide) (by decide) (by decide) (by decide) (by decide)]
    by_cases h0 : q = wPe W
    · rw [if_pos h0, if_pos h0, h0]; exact ⟨c5, c6⟩
    · rw [if_neg h0, if_neg h0, (c4 q h0).1, (c4 q h0).2]; exact fp q (by omega)
  · intro q hq
    rw [gw 52 ⟨by decide, by decide⟩ (by decide) (by decide) (by decide), gw 53 ⟨by decide, by decide⟩ (by decide) (by decide) (by decide), gw 54 ⟨by decide, by decide⟩ (by decide) (by decide) (by decide)]
    exact ff q hq
  · intro q hq
    exact (fr q hq).mv (gw _ (hZ q hq 0 (by decide)) (by omega) (by omega) (by omega)) (gw _ (hZ q hq 1 (by decide)) (by omega) (by omega) (by omega)) (gw _ (hZ q hq 2 (by decide)) (by omega) (by omega) (by omega))
  · show sP v 48 16 = 0
    rw [c1.P]; exact a3
  · unfold CNT
    rw [e48 107 (by decide)]
    refine ⟨hC2.1, fun i hi => ?_⟩
    rw [e48 108 (by decide), e48 109 (by decide), e48 110 (by decide)]
    exact hC2.2 i hi
  · rw [e48 107 (by decide), h107 2 (by decide), c2 2 (by decide) (by decide)]; exact a5
  · rw [e48 107 (by decide), h107 3 (by decide), c2 3 (by decide) (by decide)]; exact a6
  · show sI _ 118 (3440 + 0) = _
    rw [hg _ (by omega) (by omega) (by omega)]; exact r0'
  · show sI _ 118 (3440 + 1) = _
    rw [hg _ (by omega) (by omega) (by omega)]; exact r1
  · show sI _ 118 (3440 + 2) = _
    rw [hg _ (by omega) (by omega) (by omega)]; exact r2
  · show sI _ 118 (3440 + 3) = _
    rw [hg _ (by omega) (by omega) (by omega)]; exact r3
  · show sI _ 118 (3440 + 4) = _
    rw [hg _ (by omega) (by omega) (by omega)]; exact r4
  · show sI _ 118 (3440 + 5) = _
    rw [hg _ (by omega) (by omega) (by omega)]; exact r5
  · show sI _ 118 (3440 + 6) = _
    rw [hg _ (by omega) (by omega) (by omega)]; exact r6
  · exact sI_wI_eq _ _ _ _
  · show sI _ 118 (3440 + 8) = _
    rw [hg _ (by omega) (by omega) (by omega)]; exact r8
  · intro q hq
    have hq : q < wPe W + 1 := hq
    show sI _ 118 (3440 + (9 + q)) = oI (if q = wPe W then pa else wPa W q) ∧ sI _ 118 (3440 + (17 + q)) = zI (if q = wPe W then di else wDi W q)
    rw [show 3440 + (9 + q) = 3449 + q by omega, show 3440 + (17 + q) = 3457 + q by omega]
    by_cases h0 : q = wPe W
    · rw [if_pos h0, if_pos h0, h0]; exact ⟨hg1, hg2⟩
    · rw [if_neg h0, if_neg h0, hg _ (by omega) (by omega) (by omega), hg _ (by omega) (by omega) (by omega), show 3449 + q = 3440 + (9 + q) by omega, show 3457 + q = 3440 + (17 + q) by omega]
      exact rp q (by omega)
  · intro q hq
    have hq4 : q < 4 := Nat.lt_of_lt_of_le hq w11
    show sI _ 118 _ = _ ∧ sI _ 118 _ = _ ∧ sI _ 118 _ = _
    rw [hg _ (by omega) (by omega) (by omega), hg _ (by omega) (by omega) (by omega), hg _ (by omega) (by omega) (by omega)]; exact rf q hq
  · intro q hq
    exact (rr q hq).mv (w13 q).1 fun i hi => by
      show sI _ 118 (3440 + i) = sI t0 118 (3440 + i)
      exact hg _ (by omega) (by omega) (by omega)
  · refine ⟨w1, w2, w3, w4, w5, w6, w7, hp, fun i q hq => ?_, fun i d hd => ?_, w11, w12, w13, fun r q hq => Nat.lt_succ_of_lt (w14 r q hq), fun r q hq => Nat.lt_succ_of_lt (w15 r q hq), w16⟩
    · have hq : (if i = wPe W then pa else wPa W i) = some q := hq
      by_cases h0 : i = wPe W
      · rw [if_pos h0] at hq; have := hpa q hq; omega
      · rw [if_neg h0] at hq; exact w9 i q hq
    · have hd : (if i = wPe W then di else wDi W i) = some d := hd
      by_cases h0 : i = wPe W
      · rw [if_pos h0] at hd; exact hdi d hd
      · rw [if_neg h0] at hd; exact w10 i d hd
  · obtain ⟨l1, l2, l3⟩ := rl
    refine ⟨?_, fun k hk => ?_, fun j hj => ?_⟩
    · show sI _ 118 (3440 + 289) = _
      rw [hg _ (by omega) (by omega) (by omega)]; exact l1
    · show sI _ 118 _ = _ ∧ sI _ 118 _ = _ ∧ sI _ 118 _ = _
      rw [hg _ (by omega) (by omega) (by omega), hg _ (by omega) (by omega) (by omega), hg _ (by omega) (by omega) (by omega)]; exact l2 k hk
    · show sI _ 118 _ = _ ∧ sI _ 118 _ = _ ∧ sI _ 118 _ = _
      rw [hg _ (by omega) (by omega) (by omega), hg _ (by omega) (by omega) (by omega), hg _ (by omega) (by omega) (by omega)]; exact l3 j hj
  · exact RNT.add b2 hI.1 (Or.inl rfl) (Or.inl hp) d5 d6
  · rw [sI_wI_ne (Or.inl (by decide)), d7 23 (by omega)]; exact b3
  · rw [sI_wI_ne (Or.inl (by decide)), d7 21 (by omega)]; exact b4
  · refine ⟨fun q h1 h2 => ?_, fun r h1 h2 => ?_⟩
    · have h1 : wPe W + 1 ≤ q := h1
      rw [hg _ (by omega) (by omega) (by omega), hg _ (by omega) (by omega) (by omega)]
      exact b5.1 q (by omega) h2
    · rw [hg _ (by omega) (by omega) (by omega)]
      exact b5.2 r h1 h2
end PERSB

/-! THE PIECES OF A ROPE -/
theorem bc_eq {β α : Type} {F G : mM β} {K : β → mM α} {v v1 : mS} (h : F v = G v1) : bCall F K v = bCall G K v1 := by rw [e_call, e_call, h]
section PIEC
variable {v t v0 t0 : mS} {C : Nat → Nat} {N a n r x y o : Nat} {nt : tN}
theorem q31 (C : Nat → Nat) (N a : Nat) : wq C N a 31 = wq C N a 7 := wq_eq (by decide +kernel)
theorem q32 (C : Nat → Nat) (N a : Nat) : wq C N a 32 = wq C N a 10 := wq_eq (by decide +kernel)
/-- what stands behind the pieces -/
abbrev kP (X : Nat) : Int32 → mM Int32 := fun x12 => bIf (x12 = 0) (bRetZ (0 : Int32)) (cHo X)
theorem kP0 {X : Nat} : kP X (nI 0) v = some (nI 0, v) := by
  show bIf (nI 0 = 0) _ _ v = _
  rw [e_if, if_pos (by decide)]
  rfl
theorem bc0 {X : Nat} {F : mM Int32} {v1 : mS} (h : F v = some (nI 0, v1)) : bCall F (kP X) v = some (nI 0, v1) := by rw [x_call h, kP0]
theorem x_95t (h : BD t) (K : Int32 → mM Unit) : (bCallV 9 113 (fX9_isAge 113) (fun x3 => bCallV 9 113 (fX9_must 113 x3) (fun _ => bCallV 9 113 (fX9_count 113 (0 : Int32) (300 : Int32)) (fun x4 => bGI 9 113 12 (fun x5 => bIf (x5 ≤ 0) (K x4) (bRet ())))))) t = some ((), t) := by
  rw [e_callV h.1.k, x_call (x_isAge h.1), e_callV h.1.k, x_call (x_mustE h _), e_callV h.1.k, x_call (x_countE h _ _), xGI h.1.k, e_if, if_neg h.ne.1]
  rfl
theorem x_95E (h : BD t) (r54 : Nat → Int32 → Int32 → Int32 → Int32 → mM Unit) (l1 l2 l3 : Int32) : fX9_readRope_95 r54 113 l1 l2 l3 t = some ((), t) := by
  unfold fX9_readRope_95
  rw [e_callV h.1.k, x_call (x_isYards h.1), e_callV h.1.k, x_call (x_mustE h _), e_callV h.1.k, x_call (x_countE h _ _), x_95t h]
theorem PC.snoc {ps : List (Nat × Nat)} {Y G : Nat} (hr : r < 6) (h : PC t r ps) (hl : ps.length < 4) : PC (wI (wI t 118 (3537 + 8 * r + ps.length) (nI Y)) 118 (3633 + 8 * r + ps.length) (nI G)) r (ps ++ [(Y, G)]) := by
  intro k hk
  rw [snoc_len] at hk
  by_cases hk2 : k < ps.length
  · rw [pY_app hk2, pA_app hk2, sI_wI_ne (Or.inr (by omega)), sI_wI_ne (Or.inr (by omega)), sI_wI_ne (Or.inr (by omega)), sI_wI_ne (Or.inr (by omega))]
    exact h k hk2
  · have e : k = ps.length := by omega
    subst e
    rw [pY_app2 (Nat.le_refl _), pA_app2 (Nat.le_refl _), Nat.sub_self, sI_wI_ne (Or.inr (by omega)), sI_wI_eq, sI_wI_eq]
    exact ⟨rfl, rfl⟩
theorem j_pieces : ∀ (m n1 n2 : Nat) (ps : List (Nat × Nat)) (v t : mS) (a : Nat) (b : Bool), ps.length + m = 4 → m < n1 → m < n2 → KR v0 v t0 t C n r x y nt → CG v C N a → RG t C N a → WoS v 48 → r < 6 → sI t 113 21 = nI r → RoD v (56 + 3 * r) (some o, none, false, 0, ps) → PC t r ps → piOk ps → (ps.length = 0 → b = true) → (ps.length ≠ 0 → b = wq C N a 31) → RRes v0 v t0 t C N a n r x y o nt (bCall (fX6_readPieces_4 n1 107 (56 + 3 * r) (nI b.toNat) (nI ps.length)) (kP (56 + 3 * r))) (fX9_readRope_54 n2 113 (nI r) (nI o) (nI ps.length) (nI b.toNat)) := by
  intro m
  induction m with
  | zero =>
    intro n1 n2 ps v t a b hm hn1 hn2 hK h g hw hr h21 hD hP hpi hb0 hb1
    obtain ⟨n1, rfl⟩ : ∃ k, n1 = k + 1 := ⟨n1 - 1, by omega⟩
    obtain ⟨n2, rfl⟩ : ∃ k, n2 = k + 1 := ⟨n2 - 1, by omega⟩
    have hS := h.1.1
    have hT := g.1.1
    cases b with
    | false =>
      refine (j_holy hK h g hw hr h21 hD hP ⟨by omega, by omega, hpi⟩).st ?_ ?_ (Nat.le_refl _)
      · have : fX6_readPieces_4 (n1 + 1) 107 (56 + 3 * r) (nI (Bool.toNat false)) (nI ps.length) v = some (nI 1, v) := by
          rw [qX6_readPieces_4, e_if, if_pos (by rw [li_4, le_i (by omega) (by omega)]; omega)]
          unfold fX6_readPieces_107
          rw [e_if, if_pos (by decide)]
          rfl
        rw [x_call this]
        show bIf (nI 1 = 0) _ _ v = _
        rw [e_if, if_neg (by decide)]
      · rw [qX9_readRope_54, e_if, if_pos (by decide)]
    | true =>
      have hq : wq C N a 31 = true := (hb1 (by omega)).symm
      have hk4 : kd C N a ≠ 4 := by rw [(wq_iff.mp hq).1]; decide
      obtain ⟨v', t', e1, e2, e3, e4, je⟩ := j_fail h g (w := 6) (by decide) (by decide) hk4
      refine ⟨v', t', ?_, (hK.fs2 (by omega) e3 e4).kf, Or.inr ⟨bc0 ?_, je⟩⟩
      · rw [qX9_readRope_54, e_if, if_neg (by decide), g.1.gi g.2.2.2, e_if, if_pos (by decide), g.1.gi g.2.2.2, e_if, if_pos (by decide), g.1.cv, x_call (x_isYards hT), g.wbq (by decide) (by decide), ← q31, hq, e_if, if_neg (by decide), e_if, if_pos (by rw [show ps.length = 4 by omega]; rfl), g.1.gi g.2.1.1, g.1.cv, li_6, x_call e2, x_95E je.bd]
      · rw [qX6_readPieces_4, e_if, if_pos (by rw [li_4, le_i (by omega) (by omega)]; omega)]
        unfold fX6_readPieces_107
        rw [e_if, if_neg (by decide), w_tk hS, e_callV hS.k106, li_6, x_call e1, e_if, if_pos (by decide)]
        rfl
  | succ m ih =>
    intro n1 n2 ps v t a b hm hn1 hn2 hK h g hw hr h21 hD hP hpi hb0 hb1
    obtain ⟨n1, rfl⟩ : ∃ k, n1 = k + 1 := ⟨n1 - 1, by omega⟩
    obtain ⟨n2, rfl⟩ : ∃ k, n2 = k + 1 := ⟨n2 - 1, by omega⟩
    have hS := h.1.1
    have hT := g.1.1
    have h4 : ¬ ((4 : Int32) ≤ nI ps.length) := by rw [li_4, le_i (by omega) (by omega)]; omega
    cases b with
    | false =>
      have hl : ps.length ≠ 0 := fun h0 => by have := hb0 h0; cases this
      refine (j_holy hK h g hw hr h21 hD hP ⟨by omega, by omega, hpi⟩).st ?_ ?_ (Nat.le_refl _)
      · have : fX6_readPieces_4 (n1 + 1) 107 (56 + 3 * r) (nI (Bool.toNat false)) (nI ps.length) v = some (nI 1, v) := by
          rw [qX6_readPieces_4, e_if, if_neg h4, e_if, if_pos (by decide)]
          unfold fX6_readPieces_107
          rw [e_if, if_pos (by decide)]
          rfl
        rw [x_call this]
        show bIf (nI 1 = 0) _ _ v = _
        rw [e_if, if_neg (by decide)]
      · rw [qX9_readRope_54, e_if, if_pos (by decide)]
    | true =>
      have hr0 : fX9_readRope_54 (n2 + 1) 113 (nI r) (nI o) (nI ps.length) (nI (Bool.toNat true)) t = fX9_readRope_95 (fX9_readRope_54 n2) 113 (nI r) (nI o) (nI ps.length) t := by
        rw [qX9_readRope_54, e_if, if_neg (by decide), g.1.gi g.2.2.2, e_if, if_pos (by decide), g.1.gi g.2.2.2, e_if, if_pos (by decide), g.1.cv, x_call (x_isYards hT), e_if]
        by_cases hq : nI (wb t (encW 7)).toNat = 0
        · rw [if_pos hq]
        · rw [if_neg hq, e_if, if_neg (by rw [li_4, eq_i (by omega) (by omega)]; omega)]
      have hc0 : fX6_readPieces_4 (n1 + 1) 107 (56 + 3 * r) (nI (Bool.toNat true)) (nI ps.length) v = (bCallV 4 106 (fX4_takeWord 106 31) (fun x2 => bIf (x2 = 0) (bRetZ (0 : Int32)) (bGR 6 107 0 (fun x3 => bCallV 4 x3 (fX4_takeNumber x3 (1 : Int32) (200 : Int32)) (fun x4 => bIf (x4 = 0) (bRetZ (0 : Int32)) (bGR 6 107 0 (fun x5 => bGI 4 x5 6 (fun x6 => bGR 6 107 0 (fun x7 => bCallV 4 x7 (fX4_takeWord x7 32) (fun x8 => bIf (x8 = 0) (bRetZ (0 : Int32)) (bGR 6 107 0 (fun x9 => bCallV 4 x9 (fX4_takeNumber x9 (0 : Int32) (300 : Int32)) (fun x10 => bIf (x10 = 0) (bRetZ (0 : Int32)) (bGR 6 107 0 (fun x11 => bGI 4 x11 6 (fun x12 => bCallV 3 (56 + 3 * r) (fX3_add (56 + 3 * r) x6 x12) (fun _ => bGR 6 107 0 (fun x13 => bCallV 4 x13 (fX4_isWord x13 31) (fun x14 => fX6_readPieces_4 n1 107 (56 + 3 * r) x14 ((nI ps.length) + 1)))))))))))))))))))) v := by
        rw [qX6_readPieces_4, e_if, if_neg h4, e_if, if_neg (by decide), w_tk hS]
      unfold fX9_readRope_95 at hr0
      rw [g.1.cv, x_call (x_isYards hT), g.wbq (by decide) (by decide), ← q31] at hr0
      rw [e_callV hS.k106] at hc0
      obtain ⟨v1, t1, e1, p1, q1, hx1⟩ := j_word h g (z := 31) (by decide) (b := wq C N a 31) rfl
      rw [g.1.cv, x_call e1] at hr0
      have K1 := hK.fs2 (by omega) p1 q1
      have hS1 : CS v1 := hS.fi p1.1
      have hw1 : WoS v1 48 := hw.mv p1.1.2
      rcases hx1 with ⟨k1, k2, c1, r1⟩ | ⟨k1, k2, je⟩
      · rw [x_call k1, e_if, if_neg (by decide), w_tk hS1, e_callV hS1.k106, li_1, li_200] at hc0
        obtain ⟨v2, t2, Y, e2, p2, q2, hx2⟩ := j_num c1 r1 (lo := 1) (hi := 200) (by decide) (by decide)
        rw [r1.1.cv, x_call (show fX9_count 113 (1 : Int32) (200 : Int32) t1 = some (nI Y, t2) by rw [li_1, li_200]; exact e2)] at hr0
        have K2 := K1.fs2 (by omega) p2 q2
        have hS2 : CS v2 := hS1.fi p2.1
        have hw2 : WoS v2 48 := hw1.mv p2.1.2
        rcases hx2 with ⟨l1, l2, l3, l4, c2, r2⟩ | ⟨l1, je⟩
        · obtain ⟨v3, t3, e3, p3, q3, hx3⟩ := j_word c2 r2 (z := 32) (by decide) (b := wq C N (nx C N (nx C N a)) 32) rfl
          rw [x_call l1, e_if, if_neg (by decide), w_tk hS2, xGIe hS2.k106 l2, w_tk hS2, e_callV hS2.k106] at hc0
          rw [r2.1.cv, x_call (x_isAge r2.1.1), r2.wbq (by decide) (by decide), ← q32, r2.1.cv, x_call e3] at hr0
          have K3 := K2.fs2 (by omega) p3 q3
          have hS3 : CS v3 := hS2.fi p3.1
          have hw3 : WoS v3 48 := hw2.mv p3.1.2
          rcases hx3 with ⟨m1, m2, c3, r3⟩ | ⟨m1, m2, je⟩
          · rw [x_call m1, e_if, if_neg (by decide), w_tk hS3, e_callV hS3.k106, li_0, li_300] at hc0
            obtain ⟨v4, t4, G, e4, p4, q4, hx4⟩ := j_num c3 r3 (lo := 0) (hi := 300) (by decide) (by decide)
            rw [r3.1.cv, x_call (show fX9_count 113 (0 : Int32) (300 : Int32) t3 = some (nI G, t4) by rw [li_0, li_300]; exact e4)] at hr0
            have K4 := K3.fs2 (by omega) p4 q4
            have hS4 : CS v4 := hS3.fi p4.1
            have hw4 : WoS v4 48 := hw3.mv p4.1.2
            rcases hx4 with ⟨o1, o2, o3, o4, c4, r4⟩ | ⟨o1, je⟩
            · have hT4 := r4.1.1
              have hRS : RoS v4 (56 + 3 * r) := (hw4.2.2.2.2.2.2.2.2.2.2.2.2.2.2.2 r (by omega)).2
              have D4 : RoD v4 (56 + 3 * r) (some o, none, false, 0, ps) := (((hD.f6 (by omega) p1).f6 (by omega) p2).f6 (by omega) p3).f6 (by omega) p4
              have P4 : PC t4 r ps := (((hP.f9 q1).f9 q2).f9 q3).f9 q4
              obtain ⟨v5, s1, s2, s3⟩ := D4.snoc (y := Y) (g := G) hRS (by omega)
              have hS5 : CS v5 := hS4.mv (fun _ _ => by rw [show sH v5 = sH v4 by show v5.2.2.2.1 = v4.2.2.2.1; rw [s2.2]]) (fun _ _ _ _ _ _ _ => by rw [s2.P])
              have c5 : CG v5 C N (nx C N (nx C N (nx C N (nx C N a)))) := c4.o s2.2 (s2.1 106 (by show ¬ (_ ∨ _ ∨ _); omega)) (s2.1 3 (by show ¬ (_ ∨ _ ∨ _); omega))
              have K5 := (K4.rp (by omega) s2).pc (i := 3537 + 8 * r + ps.length) (z := nI Y) (Or.inl ⟨by omega, by omega⟩)
              have K6 := K5.pc (i := 3633 + 8 * r + ps.length) (z := nI G) (Or.inr ⟨by omega, by omega⟩)
              have r5 : RG (wI t4 118 (3537 + 8 * r + ps.length) (nI Y)) C N (nx C N (nx C N (nx C N (nx C N a)))) := r4.c
              have r6 : RG (wI (wI t4 118 (3537 + 8 * r + ps.length) (nI Y)) 118 (3633 + 8 * r + ps.length) (nI G)) C N (nx C N (nx C N (nx C N (nx C N a)))) := r5.c
              have P6 := P4.snoc (Y := Y) (G := G) hr (by omega)
              have hrr := ih n1 n2 (ps ++ [(Y, G)]) v5 (wI (wI t4 118 (3537 + 8 * r + ps.length) (nI Y)) 118 (3633 + 8 * r + ps.length) (nI G)) (nx C N (nx C N (nx C N (nx C N a)))) (wq C N (nx C N (nx C N (nx C N (nx C N a)))) 31) (by rw [snoc_len]; omega) (by omega) (by omega) K6 c5 r6 ((((hw4.mv s2.2)))) hr (by
                rw [sI_wI_ne (Or.inl (by decide)), sI_wI_ne (Or.inl (by decide)), q4.I (by decide), q3.I (by decide), q2.I (by decide), q1.I (by decide)]
                exact h21) s3 P6 (piOk_snoc hpi l3 l4 o4) (fun h0 => by rw [snoc_len] at h0; omega) (fun _ => rfl)
              rw [snoc_len] at hrr
              refine hrr.st (bc_eq ?_) ?_ ?_
              · rw [hc0, x_call o1, e_if, if_neg (by decide), w_tk hS4, xGIe hS4.k106 o2, e_callV hRS.1, x_call s1, w_tk hS5, e_callV hS5.k106, x_call (c_isWord c5 (by decide)), nI_add]
              · rw [hr0, r4.1.gi r4.2.2.2, e_if, if_pos (by decide), rt_c hT4, li_3537, li_8, nI_mul, nI_add, nI_add, rt_cell hT4 (by omega), rt_c r5.1.1, li_3633, nI_add, nI_add, rt_cell r5.1.1 (by omega), r6.1.cv, x_call (x_isYards r6.1.1), r6.wbq (by decide) (by decide), ← q31, nI_succ1]
              · have := nx_ge C N a
                have := nx_ge C N (nx C N a)
                have := nx_ge C N (nx C N (nx C N a))
                have := nx_ge C N (nx C N (nx C N (nx C N a)))
                omega
            · refine ⟨v4, t4, ?_, K4.kf, Or.inr ⟨bc0 ?_, je⟩⟩
              · rw [hr0, xGI je.bd.1.k, e_if, if_neg je.bd.ne.1]
                rfl
              · rw [hc0, x_call o1, e_if, if_pos (by decide)]
                rfl
          · refine ⟨v3, t3, ?_, K3.kf, Or.inr ⟨bc0 ?_, je⟩⟩
            · have hb := je.bd
              rw [hr0, e_callV hb.1.k, x_call (x_countE hb _ _), xGI hb.1.k, e_if, if_neg hb.ne.1]
              rfl
            · rw [hc0, x_call m1, e_if, if_pos (by decide)]
              rfl
        · refine ⟨v2, t2, ?_, K2.kf, Or.inr ⟨bc0 ?_, je⟩⟩
          · rw [hr0, x_95t je.bd]
          · rw [hc0, x_call l1, e_if, if_pos (by decide)]
            rfl
      · refine ⟨v1, t1, ?_, K1.kf, Or.inr ⟨bc0 ?_, je⟩⟩
        · have hb := je.bd
          rw [hr0, e_callV hb.1.k, x_call (x_countE hb _ _), x_95t hb]
        · rw [hc0, x_call k1, e_if, if_pos (by decide)]
          rfl
end PIEC

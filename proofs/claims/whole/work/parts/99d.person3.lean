/-! THE PART OF A PERSON, WHOLE -/
section PERSC
variable {v t v0 t0 : mS} {C : Nat → Nat} {N a n nr : Nat} {nt : tN} {W : wW} {wt : Bool}
theorem G7.s {v v' : mS} (h : G7 v v') : FI a48 v v' := h.kf
theorem x_25E (h : BD t) (l : Int32) : (bGI 9 113 12 (fun x2 => bIf (x2 = 0) (bCallV 9 113 (fX9_isOf 113) (fun x3 => bIf (x3 = 0) (fX9_readPerson_71 113 l) (bCallV 9 113 (fX9_next 113) (fun _ => bGR 9 113 24 (fun x4 => bCallV 9 113 (fX9_readPersonName 113) (fun x5 => bSI x4 ((3449 : Int32) + l) x5 (fX9_readPerson_71 113 l))))))) (fX9_readPerson_71 113 l))) t = some ((), t) := by
  rw [xGI h.1.k, e_if, if_neg h.ne.2, x_71E h]
theorem JW.g7 {v' t' : mS} {i : Nat} (hJ : JW v t C W n nr nt wt) (h1 : G7 v v') (h2 : G9 i t t') : CNT v' n nt ∧ sI v' 107 2 = nI wt.toNat ∧ sI v' 107 3 = nI nr := by
  obtain ⟨⟨a1, a2, a3, a4, a5, a6⟩, b1, b2, b3, b4, b5⟩ := hJ
  refine ⟨?_, by rw [h1.2 2 (by decide) (by decide)]; exact a5, by rw [h1.2 3 (by decide) (by decide)]; exact a6⟩
  unfold CNT
  rw [h1.2 4 (by decide) (by decide), h1.1.1 108 (by decide), h1.1.1 109 (by decide), h1.1.1 110 (by decide)]
  exact a4
theorem CS.kp {n x y : Nat} {l : Int32} (h : CS v) : CS (kpS v n x y l) := by
  unfold kpS
  exact (((h.w).w).w).w
theorem CG.kp {n x y : Nat} {l : Int32} (h : CG v C N a) : CG (kpS v n x y l) C N a := by
  unfold kpS
  exact (((h.w (by decide) (by decide)).w (by decide) (by decide)).w (by decide) (by decide)).w (by decide) (by decide)
theorem WoS.kp {n x y c : Nat} {l : Int32} (h : WoS v c) : WoS (kpS v n x y l) c := by
  unfold kpS
  exact (((h.w).w).w).w
theorem fi_kp {n x y : Nat} {l : Int32} : FI a48 v (kpS v n x y l) := by
  unfold kpS
  exact ((((FI.w (A := a48) _ _ (Or.inl ⟨by decide, by decide⟩)).tr (FI.w (A := a48) _ _ (Or.inl ⟨by decide, by decide⟩))).tr (FI.w (A := a48) _ _ (Or.inl ⟨by decide, by decide⟩))).tr (FI.w (A := a48) _ _ (Or.inl ⟨by decide, by decide⟩)))
theorem j_personPart (h : CG v C N a) (g : RG t C N a) (hlt : a < N) (hJ : JW v t C W n nr nt wt) (hI : JI C N W n nr nt) (hp : wPe W < 8) (r40 : Nat → mM Int32) : JRes v t C N a (fX6_readPerson 107) (bCallV 9 113 (fX9_readPerson 113) (fun _ => fX9_well_114 r40 113)) r40 := by
  have hJ0 := hJ
  obtain ⟨⟨a1, a2, a3, a4, a5, a6⟩, b1, b2, b3, b4, b5⟩ := hJ
  have hI0 := hI
  obtain ⟨hN, hr0, hla⟩ := hI
  have hS := h.1.1
  have hT := g.1.1
  have h7 : sI v 48 7 = nI (wPe W) := a2.2.2.2.2.2.2.2.1
  have h47 : sI t 118 3447 = nI (wPe W) := b1.2.2.2.2.2.2.2.1
  obtain ⟨v1, t1, e1, f1, p1, q1, c1, r1⟩ := j_next h g
  have hS1 := c1.1.1
  have hT1 := r1.1.1
  have J1 := hJ0.f p1 q1
  have hgt := nx_gt C hlt
  have h471 : sI t1 118 3447 = nI (wPe W) := by rw [(q1.1 118 (by decide)).1]; exact h47
  obtain ⟨v2, t2, f2, p2, q2, hx⟩ := j_newName c1 r1 hN J1.1.2.2.2.1 J1.2.2.1 h471 J1.2.2.2.2.1 (first := 0) (many := wPe W) (by omega)
  rw [show 56 + 0 + wPe W = 56 + wPe W by omega] at q2 hx
  have hS2 : CS v2 := hS1.fi p2.1
  have hrd : fX9_readPerson 113 t = (bGI 9 113 12 (fun x2 => bIf (x2 = 0) (bCallV 9 113 (fX9_isOf 113) (fun x3 => bIf (x3 = 0) (fX9_readPerson_71 113 (nI (wPe W))) (bCallV 9 113 (fX9_next 113) (fun _ => bGR 9 113 24 (fun x4 => bCallV 9 113 (fX9_readPersonName 113) (fun x5 => bSI x4 ((3449 : Int32) + nI (wPe W)) x5 (fX9_readPerson_71 113 (nI (wPe W))))))))) (fX9_readPerson_71 113 (nI (wPe W))))) t2 := by
    have hnew : fX9_readNew 113 (0 : Int32) (nI (wPe W)) t = some ((), t2) := by
      unfold fX9_readNew
      rw [g.1.cv, x_call f1, li_0]
      exact f2
    unfold fX9_readPerson
    rw [rt_c hT, li_3447, rt_n hT (by decide), h47, e_if, if_neg (by rw [li_8, eq_i (by omega) (by omega)]; omega)]
    unfold fX9_readPerson_25
    rw [g.1.gi g.2.2.2, e_if, if_pos (by decide), g.1.cv, x_call hnew]
  rcases hx with ⟨k1, k2, k3, k4, k5, k6, c2, r2⟩ | ⟨k1, je⟩
  · have hNN := nn_of c1.2.2.1 k2 k3
    have hw2 : WoS v2 48 := J1.1.1.fi p2.1
    obtain ⟨hC2, hA2, hB2⟩ := J1.g7 p2 q2
    have hcl : fX6_readPerson 107 v = (bGR 6 107 0 (fun x9 => bCallV 4 x9 (fX4_isWord x9 27) (fun x10 => bIf (x10 = 0) (fX6_readPerson_88 107 (nI (wPe W))) (bGR 6 107 0 (fun x11 => bCallV 4 x11 (fX4_next x11) (fun _ => bCallV 6 107 (fX6_takePerson 107) (fun x12 => bIf (x12 = 0) (bRetZ (0 : Int32)) (bGR 6 107 1 (fun x13 => bGR 7 x13 8 (fun x14 => bGR 6 107 0 (fun x15 => bGI 4 x15 6 (fun x16 => bSI x14 (nI (wPe W)) x16 (fX6_readPerson_88 107 (nI (wPe W))))))))))))))) (wI (wI v2 49 (wPe W) mI) 50 (wPe W) mI) := by
      have hw3 : WoS (wI v2 49 (wPe W) mI) 48 := hw2.w
      have hS3 : CS (wI v2 49 (wPe W) mI) := hS2.w
      unfold fX6_readPerson
      rw [w_th hS, xGIe (show (sH v 48).1 = 7 from a1.1) h7, w_tk hS, e_callV hS.k106, x_call e1, e_callV hS1.k107, x_call k1, e_if, if_neg (by decide), w_th hS2, xGR hw2.1 (show sP v2 48 8 = 49 from hw2.2.1), show (-1 : Int32) = mI from rfl, xSI (show sH v2 49 = (11, 8) from hw2.2.2.2.2.2.2.2.2.1) hp (by decide), w_th hS3, xGR hw3.1 (show sP _ 48 9 = 50 from hw3.2.2.1), xSI (show sH _ 50 = (11, 8) from hw3.2.2.2.2.2.2.2.2.2.1) hp (by decide)]
    have hu := J1.2.2.2.2.2.1 (wPe W) (Nat.le_refl _) hp
    have K2 : KP v (wI (wI v2 49 (wPe W) mI) 50 (wPe W) mI) t t2 C (wPe W) (nx C N a) (ed C N (nx C N a)) none none := by
      have hb : ∀ b, b ≠ 106 → b ≠ 107 → sI v2 b = sI v b := fun b h1 h2 => by rw [p2.1.1 b (by omega), p1.1.1 b h1]
      have hww : ∀ b, b ≠ 49 → b ≠ 50 → sI (wI (wI v2 49 (wPe W) mI) 50 (wPe W) mI) b = sI v2 b := fun b h1 h2 => by
        funext j
        rw [sI_wI_ne (Or.inl h2), sI_wI_ne (Or.inl h1)]
      refine ⟨⟨(p1.fi.tr p2.kf).tr ((FI.w (A := a48) _ _ (Or.inr ⟨by decide, by decide⟩)).tr (FI.w _ _ (Or.inr ⟨by decide, by decide⟩))), fun j h1 h2 => ?_, fun b hb' => ?_, fun j hj => ?_, ?_, sI_wI_eq _ _ _ _, ?_, ?_⟩, q1.fw.tr q2.1, fun i _ _ => ?_, ?_, ?_, fun j hj => ?_, k6, fun j hj => ?_⟩
      · rw [hww 107 (by decide) (by decide), p2.2 j h1 h2, p1.1.1 107 (by decide)]
      · rw [hww b (by omega) (by omega)]
        refine hb b ?_ ?_
        · rcases hb' with h | h | h | h
          · omega
          · omega
          · omega
          · have := h.1.2; omega
        · rcases hb' with h | h | h | h
          · omega
          · omega
          · omega
          · have := h.1.2; omega
      · rw [sI_wI_ne (Or.inl (by decide)), sI_wI_ne (Or.inr hj), sI_wI_ne (Or.inr hj), sI_wI_ne (Or.inl (by decide)), hb 49 (by decide) (by decide), hb 50 (by decide) (by decide)]
        exact ⟨rfl, rfl⟩
      · rw [sI_wI_ne (Or.inl (by decide)), sI_wI_eq]; rfl
      · rw [hww 107 (by decide) (by decide)]; exact k4
      · rw [hww 107 (by decide) (by decide)]; exact k5
      · rw [q2.2.1, (q1.1 118 (by decide)).1]
      · rw [q2.2.1]; exact hu.1
      · rw [q2.2.1]; exact hu.2
      · rw [q2.2.2.2 j hj, (q1.1 120 (by decide)).2]
      · rw [q2.2.2.1 j hj, q1.I hj]
    have cc : CG (wI (wI v2 49 (wPe W) mI) 50 (wPe W) mI) C N (nx C N (nx C N a)) := (c2.w (by decide) (by decide)).w (by decide) (by decide)
    have hC3 : CNT (wI (wI v2 49 (wPe W) mI) 50 (wPe W) mI) n nt := by
      have hww : ∀ b, b ≠ 49 → b ≠ 50 → sI (wI (wI v2 49 (wPe W) mI) 50 (wPe W) mI) b = sI v2 b := fun b h1 h2 => by
        funext j
        rw [sI_wI_ne (Or.inl h2), sI_wI_ne (Or.inl h1)]
      unfold CNT
      rw [hww 107 (by decide) (by decide), hww 108 (by decide) (by decide), hww 109 (by decide) (by decide), hww 110 (by decide) (by decide)]
      exact hC2
    have hR3 : RNT t2 C n nt := fun i hi => by
      obtain ⟨-, -, -, -, q5⟩ := hN.2.2.2.1 i hi
      rw [q2.2.2.2 _ (by omega)]
      exact J1.2.2.1 i hi
    obtain ⟨v3, t3, m1, m2, m3⟩ := j_pOf K2 cc r2 hw2.w.w hp hN hC3 hR3 (by rw [q2.2.1]; exact h471)
    unfold JRes
    rw [g.1.cv]
    rcases m3 with ⟨pa, di, a', o1, o2, o3, o4, o5, o6, o7⟩ | ⟨o1, je⟩
    · have hS3 := o6.1.1
      have hT3 := o7.1.1
      have hn : n < 14 := by have := hN.1; have := hN.2.2.1; omega
      have h4 : sI v3 107 4 = nI n := by rw [o2.1.2.1 4 (by decide) (by decide)]; exact a4.1
      have hkeep := c_keepName hS3 hn h4 o2.1.2.2.2.2.2.2.1 o2.1.2.2.2.2.2.2.2 (nI (wPe W))
      obtain ⟨x, hxe⟩ : ∃ x, x = nx C N a := ⟨_, rfl⟩
      obtain ⟨y, hye⟩ : ∃ y, y = ed C N (nx C N a) := ⟨_, rfl⟩
      rw [← hye, ← hxe] at o2 hkeep hNN
      have hSk : CS (kpS v3 n x y (nI (wPe W))) := hS3.kp
      have hwk : WoS (kpS v3 n x y (nI (wPe W))) 48 := (a1.fi o2.1.1).kp
      have hSm : CS (wI (kpS v3 n x y (nI (wPe W))) 48 7 (nI (wPe W + 1))) := hSk.w
      have JW3 := o2.jw hJ0 hI0 hp o3 o4
      have ck : CG (wI (kpS v3 n x y (nI (wPe W))) 48 7 (nI (wPe W + 1))) C N a' := o6.kp.w (by decide) (by decide)
      have rk : RG (wI t3 118 3447 (nI (wPe W + 1))) C N a' := o7.c
      have hr : fX9_readPerson 113 t = some ((), wI t3 118 3447 (nI (wPe W + 1))) := by
        rw [hrd, m1]
        unfold fX9_readPerson_107
        rw [o7.1.gi o7.2.2.2, e_if, if_pos (by decide), rt_c hT3, li_3447, rt_n hT3 (by decide), o2.2.2.1 3447 (by omega) (by omega), h47, li_1, nI_add, rt_cell hT3 (by decide)]
        rfl
      have hc : fX6_readPerson 107 v = bCall (fX4_takeSign 106 (nI 59)) (fun x2 => bRetZ x2) (wI (kpS v3 n x y (nI (wPe W))) 48 7 (nI (wPe W + 1))) := by
        rw [hcl, o1]
        unfold fX6_readPerson_139
        rw [e_callV hS3.k107, x_call hkeep, w_th hSk, nI_succ1, xPI hwk.1, w_tk hSm, e_callV hSm.k106]
        rfl
      obtain ⟨v4, t4, g1, g2, g3, g4⟩ := j_end ck rk r40
      rw [x_call hr]
      have hKF : KF v v4 t t4 := by
        have h1 : FI a48 v3 (wI (kpS v3 n x y (nI (wPe W))) 48 7 (nI (wPe W + 1))) := fi_kp.tr (FI.w _ _ (Or.inr ⟨by decide, by decide⟩))
        exact ⟨(m2.1.tr h1).tr g2.fi, (m2.2.tr (FW.c (by decide))).tr g3.fw⟩
      refine ⟨v4, t4, hKF, g1, ?_⟩
      rcases g4 with ⟨s1, s2, s3⟩ | ⟨s1, s2⟩
      · refine Or.inl ⟨_, _, _, _, _, _, by rw [hc, x_call s1]; rfl, s2, s3, JW3.f g2 g3, ⟨hN.add hNN (Or.inl ⟨rfl, hp, rfl, rfl⟩), hr0, hla⟩, ?_⟩
        have := nx_ge C N a'
        have := nx_ge C N (nx C N a)
        omega
      · exact Or.inr ⟨by rw [hc, x_call s1]; rfl, s2⟩
    · have hr : fX9_readPerson 113 t = some ((), t3) := by rw [hrd, m1, x_107E je.bd]
      rw [x_call hr]
      exact ⟨v3, t3, m2, by rw [x_114E je.bd], Or.inr ⟨by rw [hcl, o1], je⟩⟩
  · have hr : fX9_readPerson 113 t = some ((), t2) := by rw [hrd, x_25E je.bd]
    unfold JRes
    rw [g.1.cv, x_call hr]
    refine ⟨v2, t2, ⟨p1.fi.tr p2.kf, q1.fw.tr q2.1⟩, by rw [x_114E je.bd], Or.inr ⟨?_, je⟩⟩
    unfold fX6_readPerson
    rw [w_th hS, xGIe (show (sH v 48).1 = 7 from a1.1) h7, w_tk hS, e_callV hS.k106, x_call e1, e_callV hS1.k107, x_call k1, e_if, if_pos (by decide)]
    rfl
end PERSC

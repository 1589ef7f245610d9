/-! A RULE FROM if TO ;, both readers -/
/-- what reading a rule does -/
def JR (C : Nat → Nat) (N : Nat) (L : List (List qS3 × Nat)) (v t v' t' : mS) (a : Nat) (r : Int32) : Prop := FI a11 v v' ∧ FWL t t' ∧ ((r = nI 1 ∧ ∃ new w a' m', CG v' C N a' ∧ RG t' C N a' ∧ JL v' t' (L ++ [(new, w)]) [] m' ∧ w ≤ 4 ∧ sWf 0 new ∧ (∀ x ∈ new, sOk x) ∧ a < a' ∧ L.length < 12 ∧ m' ≤ 24 ∧ 3 * (lAll L ++ new).length ≤ a' + m') ∨ (r = nI 0 ∧ JE v' t'))
section LRULE2
variable {v t : mS} {C : Nat → Nat} {N a m : Nat} {L : List (List qS3 × Nat)} {cur : List qS3}
/-- from the word give on -/
theorem j_rule2 (h : CG v C N a) (g : RG t C N a) (hc : JLc v L cur m) (hr : JLr t L cur m) (hs : sI t 118 (3730 + L.length) = nI (lAll L).length) (hL : L.length < 12) (hm : m ≤ 24) (hS : 3 * (lAll L ++ cur).length ≤ a + m) (hN : N ≤ 300) (hw0 : sWf 0 cur) (hok : ∀ x ∈ cur, sOk x) : ∃ v' t' r, (bGR 1 111 0 (fun x4 => bCallV 4 x4 (fX4_takeWord x4 1) (fun x5 => bIf (x5 = 0) (bRetZ (0 : Int32)) (bCallV 1 111 (fX1_whomHere 111) (fun x6 => bIf (x6 = (-1 : Int32)) (bGR 1 111 0 (fun x12 => bCallV 4 x12 (fX4_refuseToken x12 (2 : Int32)) (fun x13 => bRetZ x13))) (bCall (fX0_step (4 : Int32) x6 (0 : Int32) (0 : Int32)) (fun x7 => bCallV 1 111 (fX1_keepStep 111 x7) (fun _ => bGI 1 111 1 (fun x8 => bPI 1 111 1 (x8 + (1 : Int32)) (bGR 1 111 0 (fun x9 => bCallV 4 x9 (fX4_next x9) (fun _ => bGR 1 111 0 (fun x10 => bCallV 4 x10 (fX4_takeSign x10 (59 : Int32)) (fun x11 => bRetZ x11)))))))))))))) v = some (r, v') ∧ (bCallV 9 113 (fX9_isGive 113) (fun x5 => bCallV 9 113 (fX9_must 113 x5) (fun _ => bGI 9 113 12 (fun x6 => bIf (x6 = 0) (bCallV 9 113 (fX9_whomWord 113) (fun x7 => fX9_readRule_94 113 x7)) (fX9_readRule_94 113 (0 : Int32)))))) t = some ((), t') ∧ FI a11 v v' ∧ FWL t t' ∧ ((r = nI 1 ∧ ∃ w a', CG v' C N a' ∧ RG t' C N a' ∧ JL v' t' (L ++ [(cur, w)]) [] m ∧ w ≤ 4 ∧ a ≤ a') ∨ (r = nI 0 ∧ JE v' t')) := by
  have hS1 := h.1.1
  have hT := g.1.1
  obtain ⟨b1, b2⟩ := j_bd (by omega) hm hS h.2.2.1 hN
  have hgv : fX9_isGive 113 t = some (nI (wq C N a 1).toNat, t) := by rw [x_isGive hT, g.wbq (by decide) (by decide)]
  obtain ⟨v1, t1, f1, p1, q1, h1⟩ := j_word h g (z := 1) (by decide) rfl
  have hSv1 : CS v1 := hS1.fi p1.1
  have r0 : ∀ o, (bGI 9 113 12 (fun x6 => bIf (x6 = 0) (bCallV 9 113 (fX9_whomWord 113) (fun x7 => fX9_readRule_94 113 x7)) (fX9_readRule_94 113 (0 : Int32)))) t1 = o → (bCallV 9 113 (fX9_isGive 113) (fun x5 => bCallV 9 113 (fX9_must 113 x5) (fun _ => bGI 9 113 12 (fun x6 => bIf (x6 = 0) (bCallV 9 113 (fX9_whomWord 113) (fun x7 => fX9_readRule_94 113 x7)) (fX9_readRule_94 113 (0 : Int32)))))) t = o := fun o ho => by
    rw [g.1.cv, x_call hgv, g.1.cv, x_call f1]
    exact ho
  rcases h1 with ⟨e1, -, c1, r1⟩ | ⟨e1, -, je⟩
  · have hc1 := hc.fw p1
    have hr1 := hr.fw q1
    have hs1 : sI t1 118 (3730 + L.length) = nI (lAll L).length := by rw [(q1.1 118 (by decide)).1]; exact hs
    obtain ⟨F, hF⟩ : ∃ F, F = fq (fun k => wq C N (nx C N a) (13 + k)) 0 5 := ⟨_, rfl⟩
    have hfc : fX1_whomHere 111 v1 = some (oI F, v1) := by rw [hF]; exact c_whomHere c1
    have hfr : fX9_whomWord 113 t1 = some (oI F, t1) := by
      rw [x_whomWord r1.1.1, fq_c (Q := fun k => wq C N (nx C N a) (13 + k)) 5 0 (fun m _ h2 => r1.wbq (by omega) (by omega)), ← hF]
    have n1 := nx_ge C N a
    cases hFo : F with
    | none =>
      rw [hFo] at hfc hfr
      rw [oI_n] at hfc hfr
      obtain ⟨v2, t2, e2, f2, p2, q2, je⟩ := j_must0 c1 r1
      refine ⟨v2, t2, nI 0, ?_, r0 _ ?_, p1.f11.tr p2.f11, q1.fw.l2.tr q2.fw.l2, Or.inr ⟨rfl, je⟩⟩
      · rw [xGR hS1.k111 hS1.p111, e_callV hS1.k106, x_call e1, e_if, if_neg (by decide), e_callV hSv1.k111, x_call hfc, e_if, if_pos (show mI = (-1 : Int32) from rfl), xGR hSv1.k111 hSv1.p111, e_callV hSv1.k106, li_2, x_call e2]
        rfl
      · rw [r1.1.gi r1.2.2.2, e_if, if_pos (by decide), r1.1.cv, x_call hfr]
        unfold fX9_readRule_94
        rw [e_if, if_pos (by decide)]
        unfold fX9_readRule_105
        rw [r1.1.cv, x_call f2, e_callV je.bd.1.k, li_59, x_call (x_isSign je.bd.1 59), e_callV je.bd.1.k, x_call (x_mustE je.bd _), xGI je.bd.1.k, e_if, if_neg je.bd.ne.1]
        rfl
    | some w =>
      rw [hFo] at hfc hfr
      rw [oI_s] at hfc hfr
      obtain ⟨-, w1, w2⟩ := fq_lt _ _ _ _ (hF.symm.trans hFo)
      have hw : w < 5 := by omega
      have hk1 : ¬ nI w = (-1 : Int32) := by
        show ¬ nI w = mI
        rw [m1_i (by omega)]
        exact id
      have hst := c_step (s := v1) (p := 4) (k := w) (q := 0) (n := 0) (by decide) (by omega) (by decide) (by decide)
      rw [show 4 + w * 16 + 0 * 256 + 0 * 65536 = 4 + w * 16 by omega] at hst
      have hks := c_keepStep hSv1 hc1.2.2.1 (by omega) (nI (4 + w * 16))
      have c2 : CG (stS v1 (lEnc L ++ cur.map lCode).length (nI (4 + w * 16))) C N (nx C N a) := c1.st2
      have c3 : CG (wI (stS v1 (lEnc L ++ cur.map lCode).length (nI (4 + w * 16))) 111 1 (nI (L.length + 1))) C N (nx C N a) := c2.w (by decide) (by decide)
      have hc3 := hc1.rule w
      have h111 : sI (stS v1 (lEnc L ++ cur.map lCode).length (nI (4 + w * 16))) 111 1 = nI L.length := by
        unfold stS
        rw [sI_wI_ne (Or.inr (by decide)), sI_wI_ne (Or.inl (by decide))]
        exact hc1.1
      have hSv2 := c2.1.1
      have hSv3 := c3.1.1
      have F3 : FI a11 v1 (wI (stS v1 (lEnc L ++ cur.map lCode).length (nI (4 + w * 16))) 111 1 (nI (L.length + 1))) := st_f11.tr (FI.w _ _ (Or.inr (Or.inl rfl)))
      obtain ⟨v4, e4, p4', c4⟩ := c_adv c3
      have p4 : F6 j28 _ v4 := p4'.mo j25_28
      obtain ⟨t4, f4, q4, r4⟩ := j_must1 r1
      have hc4 := hc3.fw p4
      have hr4 := hr1.fw q4
      have hs4 : sI t4 118 (3730 + L.length) = nI (lAll L).length := by rw [(q4.1 118 (by decide)).1]; exact hs1
      have hSv4 := c4.1.1
      obtain ⟨v5, t5, f5, p5, q5, h5⟩ := j_sign c4 r4 (c := 59) (by decide) rfl
      have hc5 := hc4.fw p5
      have hr5 := hr4.fw q5
      have hs5 : sI t5 118 (3730 + L.length) = nI (lAll L).length := by rw [(q5.1 118 (by decide)).1]; exact hs4
      have n2 := nx_ge C N (nx C N a)
      have n3 := nx_ge C N (nx C N (nx C N a))
      have hcl : ∀ x, fX4_takeSign 106 (nI 59) v4 = some (x, v5) → (bGR 1 111 0 (fun x4 => bCallV 4 x4 (fX4_takeWord x4 1) (fun x5 => bIf (x5 = 0) (bRetZ (0 : Int32)) (bCallV 1 111 (fX1_whomHere 111) (fun x6 => bIf (x6 = (-1 : Int32)) (bGR 1 111 0 (fun x12 => bCallV 4 x12 (fX4_refuseToken x12 (2 : Int32)) (fun x13 => bRetZ x13))) (bCall (fX0_step (4 : Int32) x6 (0 : Int32) (0 : Int32)) (fun x7 => bCallV 1 111 (fX1_keepStep 111 x7) (fun _ => bGI 1 111 1 (fun x8 => bPI 1 111 1 (x8 + (1 : Int32)) (bGR 1 111 0 (fun x9 => bCallV 4 x9 (fX4_next x9) (fun _ => bGR 1 111 0 (fun x10 => bCallV 4 x10 (fX4_takeSign x10 (59 : Int32)) (fun x11 => bRetZ x11)))))))))))))) v = bRetZ x v5 := fun x hx => by
        rw [xGR hS1.k111 hS1.p111, e_callV hS1.k106, x_call e1, e_if, if_neg (by decide), e_callV hSv1.k111, x_call hfc, e_if, if_neg hk1, li_4, li_0, x_call hst, e_callV hSv1.k111, x_call hks, xGIe hSv2.k111 h111, nI_succ1, xPI hSv2.k111, xGR hSv3.k111 hSv3.p111, e_callV hSv3.k106, x_call e4, xGR hSv4.k111 hSv4.p111, e_callV hSv4.k106, li_59, x_call hx]
      have hrl : ∀ o, (bGI 9 113 12 (fun x2 => bIf (x2 ≤ 0) (bGR 9 113 24 (fun x3 => bGI 9 113 31 (fun x4 => bGI 9 113 19 (fun x5 => bSI x3 ((3742 : Int32) + x4) x5 (bGR 9 113 24 (fun x6 => bGI 9 113 31 (fun x7 => bSI x6 ((3754 : Int32) + x7) (nI w) (bGI 9 113 31 (fun x8 => bPI 9 113 31 (x8 + (1 : Int32)) (bRet ())))))))))) (bRet ()))) t5 = o → (bGI 9 113 12 (fun x6 => bIf (x6 = 0) (bCallV 9 113 (fX9_whomWord 113) (fun x7 => fX9_readRule_94 113 x7)) (fX9_readRule_94 113 (0 : Int32)))) t1 = o := fun o ho => by
        rw [r1.1.gi r1.2.2.2, e_if, if_pos (by decide), r1.1.cv, x_call hfr]
        unfold fX9_readRule_94
        rw [e_if, if_neg (by rw [li_0, lt_i (by omega) (by omega)]; omega)]
        unfold fX9_readRule_105
        rw [r1.1.cv, x_call f4, r4.1.cv, li_59, x_call (x_isSign r4.1.1 59), r4.sbq2 (by decide), r4.1.cv, x_call f5]
        exact ho
      rcases h5 with ⟨z1, c6, r6⟩ | ⟨z1, je⟩
      · have hT5 := r6.1.1
        have hTa : RT (wI t5 118 (3742 + L.length) (nI (lAll L ++ cur).length)) := hT5.w
        have hTb : RT (wI (wI t5 118 (3742 + L.length) (nI (lAll L ++ cur).length)) 118 (3754 + L.length) (nI w)) := hTa.w
        have ha31 : sI (wI t5 118 (3742 + L.length) (nI (lAll L ++ cur).length)) 113 31 = nI L.length := by
          rw [sI_wI_ne (Or.inl (by decide))]; exact hr5.1
        have hb31 : sI (wI (wI t5 118 (3742 + L.length) (nI (lAll L ++ cur).length)) 118 (3754 + L.length) (nI w)) 113 31 = nI L.length := by
          rw [sI_wI_ne (Or.inl (by decide))]; exact ha31
        refine ⟨v5, wI (wI (wI t5 118 (3742 + L.length) (nI (lAll L ++ cur).length)) 118 (3754 + L.length) (nI w)) 113 31 (nI (L.length + 1)), nI 1, ?_, r0 _ (hrl _ ?_), ((p1.f11.tr F3).tr p4.f11).tr p5.f11, (((q1.fw.l2.tr q4.fw.l2).tr q5.fw.l2).tr ((FW.c (by omega)).l2.tr (FW.c (by omega)).l2)).tr FWL.i31, Or.inl ⟨rfl, w, nx C N (nx C N (nx C N a)), c6, ((r6.c).c).i (by decide), ⟨hc5, hr5.rule hs5 hL w⟩, by omega, by omega⟩⟩
        · rw [hcl _ z1]
          rfl
        · rw [r6.1.gi r6.2.2.2, e_if, if_pos (by decide), rt_c hT5, xGIe hT5.k hr5.1, xGIe hT5.k hr5.2.1, li_3742, nI_add, rt_cell hT5 (by omega), rt_c hTa, xGIe hTa.k ha31, li_3754, nI_add, rt_cell hTa (by omega), xGIe hTb.k hb31, nI_succ1, xPI hTb.k]
          rfl
      · refine ⟨v5, t5, nI 0, ?_, r0 _ (hrl _ ?_), ((p1.f11.tr F3).tr p4.f11).tr p5.f11, (q1.fw.l2.tr q4.fw.l2).tr q5.fw.l2, Or.inr ⟨rfl, je⟩⟩
        · rw [hcl _ z1]
          rfl
        · rw [xGI je.bd.1.k, e_if, if_neg je.bd.ne.1]
          rfl
  · refine ⟨v1, t1, nI 0, ?_, r0 _ ?_, p1.f11, q1.fw.l2, Or.inr ⟨rfl, je⟩⟩
    · rw [xGR hS1.k111 hS1.p111, e_callV hS1.k106, x_call e1, e_if, if_pos (by decide)]
      rfl
    · rw [xGI je.bd.1.k, e_if, if_neg je.bd.ne.2, x_r94E je.bd]
theorem j_rule (h : CG v C N a) (g : RG t C N a) (hJ : JL v t L [] m) (hL : L.length ≤ 12) (hm : m ≤ 24) (hS : 3 * (lAll L ++ ([] : List qS3)).length ≤ a + m) (hN : N ≤ 300) : ∃ v' t' r, fX1_readRule 111 v = some (r, v') ∧ fX9_readRule 113 t = some ((), t') ∧ JR C N L v t v' t' a r := by
  have hS1 := h.1.1
  have hT := g.1.1
  obtain ⟨b1, b2⟩ := j_bd hL hm hS h.2.2.1 hN
  have hif : fX9_isIf 113 t = some (nI (wq C N a 0).toNat, t) := by rw [x_isIf hT, g.wbq (by decide) (by decide)]
  obtain ⟨v1, e1, p1, c1⟩ := c_takeWord h (z := 0) (by decide)
  have c0 : fX1_readRule 111 v = (if nI (wq C N a 0).toNat = 0 then fX1_readRule_31 111 v else bGI 1 111 1 (fun x3 => bIf (x3 < (12 : Int32)) (fX1_readRule_31 111) (bGR 1 111 0 (fun x4 => bCallV 4 x4 (fX4_refuseToken x4 (6 : Int32)) (fun x5 => bRetZ x5)))) v) := by
    unfold fX1_readRule
    rw [xGR hS1.k111 hS1.p111, e_callV hS1.k106, x_call (c_isWord h (z := 0) (by decide)), e_if]
  have r0 : fX9_readRule 113 t = (if nI (wq C N a 0).toNat = 0 then bCallV 9 113 (fX9_wrong 113) (fun _ => fX9_readRule_11 113) t else fX9_readRule_11 113 t) := by
    unfold fX9_readRule
    rw [g.1.cv, x_call hif, e_if]
  unfold pW at e1 c1
  cases q0 : wq C N a 0 with
  | false =>
    rw [q0] at e1 c1 c0 r0
    have e1 : fX4_takeWord 106 0 v = some (nI 0, v1) := e1
    rw [if_pos (by decide)] at c0 r0
    obtain ⟨f1, f2⟩ := fk_b (C := C) (N := N) (a := a) (w := 2) (by decide) (by decide)
    have je : JE v1 (wI (wI t 113 12 (nI (fk C N a 2))) 113 13 (nI a)) := ⟨hT.bad, _, a, c1, re_bad f1 f2⟩
    refine ⟨v1, _, nI 0, ?_, ?_, p1.f11, f9_bad.fw.l2, Or.inr ⟨rfl, je⟩⟩
    · rw [c0]
      unfold fX1_readRule_31
      rw [xGR hS1.k111 hS1.p111, e_callV hS1.k106, x_call e1, e_if, if_pos (by decide)]
      rfl
    · rw [r0, g.1.cv, x_call (x_wrongG g), x_r11E je.bd]
  | true =>
    rw [q0] at e1 c1 c0 r0
    have e1 : fX4_takeWord 106 0 v = some (nI 1, v1) := e1
    rw [if_neg (by decide)] at c0 r0
    rw [xGIe hS1.k111 hJ.1.1, e_if] at c0
    have rg : fX9_readRule_11 113 t = (if nI L.length = (12 : Int32) then (bGI 9 113 15 (fun x3 => bCallV 9 113 (fX9_fail 113 (6 : Int32) x3) (fun _ => fX9_readRule_37 113))) t else fX9_readRule_37 113 t) := by
      unfold fX9_readRule_11
      rw [g.1.gi g.2.2.2, e_if, if_pos (by decide), xGIe hT.k hJ.2.1, e_if]
    by_cases h12 : L.length < 12
    · rw [if_pos (by rw [li_12, lt_i (by omega) (by omega)]; omega)] at c0
      rw [if_neg (by rw [li_12, eq_i (by omega) (by omega)]; omega)] at rg
      have c1' : CG v1 C N (nx C N a) := c1
      have hSv1 := c1'.1.1
      obtain ⟨-, t1, -, f1, -, q1, -, r1⟩ := j_next h g
      have J1 := hJ.f p1 q1
      have hT1 := r1.1.1
      have hx := wq_nx q0
      have hz0 : zl 0 = 2 := by decide
      have r2 : RG (wI t1 118 (3730 + L.length) (nI (lAll L ++ ([] : List qS3)).length)) C N (nx C N a) := r1.c
      have J2 : JL v1 (wI t1 118 (3730 + L.length) (nI (lAll L ++ ([] : List qS3)).length)) L [] m := ⟨J1.1, JLr.begin (h := J1.2) h12⟩
      obtain ⟨v3, t3, r, o1, o2, o3⟩ := j_cond v1 _ C N (nx C N a) m L [] c1' r2 J2 hL hm (by omega) hN
      have r31 : fX9_readRule 113 t = (bCallV 9 113 (fX9_isGive 113) (fun x5 => bCallV 9 113 (fX9_must 113 x5) (fun _ => bGI 9 113 12 (fun x6 => bIf (x6 = 0) (bCallV 9 113 (fX9_whomWord 113) (fun x7 => fX9_readRule_94 113 x7)) (fX9_readRule_94 113 (0 : Int32)))))) t3 := by
        rw [r0, rg]
        unfold fX9_readRule_37
        rw [g.1.gi g.2.2.2, e_if, if_pos (by decide), g.1.cv, x_call f1, rt_c hT1, xGIe hT1.k J1.2.1, xGIe hT1.k J1.2.2.1, li_3730, nI_add, rt_cell hT1 (by omega), r2.1.cv, li_0, x_call o2]
      have c31 : ∀ o, (bIf (r = 0) (bRetZ (0 : Int32)) (bGR 1 111 0 (fun x4 => bCallV 4 x4 (fX4_takeWord x4 1) (fun x5 => bIf (x5 = 0) (bRetZ (0 : Int32)) (bCallV 1 111 (fX1_whomHere 111) (fun x6 => bIf (x6 = (-1 : Int32)) (bGR 1 111 0 (fun x12 => bCallV 4 x12 (fX4_refuseToken x12 (2 : Int32)) (fun x13 => bRetZ x13))) (bCall (fX0_step (4 : Int32) x6 (0 : Int32) (0 : Int32)) (fun x7 => bCallV 1 111 (fX1_keepStep 111 x7) (fun _ => bGI 1 111 1 (fun x8 => bPI 1 111 1 (x8 + (1 : Int32)) (bGR 1 111 0 (fun x9 => bCallV 4 x9 (fX4_next x9) (fun _ => bGR 1 111 0 (fun x10 => bCallV 4 x10 (fX4_takeSign x10 (59 : Int32)) (fun x11 => bRetZ x11))))))))))))))) v3 = o → fX1_readRule 111 v = o := fun o ho => by
        rw [c0]
        unfold fX1_readRule_31
        rw [xGR hS1.k111 hS1.p111, e_callV hS1.k106, x_call e1, e_if, if_neg (by decide), e_callV hSv1.k111]
        rw [x_call (show wX1_readEither 111 (0 : Int32) v1 = some (r, v3) from o1)]
        exact ho
      have FA : FI a11 v v3 := p1.f11.tr o3.1.1
      have FB : FWL t t3 := (q1.fw.l2.tr (FW.c (by omega)).l2).tr o3.1.2.1
      have hcell : sI t3 118 (3730 + L.length) = nI (lAll L).length := by
        rw [o3.1.2.2 _ (by omega), sI_wI_eq, List.append_nil]
      obtain ⟨o4, o5⟩ := o3
      rcases o5 with ⟨s0, new, a', m', s1, s2, s3, s4, s5, s6, s7, s8, s9⟩ | ⟨s0, je, j, s1, s2⟩
      · subst s0
        rw [List.nil_append] at s3
        have hl : (lAll L ++ new).length = (lAll L ++ ([] : List qS3)).length + new.length := by rw [List.append_nil, List.length_append]
        have hwf : sWf 0 new := by
          have := s5 0 [] (by omega) rfl
          rwa [List.append_nil] at this
        obtain ⟨v', t', r', z1, z2, z3, z4, z5⟩ := j_rule2 s1 s2 s3.1 s3.2 hcell h12 s7 (by omega) hN hwf s4
        refine ⟨v', t', r', c31 _ ?_, r31.trans z2, FA.tr z3, FB.tr z4, ?_⟩
        · rw [e_if, if_neg (by decide)]
          exact z1
        · rcases z5 with ⟨y0, w, a2, y1, y2, y3, y4, y5⟩ | y
          · exact Or.inl ⟨y0, new, w, a2, m', y1, y2, y3, y4, hwf, s4, by omega, h12, s7, by omega⟩
          · exact Or.inr y
      · subst s0
        refine ⟨v3, t3, nI 0, c31 _ ?_, r31.trans ?_, FA, FB, Or.inr ⟨rfl, je⟩⟩
        · rw [e_if, if_pos (by decide)]
          rfl
        · rw [e_callV je.bd.1.k, x_call (x_isGive je.bd.1), e_callV je.bd.1.k, x_call (x_mustE je.bd _), xGI je.bd.1.k, e_if, if_neg je.bd.ne.2, x_r94E je.bd]
    · rw [if_neg (by rw [li_12, lt_i (by omega) (by omega)]; omega)] at c0
      rw [if_pos (by rw [li_12, eq_i (by omega) (by omega)]; omega)] at rg
      obtain ⟨v', t', x1, x2, x3, x4, je⟩ := j_fail h g (w := 6) (by decide) (by decide) (wq_k4 q0)
      refine ⟨v', t', nI 0, ?_, ?_, x3.f11, x4.fw.l2, Or.inr ⟨rfl, je⟩⟩
      · rw [c0, xGR hS1.k111 hS1.p111, e_callV hS1.k106, li_6, x_call x1]
        rfl
      · rw [r0, rg, g.1.gi g.2.1.1, g.1.cv, li_6, x_call x2, x_r37E je.bd]
end LRULE2

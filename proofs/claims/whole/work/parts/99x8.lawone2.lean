/-! ONE PART OF A RULE, both readers -/
section LONE8
variable {v t : mS} {C : Nat → Nat} {N a m lev : Nat} {L : List (List qS3 × Nat)} {cur : List qS3} {k1E k1O : Nat → Int32 → mM Int32} {k9O k9E : Nat → Int32 → mM Unit}
/-- too deep -/
theorem j_deep (h : CG v C N a) (g : RG t C N a) (hk : kd C N a ≠ 4) (l2 l3 : Int32) (p q r : Int32) : ∃ v' t', fX1_readOne_69 k1E k1O 111 (nI 6) l2 l3 v = some (nI 0, v') ∧ fX9_readOne_74 k9O k9E 113 (nI 6) p q r t = some ((), t') ∧ F6 j28 v v' ∧ F9 i12 l22 t t' ∧ JE v' t' := by
  have hS1 := h.1.1
  obtain ⟨v', t', e1, e2, e3, e4, je⟩ := j_fail h g (w := 7) (by decide) (by decide) hk
  refine ⟨v', t', ?_, ?_, e3, e4, je⟩
  · unfold fX1_readOne_69
    rw [e_if, if_neg (by rw [li_6, lt_i (by decide) (by decide)]; decide), xGR hS1.k111 hS1.p111, e_callV hS1.k106, li_7, x_call e1]
    rfl
  · unfold fX9_readOne_74
    rw [g.1.gi g.2.2.2, e_if, if_pos (by decide), e_if, if_pos (by decide), g.1.gi g.2.1.1, g.1.cv, li_7, x_call e2, x_o97E je.bd]
/-- behind a fault found at the token -/
theorem JO.bad {v' t' : mS} (hJ : JL v t L cur m) (hE : (lEnc L ++ cur.map lCode).length ≤ 300) (e3 : F6 j28 v v') (e4 : F9 i12 l22 t t') (je : JE v' t') : JO C N L v t v' t' cur m a (nI 0) :=
  ⟨KFL.f e3 e4, Or.inr ⟨rfl, je, _, hE, by rw [e3.1.1 111 (by decide)]; exact hJ.1.2.2.1⟩⟩
/-- from the level's test on: a question -/
theorem j_o69A (h : CG v C N a) (g : RG t C N a) (hJ : JL v t L cur m) (hL : L.length ≤ 12) (hm : m < 24) (hS : 3 * (lAll L ++ cur).length ≤ a + m) (hN : N ≤ 300) (hlev : lev ≤ 6) {k : Nat} (hk : k < 8) (hw : wq C N a (5 + k) = true) (l3 : Int32) : ∃ v' t' r, fX1_readOne_69 k1E k1O 111 (nI lev) (nI k) l3 v = some (r, v') ∧ fX9_readOne_74 k9O k9E 113 (nI lev) (nI false.toNat) (nI false.toNat) (nI k) t = some ((), t') ∧ JO C N L v t v' t' cur m a r := by
  have hS1 := h.1.1
  have hT := g.1.1
  have hk1 : ¬ nI k = (-1 : Int32) := by
    show ¬ nI k = mI
    rw [m1_i (by omega)]
    exact id
  obtain ⟨b1, b2⟩ := j_bd hL (by omega) hS h.2.2.1 hN
  by_cases h6 : lev = 6
  · obtain ⟨v', t', e1, e2, e3, e4, je⟩ := j_deep (k1E := k1E) (k1O := k1O) (k9O := k9O) (k9E := k9E) h g (wq_k4 hw) (nI k) l3 (nI false.toNat) (nI false.toNat) (nI k)
    subst h6
    exact ⟨v', t', _, e1, e2, JO.bad hJ (by omega) e3 e4 je⟩
  · obtain ⟨v1, t1, e1, f1, p1, q1, c1, r1⟩ := j_next h g
    have J1 := hJ.f p1 q1
    have hSv1 := c1.1.1
    have hx3 := wq_3 (z := 5 + k) (by omega) (by omega) hw
    obtain ⟨v', t', o1, o2, o3⟩ := j_case c1 r1 J1 hL (by omega) (by omega) hk k9O k9E
    have h9 : fX9_readOne_74 k9O k9E 113 (nI lev) (nI false.toNat) (nI false.toNat) (nI k) t = some ((), t') := by
      unfold fX9_readOne_74
      rw [g.1.gi g.2.2.2, e_if, if_pos (by decide), e_if, if_neg (by rw [li_6, eq_i (by omega) (by omega)]; omega)]
      unfold fX9_readOne_97
      rw [g.1.gi g.2.2.2, e_if, if_pos (by decide), g.1.cv, x_call f1, e_if, if_pos (by decide), e_if, if_pos (by decide)]
      exact o1
    have h1 : ∀ r, (r = nI 1 ∨ r = nI 0) → fX1_readCase 111 (nI k) v1 = some (r, v') → fX1_readOne_69 k1E k1O 111 (nI lev) (nI k) l3 v = some (r, v') := fun r hrz hr => by
      unfold fX1_readOne_69
      rw [e_if, if_pos (by rw [li_6, lt_i (by omega) (by omega)]; omega), xGR hS1.k111 hS1.p111, e_callV hS1.k106, x_call e1, e_if, if_neg hk1, e_callV hSv1.k111, x_call hr, bz hrz]
    rcases o3 with ⟨q, r, a', s1, s2, s3, s4, s5, s6⟩ | ⟨s1, s2, s3⟩
    · refine ⟨v', t', nI 1, h1 _ (Or.inl rfl) s1, h9, (KFL.f p1 q1).tr o2, Or.inl ⟨rfl, [(k, q, r)], a', m + 1, s4, s5, s6, ?_, ?_, by omega, by omega, by omega, ?_⟩⟩
      · intro x hx
        rw [List.mem_singleton] at hx
        subst hx
        exact s2
      · rw [show m + 1 - m = 1 by omega]
        exact sPu_q hk
      · show 3 * 1 + a + m + 1 ≤ a' + (m + 1)
        omega
    · exact ⟨v', t', nI 0, h1 _ (Or.inr rfl) s1, h9, (KFL.f p1 q1).tr o2, Or.inr ⟨rfl, s2, _, by omega, s3.trans J1.1.2.2.1⟩⟩
/-- from the level's test on: not -/
theorem j_o69B (h : CG v C N a) (g : RG t C N a) (hJ : JL v t L cur m) (hL : L.length ≤ 12) (hm : m ≤ 24) (hS : 3 * (lAll L ++ cur).length ≤ a + m) (hN : N ≤ 300) (hlev : lev ≤ 6) (IH : lev < 6 → JK (lev + 1) k1O k9O) (hw : wq C N a 4 = true) (x3 x4 : Int32) : ∃ v' t' r, fX1_readOne_69 k1E k1O 111 (nI lev) mI (nI true.toNat) v = some (r, v') ∧ fX9_readOne_74 k9O k9E 113 (nI lev) (nI true.toNat) x3 x4 t = some ((), t') ∧ JO C N L v t v' t' cur m a r := by
  have hS1 := h.1.1
  have hT := g.1.1
  obtain ⟨b1, b2⟩ := j_bd hL hm hS h.2.2.1 hN
  by_cases h6 : lev = 6
  · obtain ⟨v', t', e1, e2, e3, e4, je⟩ := j_deep (k1E := k1E) (k1O := k1O) (k9O := k9O) (k9E := k9E) h g (wq_k4 hw) mI (nI true.toNat) (nI true.toNat) x3 x4
    subst h6
    exact ⟨v', t', _, e1, e2, JO.bad hJ (by omega) e3 e4 je⟩
  · obtain ⟨v1, t1, e1, f1, p1, q1, c1, r1⟩ := j_next h g
    have J1 := hJ.f p1 q1
    have hSv1 := c1.1.1
    have hx3 := wq_3 (z := 4) (by omega) (by omega) hw
    obtain ⟨v2, t2, r, o1, o2, o3⟩ := IH (by omega) v1 t1 C N (nx C N a) m L cur c1 r1 J1 hL hm (by omega) hN
    have hSv2 : CS v2 := hSv1.fi o3.1.1
    have h9 : ∀ w, bCallV 9 113 (fX9_ruleStep 113 (8 : Int32) (0 : Int32) (0 : Int32)) (fun _ => bRet ()) t2 = some ((), w) → fX9_readOne_74 k9O k9E 113 (nI lev) (nI true.toNat) x3 x4 t = some ((), w) := fun w hw9 => by
      unfold fX9_readOne_74
      rw [g.1.gi g.2.2.2, e_if, if_pos (by decide), e_if, if_neg (by rw [li_6, eq_i (by omega) (by omega)]; omega)]
      unfold fX9_readOne_97
      rw [g.1.gi g.2.2.2, e_if, if_pos (by decide), g.1.cv, x_call f1, e_if, if_neg (by decide), r1.1.cv, nI_succ1, x_call o2]
      exact hw9
    have hst := c_step (s := v2) (p := 1) (k := 0) (q := 0) (n := 0) (by decide) (by decide) (by decide) (by decide)
    have h1 : ∀ w, fX1_keepStep 111 (nI (1 + 0 * 16 + 0 * 256 + 0 * 65536)) v2 = some ((), w) → fX1_readOne_69 k1E k1O 111 (nI lev) mI (nI true.toNat) v = some (r, w) := fun w hr => by
      unfold fX1_readOne_69
      rw [e_if, if_pos (by rw [li_6, lt_i (by omega) (by omega)]; omega), xGR hS1.k111 hS1.p111, e_callV hS1.k106, x_call e1, e_if, if_pos (show mI = (-1 : Int32) from rfl), e_if, if_neg (by decide), e_callV hSv1.k111, nI_succ1, x_call o1, li_1, li_0, x_call hst, e_callV hSv2.k111, x_call hr, bz o3.rz]
    obtain ⟨o4, o5⟩ := o3
    have F0 := (KFL.f p1 q1).tr o4
    rcases o5 with ⟨s0, new, a', m', s1, s2, s3, s4, s5, s6, s7, s8, s9⟩ | ⟨s0, je, j, s1, s2⟩
    · have hl : (lAll L ++ (cur ++ new)).length = (lAll L ++ cur).length + new.length := by rw [← List.append_assoc, List.length_append]
      obtain ⟨d1, d2⟩ := j_bd (b := a') (cur := cur ++ new) hL s7 (by omega) s1.2.2.1 hN
      obtain ⟨y1, y2, y3, y4, y5, y6⟩ := j_keep s1 s2 s3 hL (by omega) (by omega) 8 0 0 (x := nI (1 + 0 * 16 + 0 * 256 + 0 * 65536)) (lC_2 (p := 1) (Or.inl rfl)).symm
      refine ⟨_, _, r, h1 _ y1, h9 _ ?_, F0.tr y3, Or.inl ⟨s0, new ++ [(8, 0, 0)], a', m', y4, y5, ?_, ?_, sPu_not s5, s6, s7, by omega, ?_⟩⟩
      · rw [s2.1.cv, li_8, li_0, x_call y2]
        rfl
      · rw [show cur ++ (new ++ [(8, 0, 0)]) = cur ++ new ++ [(8, 0, 0)] by rw [List.append_assoc]]
        exact y6
      · intro x hx
        rw [List.mem_append, List.mem_singleton] at hx
        rcases hx with hx | hx
        · exact s4 x hx
        · subst hx
          exact ⟨by show 8 ≤ 10; decide, by show 0 < 256; decide, by show 0 ≤ 999; decide⟩
      · rw [List.length_append]
        show 3 * (new.length + 1) + a + m + 1 ≤ a' + m'
        omega
    · obtain ⟨v3, i, y1, y2, y3, y4, y5⟩ := c_keepF hSv2 s2 s1 (nI (1 + 0 * 16 + 0 * 256 + 0 * 65536))
      refine ⟨v3, t2, r, h1 _ y1, h9 _ ?_, F0.tr (KFL.cl y2), Or.inr ⟨s0, je.mv2 y3, i, y4, y5⟩⟩
      rw [e_callV je.bd.1.k, x_call (x_stepE je.bd _ _ _)]
      rfl
/-- from the level's test on: an open bracket -/
theorem j_o69C (h : CG v C N a) (g : RG t C N a) (hJ : JL v t L cur m) (hL : L.length ≤ 12) (hm : m ≤ 24) (hS : 3 * (lAll L ++ cur).length ≤ a + m) (hN : N ≤ 300) (hlev : lev ≤ 6) (IH : lev < 6 → JK (lev + 1) k1E k9E) (hw : sq C N a 40 = true) (x4 : Int32) : ∃ v' t' r, fX1_readOne_69 k1E k1O 111 (nI lev) mI (nI false.toNat) v = some (r, v') ∧ fX9_readOne_74 k9O k9E 113 (nI lev) (nI false.toNat) (nI true.toNat) x4 t = some ((), t') ∧ JO C N L v t v' t' cur m a r := by
  have hS1 := h.1.1
  have hT := g.1.1
  obtain ⟨b1, b2⟩ := j_bd hL hm hS h.2.2.1 hN
  by_cases h6 : lev = 6
  · obtain ⟨v', t', e1, e2, e3, e4, je⟩ := j_deep (k1E := k1E) (k1O := k1O) (k9O := k9O) (k9E := k9E) h g (sq_k4 hw) mI (nI false.toNat) (nI false.toNat) (nI true.toNat) x4
    subst h6
    exact ⟨v', t', _, e1, e2, JO.bad hJ (by omega) e3 e4 je⟩
  · obtain ⟨v1, t1, e1, f1, p1, q1, c1, r1⟩ := j_next h g
    have J1 := hJ.f p1 q1
    have hSv1 := c1.1.1
    have hx3 := nx_ge C N a
    obtain ⟨v2, t2, r, o1, o2, o3⟩ := IH (by omega) v1 t1 C N (nx C N a) m L cur c1 r1 J1 hL hm (by omega) hN
    have hSv2 : CS v2 := hSv1.fi o3.1.1
    have h9 : ∀ w, bCallV 9 113 (fX9_isSign 113 (41 : Int32)) (fun x5 => bCallV 9 113 (fX9_must 113 x5) (fun _ => bRet ())) t2 = some ((), w) → fX9_readOne_74 k9O k9E 113 (nI lev) (nI false.toNat) (nI true.toNat) x4 t = some ((), w) := fun w hw9 => by
      unfold fX9_readOne_74
      rw [g.1.gi g.2.2.2, e_if, if_pos (by decide), e_if, if_neg (by rw [li_6, eq_i (by omega) (by omega)]; omega)]
      unfold fX9_readOne_97
      rw [g.1.gi g.2.2.2, e_if, if_pos (by decide), g.1.cv, x_call f1, e_if, if_pos (by decide), e_if, if_neg (by decide), r1.1.cv, nI_succ1, x_call o2]
      exact hw9
    have h1 : ∀ o, bIf (r = 0) (bRetZ (0 : Int32)) (bGR 1 111 0 (fun x5 => bCallV 4 x5 (fX4_takeSign x5 (41 : Int32)) (fun x6 => bIf (x6 = 0) (bRetZ (0 : Int32)) (bRetZ (1 : Int32))))) v2 = o → fX1_readOne_69 k1E k1O 111 (nI lev) mI (nI false.toNat) v = o := fun o hr => by
      unfold fX1_readOne_69
      rw [e_if, if_pos (by rw [li_6, lt_i (by omega) (by omega)]; omega), xGR hS1.k111 hS1.p111, e_callV hS1.k106, x_call e1, e_if, if_pos (show mI = (-1 : Int32) from rfl), e_if, if_pos (by decide), e_callV hSv1.k111, nI_succ1, x_call o1]
      exact hr
    obtain ⟨o4, o5⟩ := o3
    have F0 := (KFL.f p1 q1).tr o4
    rcases o5 with ⟨s0, new, a', m', s1, s2, s3, s4, s5, s6, s7, s8, s9⟩ | ⟨s0, je, j, s1, s2⟩
    · have hl : (lAll L ++ (cur ++ new)).length = (lAll L ++ cur).length + new.length := by rw [← List.append_assoc, List.length_append]
      obtain ⟨d1, d2⟩ := j_bd (b := a') (cur := cur ++ new) hL s7 (by omega) s1.2.2.1 hN
      obtain ⟨v3, t3, y1, y2, y3, y4⟩ := j_sign s1 s2 (c := 41) (by decide) (b := sq C N a' 41) rfl
      have h9' : fX9_readOne_74 k9O k9E 113 (nI lev) (nI false.toNat) (nI true.toNat) x4 t = some ((), t3) := h9 _ (by
        rw [s2.1.cv, li_41, x_call (x_isSign s2.1.1 41), s2.sbq2 (by decide), s2.1.cv, x_call y1]
        rfl)
      have hn := nx_ge C N a'
      subst s0
      rcases y4 with ⟨z1, z2, z3⟩ | ⟨z1, z2⟩
      · refine ⟨v3, t3, nI 1, h1 _ ?_, h9', F0.tr (KFL.f y2 y3), Or.inl ⟨rfl, new, nx C N a', m', z2, z3, s3.f y2 y3, s4, s5, s6, s7, by omega, by omega⟩⟩
        rw [e_if, if_neg (by decide), xGR hSv2.k111 hSv2.p111, e_callV hSv2.k106, li_41, x_call z1, e_if, if_neg (by decide)]
        rfl
      · refine ⟨v3, t3, nI 0, h1 _ ?_, h9', F0.tr (KFL.f y2 y3), Or.inr ⟨rfl, z2, (lEnc L ++ (cur ++ new).map lCode).length, by omega, by rw [y2.1.1 111 (by decide)]; exact s3.1.2.2.1⟩⟩
        rw [e_if, if_neg (by decide), xGR hSv2.k111 hSv2.p111, e_callV hSv2.k106, li_41, x_call z1, e_if, if_pos (by decide)]
        rfl
    · subst s0
      refine ⟨v2, t2, nI 0, h1 _ ?_, h9 _ ?_, F0, Or.inr ⟨rfl, je, j, s1, s2⟩⟩
      · rw [e_if, if_pos (by decide)]
        rfl
      · rw [e_callV je.bd.1.k, li_41, x_call (x_isSign je.bd.1 41), e_callV je.bd.1.k, x_call (x_mustE je.bd _)]
        rfl
theorem j_one (hlev : lev ≤ 6) (IH : lev < 6 → JK (lev + 1) k1E k9E ∧ JK (lev + 1) k1O k9O) : JK lev (fX1_readOne k1E k1O) (fX9_readOne k9O k9E) := by
  intro v t C N a m L cur h g hJ hL hm hS hN
  have hS1 := h.1.1
  have hT := g.1.1
  obtain ⟨b1, b2⟩ := j_bd hL hm hS h.2.2.1 hN
  obtain ⟨F, hF⟩ : ∃ F, F = fq (fun k => wq C N a (5 + k)) 0 8 := ⟨_, rfl⟩
  have hfc : fX1_factHere 111 v = some (oI F, v) := by rw [hF]; exact c_factHere h
  have hfr : fX9_caseWord 113 t = some (oI F, t) := by
    rw [x_caseWord hT, fq_c (Q := fun k => wq C N a (5 + k)) 8 0 (fun m _ h2 => g.wbq (by omega) (by omega)), ← hF]
  have hxn : fX9_isNot 113 t = some (nI (wq C N a 4).toNat, t) := by rw [x_isNot hT, g.wbq (by decide) (by decide)]
  have hxs : fX9_isSign 113 (40 : Int32) t = some (nI (sq C N a 40).toNat, t) := by rw [li_40, x_isSign hT 40, g.sbq2 (by decide)]
  cases hFo : F with
  | some k =>
    rw [hFo] at hfc hfr
    rw [oI_s] at hfc hfr
    obtain ⟨-, w1, w2⟩ := fq_lt _ _ _ _ (hF.symm.trans hFo)
    have hk : k < 8 := by omega
    have hw : wq C N a (5 + k) = true := w2
    have n4 := wq_not hk hw
    have n40 : sq C N a 40 = false := wq_sq hw
    have hk1 : ¬ nI k = (-1 : Int32) := by
      show ¬ nI k = mI
      rw [m1_i (by omega)]
      exact id
    have hk0 : (0 : Int32) ≤ nI k := by rw [li_0, le_i (by omega) (by omega)]; omega
    have hkn : ¬ nI k < 0 := by rw [li_0, lt_i (by omega) (by omega)]; omega
    have c1 : fX1_readOne k1E k1O 111 (nI lev) v = fX1_readOne_45 k1E k1O 111 (nI lev) (nI k) (nI (wq C N a 4).toNat) v := by
      unfold fX1_readOne
      rw [e_callV hS1.k111, x_call hfc, xGR hS1.k111 hS1.p111, e_callV hS1.k106, x_call (c_isWord h (z := 4) (by decide)), e_if, if_neg hk1]
    have r1 : fX9_readOne k9O k9E 113 (nI lev) t = fX9_readOne_43 k9O k9E 113 (nI lev) (nI false.toNat) (nI false.toNat) (nI k) t := by
      unfold fX9_readOne
      rw [g.1.gi g.2.2.2, e_if, if_pos (by decide), g.1.cv, x_call hxn, g.1.cv, x_call hxs, g.1.cv, x_call hfr, n4, n40, e_if, if_pos (by decide), e_if, if_pos (by decide), e_if, if_pos hk0]
    by_cases h24 : m < 24
    · obtain ⟨v', t', r, o1, o2, o3⟩ := j_o69A (k1E := k1E) (k1O := k1O) (k9O := k9O) (k9E := k9E) h g hJ hL h24 hS hN hlev hk hw (nI (wq C N a 4).toNat)
      refine ⟨v', t', r, ?_, ?_, o3⟩
      · rw [c1]
        unfold fX1_readOne_45
        rw [e_if, if_neg hk1, xGIe hS1.k111 hJ.1.2.1, e_if, if_pos (by rw [li_24, lt_i (by omega) (by omega)]; omega)]
        exact o1
      · rw [r1]
        unfold fX9_readOne_43
        rw [g.1.gi g.2.2.2, e_if, if_pos (by decide), e_if, if_neg hkn, g.1.gi hJ.2.2.2.1, e_if, if_neg (by rw [li_24, eq_i (by omega) (by omega)]; omega)]
        exact o2
    · obtain ⟨v', t', e1, e2, e3, e4, je⟩ := j_fail h g (w := 6) (by decide) (by decide) (wq_k4 hw)
      refine ⟨v', t', nI 0, ?_, ?_, JO.bad hJ (by omega) e3 e4 je⟩
      · rw [c1]
        unfold fX1_readOne_45
        rw [e_if, if_neg hk1, xGIe hS1.k111 hJ.1.2.1, e_if, if_neg (by rw [li_24, lt_i (by omega) (by omega)]; omega), xGR hS1.k111 hS1.p111, e_callV hS1.k106, li_6, x_call e1]
        rfl
      · rw [r1]
        unfold fX9_readOne_43
        rw [g.1.gi g.2.2.2, e_if, if_pos (by decide), e_if, if_neg hkn, g.1.gi hJ.2.2.2.1, e_if, if_pos (by rw [li_24, eq_i (by omega) (by omega)]; omega), g.1.gi g.2.1.1, g.1.cv, li_6, x_call e2, x_o74E je.bd]
  | none =>
    rw [hFo] at hfc hfr
    rw [oI_n] at hfc hfr
    have hm0 : mI < (0 : Int32) := by decide
    have hm1 : ¬ (0 : Int32) ≤ mI := by decide
    have c0 : fX1_readOne k1E k1O 111 (nI lev) v = (bIf (nI (wq C N a 4).toNat = 0) (bGR 1 111 0 (fun x4 => bCallV 4 x4 (fX4_isSign x4 (40 : Int32)) (fun x5 => bIf (x5 = 0) (bGR 1 111 0 (fun x6 => bCallV 4 x6 (fX4_refuseToken x6 (2 : Int32)) (fun x7 => bRetZ x7))) (fX1_readOne_45 k1E k1O 111 (nI lev) mI (nI (wq C N a 4).toNat))))) (fX1_readOne_45 k1E k1O 111 (nI lev) mI (nI (wq C N a 4).toNat))) v := by
      unfold fX1_readOne
      rw [e_callV hS1.k111, x_call hfc, xGR hS1.k111 hS1.p111, e_callV hS1.k106, x_call (c_isWord h (z := 4) (by decide)), e_if, if_pos (show mI = (-1 : Int32) from rfl)]
    have c45 : fX1_readOne_45 k1E k1O 111 (nI lev) mI (nI (wq C N a 4).toNat) v = fX1_readOne_69 k1E k1O 111 (nI lev) mI (nI (wq C N a 4).toNat) v := by
      unfold fX1_readOne_45
      rw [e_if, if_pos (show mI = (-1 : Int32) from rfl)]
    have r43 : ∀ p q, fX9_readOne_43 k9O k9E 113 (nI lev) p q mI t = fX9_readOne_74 k9O k9E 113 (nI lev) p q mI t := fun p q => by
      unfold fX9_readOne_43
      rw [g.1.gi g.2.2.2, e_if, if_pos (by decide), e_if, if_pos hm0]
    cases q4 : wq C N a 4 with
    | true =>
      rw [q4] at c0 c45 hxn
      obtain ⟨v', t', r, o1, o2, o3⟩ := j_o69B (k1E := k1E) (k1O := k1O) (k9O := k9O) (k9E := k9E) h g hJ hL hm hS hN hlev (fun hl => (IH hl).2) q4 (nI (sq C N a 40).toNat) mI
      refine ⟨v', t', r, ?_, ?_, o3⟩
      · rw [c0, e_if, if_neg (by decide), c45]
        exact o1
      · unfold fX9_readOne
        rw [g.1.gi g.2.2.2, e_if, if_pos (by decide), g.1.cv, x_call hxn, g.1.cv, x_call hxs, g.1.cv, x_call hfr, e_if, if_neg (by decide), r43]
        exact o2
    | false =>
      rw [q4] at c0 c45 hxn
      rw [e_if, if_pos (by decide), xGR hS1.k111 hS1.p111, e_callV hS1.k106, li_40, x_call (c_isSign h (c := 40) (by decide)), e_if] at c0
      cases q5 : sq C N a 40 with
      | true =>
        rw [q5] at c0 hxs
        obtain ⟨v', t', r, o1, o2, o3⟩ := j_o69C (k1E := k1E) (k1O := k1O) (k9O := k9O) (k9E := k9E) h g hJ hL hm hS hN hlev (fun hl => (IH hl).1) q5 mI
        refine ⟨v', t', r, ?_, ?_, o3⟩
        · rw [c0, if_neg (by decide), c45]
          exact o1
        · unfold fX9_readOne
          rw [g.1.gi g.2.2.2, e_if, if_pos (by decide), g.1.cv, x_call hxn, g.1.cv, x_call hxs, g.1.cv, x_call hfr, e_if, if_pos (by decide), e_if, if_neg (by decide), r43]
          exact o2
      | false =>
        rw [q5] at c0 hxs
        obtain ⟨v', t', e1, e2, e3, e4, je⟩ := j_wrong h g
        refine ⟨v', t', nI 0, ?_, ?_, JO.bad hJ (by omega) e3 e4 je⟩
        · rw [c0, if_pos (by decide), xGR hS1.k111 hS1.p111, e_callV hS1.k106, li_2, x_call e1]
          rfl
        · unfold fX9_readOne
          rw [g.1.gi g.2.2.2, e_if, if_pos (by decide), g.1.cv, x_call hxn, g.1.cv, x_call hxs, g.1.cv, x_call hfr, e_if, if_pos (by decide), e_if, if_pos (by decide), e_if, if_neg hm1, g.1.cv, x_call e2, x_o43E je.bd]
end LONE8

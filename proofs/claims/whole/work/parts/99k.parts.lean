/-! A PART OF THE TEXT, BOTH READERS -/
def xPart (r40 : Nat → mM Int32) : mM Int32 := bCallV 9 113 (fX9_isWater 113) (fun x3 => bIf (x3 = 0) (bCallV 9 113 (fX9_isPersonWord 113) (fun x4 => bIf (x4 = 0) (bCallV 9 113 (fX9_isRopeWord 113) (fun x5 => bIf (x5 = 0) (bCallV 9 113 (fX9_isFlood 113) (fun x6 => bIf (x6 = 0) (bCallV 9 113 (fX9_wrong 113) (fun _ => fX9_well_114 r40 113)) (bCallV 9 113 (fX9_readFlood 113) (fun _ => fX9_well_114 r40 113)))) (bCallV 9 113 (fX9_readRope 113) (fun _ => fX9_well_114 r40 113)))) (bCallV 9 113 (fX9_readPerson 113) (fun _ => fX9_well_114 r40 113)))) (bCallV 9 113 (fX9_readWater 113) (fun _ => fX9_well_114 r40 113)))
section PART2
variable {v t : mS} {C : Nat → Nat} {N a n nr : Nat} {nt : tN} {W : wW} {wt : Bool}
theorem JRes.ec {fc fc' : mM Int32} {fr fr' : mM Int32} {r40 : Nat → mM Int32} (h : JRes v t C N a fc fr r40) (ec : fc' v = bCall fc (fun x => bRetZ x) v) (er : fr' t = fr t) : JRes v t C N a fc' fr' r40 := by
  obtain ⟨v', t', h1, h2, h3⟩ := h
  refine ⟨v', t', h1, er.trans h2, ?_⟩
  rcases h3 with ⟨W', n', nr', nt', wt', a', q1, q2⟩ | ⟨q1, q2⟩
  · exact Or.inl ⟨W', n', nr', nt', wt', a', by rw [ec, x_call q1]; rfl, q2⟩
  · exact Or.inr ⟨by rw [ec, x_call q1]; rfl, q2⟩
theorem x_p25E (h : BD t) (l : Int32) : fX9_readPerson_25 113 l t = some ((), t) := by
  unfold fX9_readPerson_25
  rw [xGI h.1.k, e_if, if_neg h.ne.1]
  rfl
theorem x_r21E (h : BD t) (l : Int32) : fX9_readRope_21 113 l t = some ((), t) := by
  unfold fX9_readRope_21
  rw [xGI h.1.k, e_if, if_neg h.ne.1]
  rfl
theorem x_f24E (h : BD t) (l : Int32) : fX9_readFlood_24 113 l t = some ((), t) := by
  unfold fX9_readFlood_24
  rw [xGI h.1.k, e_if, if_neg h.ne.1]
  rfl
theorem x_w16E (h : BD t) : fX9_readWater_16 113 t = some ((), t) := by
  unfold fX9_readWater_16
  rw [xGI h.1.k, e_if, if_neg h.ne.1]
  rfl
/-- both refuse the part -/
theorem j_ref {w : Nat} {fc fr : mM Int32} {fu0 : mM Unit} {r40 : Nat → mM Int32} (h : CG v C N a) (g : RG t C N a) (h1 : 1 ≤ w) (h7 : w ≤ 7) (hk : kd C N a ≠ 4) (ec : fc v = bCall (fX4_refuseToken 106 (nI w)) (fun x => bRetZ x) v) (er : ∀ t', BD t' → fX9_fail 113 (nI w) (nI a) t = some ((), t') → fu0 t = some ((), t')) (ef : fr t = bCallV 9 113 fu0 (fun _ => fX9_well_114 r40 113) t) : JRes v t C N a fc fr r40 := by
  obtain ⟨v', t', e1, e2, e3, e4, je⟩ := j_fail h g h1 h7 hk
  refine ⟨v', t', ⟨e3.fi, e4.fw⟩, ?_, Or.inr ⟨by rw [ec, x_call e1]; rfl, je⟩⟩
  rw [ef, g.1.cv, x_call (er t' je.bd e2), x_114E je.bd]
theorem j_part (h : CG v C N a) (g : RG t C N a) (hlt : a < N) (hJ : JW v t C W n nr nt wt) (hI : JI C N W n nr nt) (r40 : Nat → mM Int32) : JRes v t C N a (fX6_readPart 107) (xPart r40) r40 := by
  have hJ0 := hJ
  obtain ⟨⟨a1, a2, a3, a4, a5, a6⟩, b1, b2, b3, b4, b5⟩ := hJ
  have hS := h.1.1
  have hT := g.1.1
  have hw8 : wPe W ≤ 8 := hI.1.2.1
  have hnr : nr ≤ 6 := hI.1.2.2.1
  have hf4 : wFl W ≤ 4 := b1.2.2.2.2.2.2.2.2.2.2.2.2.1.2.2.2.2.2.2.2.2.2.2.1
  have h7 : sI v 48 7 = nI (wPe W) := a2.2.2.2.2.2.2.2.1
  have h47 : sI t 118 3447 = nI (wPe W) := b1.2.2.2.2.2.2.2.1
  have h11 : sI v 48 11 = nI (wFl W) := a2.2.2.2.2.2.2.2.2.1
  have h48 : sI t 118 3448 = nI (wFl W) := b1.2.2.2.2.2.2.2.2.1
  have hkd : ∀ z, wq C N a z = true → kd C N a ≠ 4 := fun z hq => by rw [(wq_iff.mp hq).1]; decide
  cases q19 : wq C N a 19 with
  | true =>
    have ef : xPart r40 t = (bCallV 9 113 (fX9_readWater 113) (fun _ => fX9_well_114 r40 113)) t := by
      unfold xPart
      rw [g.1.cv, x_call (x_isWater hT), g.wbq (by decide) (by decide), q19, e_if, if_neg (by decide)]
    cases wt with
    | false =>
      refine (j_water h g hlt hJ0 hI r40).ec ?_ ef
      unfold fX6_readPart
      rw [w_tk hS, e_callV hS.k106, x_call (c_isWord h (by decide)), q19, e_if, if_neg (by decide), xGIe hS.k107 a5, e_if, if_pos (by decide), e_callV hS.k107]
    | true =>
      refine j_ref (w := 5) (fu0 := fX9_readWater 113) h g (by decide) (by decide) (hkd 19 q19) ?_ (fun t' hb e => ?_) ef
      · unfold fX6_readPart
        rw [w_tk hS, e_callV hS.k106, x_call (c_isWord h (by decide)), q19, e_if, if_neg (by decide), xGIe hS.k107 a5, e_if, if_neg (by decide), w_tk hS, e_callV hS.k106, li_5]
      · unfold fX9_readWater
        rw [xGIe hT.k b3, e_if, if_neg (by decide), g.1.gi g.2.1.1, g.1.cv, li_5, x_call e, x_w16E hb]
  | false =>
    cases q20 : wq C N a 20 with
    | true =>
      have ef : xPart r40 t = (bCallV 9 113 (fX9_readPerson 113) (fun _ => fX9_well_114 r40 113)) t := by
        unfold xPart
        rw [g.1.cv, x_call (x_isWater hT), g.wbq (by decide) (by decide), q19, e_if, if_pos (by decide), g.1.cv, x_call (x_isPersonWord hT), g.wbq (by decide) (by decide), q20, e_if, if_neg (by decide)]
      by_cases hp : wPe W < 8
      · refine (j_personPart h g hlt hJ0 hI hp r40).ec ?_ ef
        unfold fX6_readPart
        rw [w_tk hS, e_callV hS.k106, x_call (c_isWord h (by decide)), q19, e_if, if_pos (by decide), w_tk hS, e_callV hS.k106, x_call (c_isWord h (by decide)), q20, e_if, if_neg (by decide), w_th hS, xGIe (show (sH v 48).1 = 7 from a1.1) h7, e_if, if_pos (by rw [li_8, lt_i (by omega) (by omega)]; omega), e_callV hS.k107]
      · refine j_ref (w := 6) (fu0 := fX9_readPerson 113) h g (by decide) (by decide) (hkd 20 q20) ?_ (fun t' hb e => ?_) ef
        · unfold fX6_readPart
          rw [w_tk hS, e_callV hS.k106, x_call (c_isWord h (by decide)), q19, e_if, if_pos (by decide), w_tk hS, e_callV hS.k106, x_call (c_isWord h (by decide)), q20, e_if, if_neg (by decide), w_th hS, xGIe (show (sH v 48).1 = 7 from a1.1) h7, e_if, if_neg (by rw [li_8, lt_i (by omega) (by omega)]; omega), w_tk hS, e_callV hS.k106, li_6]
        · unfold fX9_readPerson
          rw [rt_c hT, li_3447, rt_n hT (by decide), h47, e_if, if_pos (by rw [li_8, eq_i (by omega) (by omega)]; omega), g.1.gi g.2.1.1, g.1.cv, li_6, x_call e, x_p25E hb]
    | false =>
      cases q21 : wq C N a 21 with
      | true =>
        have ef : xPart r40 t = (bCallV 9 113 (fX9_readRope 113) (fun _ => fX9_well_114 r40 113)) t := by
          unfold xPart
          rw [g.1.cv, x_call (x_isWater hT), g.wbq (by decide) (by decide), q19, e_if, if_pos (by decide), g.1.cv, x_call (x_isPersonWord hT), g.wbq (by decide) (by decide), q20, e_if, if_pos (by decide), g.1.cv, x_call (x_isRopeWord hT), g.wbq (by decide) (by decide), q21, e_if, if_neg (by decide)]
        by_cases hp : nr < 6
        · refine (j_ropePart h g hlt hJ0 hI hp r40).ec ?_ ef
          unfold fX6_readPart
          rw [w_tk hS, e_callV hS.k106, x_call (c_isWord h (by decide)), q19, e_if, if_pos (by decide), w_tk hS, e_callV hS.k106, x_call (c_isWord h (by decide)), q20, e_if, if_pos (by decide), w_tk hS, e_callV hS.k106, x_call (c_isWord h (by decide)), q21, e_if, if_neg (by decide), xGIe hS.k107 a6, e_if, if_pos (by rw [li_6, lt_i (by omega) (by omega)]; omega), e_callV hS.k107]
        · refine j_ref (w := 6) (fu0 := fX9_readRope 113) h g (by decide) (by decide) (hkd 21 q21) ?_ (fun t' hb e => ?_) ef
          · unfold fX6_readPart
            rw [w_tk hS, e_callV hS.k106, x_call (c_isWord h (by decide)), q19, e_if, if_pos (by decide), w_tk hS, e_callV hS.k106, x_call (c_isWord h (by decide)), q20, e_if, if_pos (by decide), w_tk hS, e_callV hS.k106, x_call (c_isWord h (by decide)), q21, e_if, if_neg (by decide), xGIe hS.k107 a6, e_if, if_neg (by rw [li_6, lt_i (by omega) (by omega)]; omega), w_tk hS, e_callV hS.k106, li_6]
          · unfold fX9_readRope
            rw [xGIe hT.k b4, e_if, if_pos (by rw [li_6, eq_i (by omega) (by omega)]; omega), g.1.gi g.2.1.1, g.1.cv, li_6, x_call e, x_r21E hb]
      | false =>
        cases q22 : wq C N a 22 with
        | true =>
          have ef : xPart r40 t = (bCallV 9 113 (fX9_readFlood 113) (fun _ => fX9_well_114 r40 113)) t := by
            unfold xPart
            rw [g.1.cv, x_call (x_isWater hT), g.wbq (by decide) (by decide), q19, e_if, if_pos (by decide), g.1.cv, x_call (x_isPersonWord hT), g.wbq (by decide) (by decide), q20, e_if, if_pos (by decide), g.1.cv, x_call (x_isRopeWord hT), g.wbq (by decide) (by decide), q21, e_if, if_pos (by decide), g.1.cv, x_call (x_isFlood hT), g.wbq (by decide) (by decide), q22, e_if, if_neg (by decide)]
          by_cases hp : wFl W < 4
          · refine (j_floodPart h g hlt hJ0 hI hp r40).ec ?_ ef
            unfold fX6_readPart
            rw [w_tk hS, e_callV hS.k106, x_call (c_isWord h (by decide)), q19, e_if, if_pos (by decide), w_tk hS, e_callV hS.k106, x_call (c_isWord h (by decide)), q20, e_if, if_pos (by decide), w_tk hS, e_callV hS.k106, x_call (c_isWord h (by decide)), q21, e_if, if_pos (by decide), w_tk hS, e_callV hS.k106, x_call (c_isWord h (by decide)), q22, e_if, if_neg (by decide), w_th hS, xGIe (show (sH v 48).1 = 7 from a1.1) h11, e_if, if_pos (by rw [li_4, lt_i (by omega) (by omega)]; omega), e_callV hS.k107]
          · refine j_ref (w := 6) (fu0 := fX9_readFlood 113) h g (by decide) (by decide) (hkd 22 q22) ?_ (fun t' hb e => ?_) ef
            · unfold fX6_readPart
              rw [w_tk hS, e_callV hS.k106, x_call (c_isWord h (by decide)), q19, e_if, if_pos (by decide), w_tk hS, e_callV hS.k106, x_call (c_isWord h (by decide)), q20, e_if, if_pos (by decide), w_tk hS, e_callV hS.k106, x_call (c_isWord h (by decide)), q21, e_if, if_pos (by decide), w_tk hS, e_callV hS.k106, x_call (c_isWord h (by decide)), q22, e_if, if_neg (by decide), w_th hS, xGIe (show (sH v 48).1 = 7 from a1.1) h11, e_if, if_neg (by rw [li_4, lt_i (by omega) (by omega)]; omega), w_tk hS, e_callV hS.k106, li_6]
            · unfold fX9_readFlood
              rw [rt_c hT, li_3448, rt_n hT (by decide), h48, e_if, if_pos (by rw [li_4, eq_i (by omega) (by omega)]; omega), g.1.gi g.2.1.1, g.1.cv, li_6, x_call e, x_f24E hb]
        | false =>
          obtain ⟨v', t', e1, e2, e3, e4, je⟩ := j_wrong h g
          refine ⟨v', t', ⟨e3.fi, e4.fw⟩, ?_, Or.inr ⟨?_, je⟩⟩
          · unfold xPart
            rw [g.1.cv, x_call (x_isWater hT), g.wbq (by decide) (by decide), q19, e_if, if_pos (by decide), g.1.cv, x_call (x_isPersonWord hT), g.wbq (by decide) (by decide), q20, e_if, if_pos (by decide), g.1.cv, x_call (x_isRopeWord hT), g.wbq (by decide) (by decide), q21, e_if, if_pos (by decide), g.1.cv, x_call (x_isFlood hT), g.wbq (by decide) (by decide), q22, e_if, if_pos (by decide), g.1.cv, x_call e2, x_114E je.bd]
          · unfold fX6_readPart
            rw [w_tk hS, e_callV hS.k106, x_call (c_isWord h (by decide)), q19, e_if, if_pos (by decide), w_tk hS, e_callV hS.k106, x_call (c_isWord h (by decide)), q20, e_if, if_pos (by decide), w_tk hS, e_callV hS.k106, x_call (c_isWord h (by decide)), q21, e_if, if_pos (by decide), w_tk hS, e_callV hS.k106, x_call (c_isWord h (by decide)), q22, e_if, if_pos (by decide), w_tk hS, e_callV hS.k106, li_2, x_call e1]
            rfl
/-- the parts, one after another -/
theorem j_loop (hN9 : N ≤ 900) : ∀ (m n1 n2 c : Nat) (v t : mS) (a : Nat) (W : wW) (n nr : Nat) (nt : tN) (wt : Bool), N - a ≤ m → m < n1 → m < n2 → c ≤ a → CG v C N a → RG t C N a → JW v t C W n nr nt wt → JI C N W n nr nt → ∃ v' t', KF v v' t t' ∧ fX9_well_40 n2 113 t = fX9_well_127 113 t' ∧ ((∃ W' n' nr' nt' wt', fX6_readWell_34 n1 107 (nI 1) (nI c) v = some (nI 1, v') ∧ CG v' C N N ∧ RG t' C N N ∧ JW v' t' C W' n' nr' nt' wt' ∧ JI C N W' n' nr' nt') ∨ (fX6_readWell_34 n1 107 (nI 1) (nI c) v = some (nI 0, v') ∧ JE v' t')) := by
  intro m
  induction m with
  | zero =>
    intro n1 n2 c v t a W n nr nt wt hm hn1 hn2 hca h g hJ hI
    obtain ⟨n1, rfl⟩ : ∃ k, n1 = k + 1 := ⟨n1 - 1, by omega⟩
    obtain ⟨n2, rfl⟩ : ∃ k, n2 = k + 1 := ⟨n2 - 1, by omega⟩
    have haN : a ≤ N := h.2.2.1
    have haN : a = N := by omega
    subst haN
    have hS := h.1.1
    have hk0 : kd C a a = 0 := by
      unfold kd
      rw [if_pos (Nat.le_refl _)]
    refine ⟨v, t, ⟨⟨fun _ _ => rfl, rfl⟩, FW.rf⟩, ?_, Or.inl ⟨W, n, nr, nt, wt, ?_, h, g, hJ, hI⟩⟩
    · rw [qX9_well_40, g.1.gi g.2.2.2, e_if, if_pos (by decide), g.1.gi g.2.1.2.1, hk0, e_if, if_pos (by decide)]
    · rw [qX6_readWell_34, e_if]
      by_cases hc : (900 : Int32) ≤ nI c
      · rw [if_pos hc]; rfl
      · rw [if_neg hc, e_if, if_neg (by decide), w_tk hS, xGIe hS.k106 h.2.1.2.1, hk0, e_if, if_pos (by decide)]
        rfl
  | succ m ih =>
    intro n1 n2 c v t a W n nr nt wt hm hn1 hn2 hca h g hJ hI
    rcases Nat.lt_or_ge m (N - a) with hlt | hge
    · obtain ⟨n1, rfl⟩ : ∃ k, n1 = k + 1 := ⟨n1 - 1, by omega⟩
      obtain ⟨n2, rfl⟩ : ∃ k, n2 = k + 1 := ⟨n2 - 1, by omega⟩
      have hS := h.1.1
      have hk0 : kd C N a ≠ 0 := fun h0 => by have := kd_0 h0; omega
      have hk5 := kd_5 C N a
      obtain ⟨v1, t1, k1, k2, k3⟩ := j_part h g (by omega) hJ hI (fX9_well_40 n2)
      have hr : fX9_well_40 (n2 + 1) 113 t = fX9_well_40 n2 113 t1 := by
        rw [qX9_well_40, g.1.gi g.2.2.2, e_if, if_pos (by decide), g.1.gi g.2.1.2.1, e_if, if_neg (by rw [li_0, eq_i (by omega) (by omega)]; exact hk0)]
        exact k2
      have hc : fX6_readWell_34 (n1 + 1) 107 (nI 1) (nI c) v = bCall (fX6_readPart 107) (fun x3 => fX6_readWell_34 n1 107 x3 (nI (c + 1))) v := by
        rw [qX6_readWell_34, e_if, if_neg (by rw [li_900, le_i (by omega) (by omega)]; omega), e_if, if_neg (by decide), w_tk hS, xGIe hS.k106 h.2.1.2.1, e_if, if_neg (by rw [li_0, eq_i (by omega) (by omega)]; exact hk0), e_callV hS.k107, nI_succ1]
      rcases k3 with ⟨W', n', nr', nt', wt', a', q1, q2, q3, q4, q5, q6⟩ | ⟨q1, je⟩
      · obtain ⟨v2, t2, l1, l2, l3⟩ := ih n1 n2 (c + 1) v1 t1 a' W' n' nr' nt' wt' (by omega) (by omega) (by omega) (by omega) q2 q3 q4 q5
        refine ⟨v2, t2, ⟨k1.1.tr l1.1, k1.2.tr l1.2⟩, hr.trans l2, ?_⟩
        rw [hc, x_call q1]
        exact l3
      · refine ⟨v1, t1, k1, ?_, Or.inr ⟨?_, je⟩⟩
        · obtain ⟨n2, rfl⟩ : ∃ k, n2 = k + 1 := ⟨n2 - 1, by omega⟩
          rw [hr, qX9_well_40, xGI je.bd.1.k, e_if, if_neg je.bd.ne.2]
        · obtain ⟨n1, rfl⟩ : ∃ k, n1 = k + 1 := ⟨n1 - 1, by omega⟩
          rw [hc, x_call q1, qX6_readWell_34, e_if]
          by_cases hc9 : (900 : Int32) ≤ nI (c + 1)
          · rw [if_pos hc9]; rfl
          · rw [if_neg hc9, e_if, if_pos (by decide)]; rfl
    · exact ih n1 n2 c v t a W n nr nt wt hge (by omega) (by omega) hca h g hJ hI
end PART2

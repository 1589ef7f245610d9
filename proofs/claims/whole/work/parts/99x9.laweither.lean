/-! PARTS JOINED BY and AND or, both readers -/
def xW (k9O : Nat → Int32 → mM Unit) (lev : Nat) : Bool → Nat → mM Unit
  | true, n3 => bCallV 9 113 (fX9_ruleStep 113 (10 : Int32) (0 : Int32) (0 : Int32)) (fun _ => fX9_readEither_5 (fX9_readBoth k9O) n3 113 (nI lev))
  | false, n3 => fX9_readEither_5 (fX9_readBoth k9O) n3 113 (nI lev)
def xT (k9O : Nat → Int32 → mM Unit) (lev : Nat) (ow : Bool) (n2 n3 : Nat) : mM Unit := bCall (fX9_readBoth_5 k9O n2 113 (nI lev)) (fun _ => xW k9O lev ow n3)
/-- between two parts: ow = an or waits; X and Y what was added for the two sides of it (X empty where none waits) -/
def JS (v t : mS) (C : Nat → Nat) (N : Nat) (L : List (List qS3 × Nat)) (cur : List qS3) (m0 a0 : Nat) (ow : Bool) (X Y : List qS3) (e1 e2 a m : Nat) : Prop := CG v C N a ∧ RG t C N a ∧ JL v t L (cur ++ (X ++ Y)) m ∧ (ow = true → sPu e1 X ∧ 1 ≤ e1) ∧ (ow = false → X = [] ∧ e1 = 0) ∧ sPu e2 Y ∧ 1 ≤ e2 ∧ m = m0 + (e1 + e2) ∧ m ≤ 24 ∧ (∀ x ∈ X ++ Y, sOk x) ∧ a0 ≤ a ∧ 3 * (X ++ Y).length + a0 + m0 + 1 + 3 * ow.toNat ≤ a + m
section LEIT
variable {v t : mS} {C : Nat → Nat} {N a m m0 a0 e1 e2 lev : Nat} {L : List (List qS3 × Nat)} {cur X Y : List qS3} {ow : Bool} {k1O : Nat → Int32 → mM Int32} {k9O : Nat → Int32 → mM Unit}
theorem bcall_eq {β α : Type} {F G : mM β} {k : β → mM α} {s s' : mS} (h : F s = G s') : bCall F k s = bCall G k s' := by
  rw [e_call, e_call, h]
theorem x_wE (h : BD t) (ow : Bool) (n3 : Nat) : xW k9O lev ow (n3 + 1) t = some ((), t) := by
  cases ow with
  | false => exact x_either5E h _ n3 _
  | true =>
    show bCallV 9 113 (fX9_ruleStep 113 (10 : Int32) (0 : Int32) (0 : Int32)) (fun _ => fX9_readEither_5 (fX9_readBoth k9O) (n3 + 1) 113 (nI lev)) t = _
    rw [e_callV h.1.k, x_call (x_stepE h _ _ _), x_either5E h]
theorem x_tE (h : BD t) (ow : Bool) (n2 n3 : Nat) : xT k9O lev ow (n2 + 1) (n3 + 1) t = some ((), t) := by
  unfold xT
  rw [x_call (x_both5E h _ n2 _), x_wE h]
theorem c_e11F (hS : CS v) {j : Nat} (h3 : sI v 111 3 = nI j) (hj : j ≤ 300) (n : Nat) (l1 l4 : Int32) (ow : Bool) : ∃ v' i, fX1_readEither_11 k1O (n + 1) 111 l1 (nI 0) (nI ow.toNat) l4 v = some (nI 0, v') ∧ FI a11 v v' ∧ sI v' 106 = sI v 106 ∧ i ≤ 300 ∧ sI v' 111 3 = nI i := by
  have hx : fX1_readEither_11 k1O (n + 1) 111 l1 (nI 0) (nI ow.toNat) l4 v = fX1_readEither_110 k1O 111 (nI 0) (nI ow.toNat) v := by
    rw [qX1_readEither_11, e_if]
    by_cases h : (300 : Int32) ≤ l4
    · rw [if_pos h]
    · rw [if_neg h, e_if, if_pos (by decide)]
  rw [hx]
  cases ow with
  | false =>
    refine ⟨v, j, ?_, ⟨fun _ _ => rfl, rfl⟩, rfl, hj, h3⟩
    unfold fX1_readEither_110
    rw [e_if, if_pos (by decide)]
    rfl
  | true =>
    have hst := c_step (s := v) (p := 3) (k := 0) (q := 0) (n := 0) (by decide) (by decide) (by decide) (by decide)
    obtain ⟨v', i, y1, y2, y3, y4, y5⟩ := c_keepF hS h3 hj (nI (3 + 0 * 16 + 0 * 256 + 0 * 65536))
    refine ⟨v', i, ?_, y2, y3, y4, y5⟩
    unfold fX1_readEither_110
    rw [e_if, if_neg (by decide), li_3, li_0, x_call hst, e_callV hS.k111, x_call y1]
    rfl
theorem JS.sz (h : JS v t C N L cur m0 a0 ow X Y e1 e2 a m) (hS : 3 * (lAll L ++ cur).length ≤ a0 + m0) : 3 * (lAll L ++ (cur ++ (X ++ Y))).length ≤ a + m := by
  obtain ⟨-, -, -, -, -, -, -, -, -, -, h1, h2⟩ := h
  have hl : (lAll L ++ (cur ++ (X ++ Y))).length = (lAll L ++ cur).length + (X ++ Y).length := by rw [← List.append_assoc, List.length_append]
  omega
/-- the or that waits is written, where one waits -/
theorem j_flush (h : JS v t C N L cur m0 a0 ow X Y e1 e2 a m) (hL : L.length ≤ 12) (hN : N ≤ 300) (hS : 3 * (lAll L ++ cur).length ≤ a0 + m0) : ∃ v1 t1 Z, (∀ P : mM Int32, bIf (nI ow.toNat = 0) P (bCall (fX0_step (3 : Int32) (0 : Int32) (0 : Int32) (0 : Int32)) (fun x5 => bCallV 1 111 (fX1_keepStep 111 x5) (fun _ => P))) v = P v1) ∧ (∀ n3, xW k9O lev ow n3 t = xW k9O lev false n3 t1) ∧ KFL v v1 t t1 ∧ CG v1 C N a ∧ RG t1 C N a ∧ JL v1 t1 L (cur ++ Z) m ∧ (∀ x ∈ Z, sOk x) ∧ sPu (e1 + e2) Z ∧ 3 * Z.length + a0 + m0 + 1 ≤ a + m := by
  have hs := h.sz hS
  obtain ⟨c, g, hJ, w1, w2, w3, w4, w5, w6, w7, w8, w9⟩ := h
  have hS1 := c.1.1
  obtain ⟨b1, b2⟩ := j_bd hL w6 hs c.2.2.1 hN
  cases ow with
  | false =>
    obtain ⟨x1, x2⟩ := w2 rfl
    subst x1
    subst x2
    refine ⟨v, t, Y, fun P => ?_, fun _ => rfl, KFL.rf, c, g, hJ, w7, ?_, ?_⟩
    · rw [e_if, if_pos (by decide)]
    · rw [Nat.zero_add]
      exact w3
    · exact w9
  | true =>
    obtain ⟨x1, x2⟩ := w1 rfl
    have hst := c_step (s := v) (p := 3) (k := 0) (q := 0) (n := 0) (by decide) (by decide) (by decide) (by decide)
    obtain ⟨y1, y2, y3, y4, y5, y6⟩ := j_keep c g hJ hL (by omega) (by omega) 10 0 0 (x := nI (3 + 0 * 16 + 0 * 256 + 0 * 65536)) (lC_2 (p := 3) (Or.inr (Or.inr rfl))).symm
    refine ⟨_, _, X ++ (Y ++ [(10, 0, 0)]), fun P => ?_, fun n3 => ?_, y3, y4, y5, ?_, ?_, sPu_two (by decide) x1 w3 x2, ?_⟩
    · rw [e_if, if_neg (by decide), li_3, li_0, x_call hst, e_callV hS1.k111, x_call y1]
    · show bCallV 9 113 (fX9_ruleStep 113 (10 : Int32) (0 : Int32) (0 : Int32)) (fun _ => fX9_readEither_5 (fX9_readBoth k9O) n3 113 (nI lev)) t = _
      rw [g.1.cv, li_10, li_0, x_call y2]
      rfl
    · rw [show cur ++ (X ++ (Y ++ [(10, 0, 0)])) = cur ++ (X ++ Y) ++ [(10, 0, 0)] by rw [List.append_assoc, List.append_assoc]]
      exact y6
    · intro x hx
      rw [← List.append_assoc, List.mem_append, List.mem_singleton] at hx
      rcases hx with hx | hx
      · exact w7 x hx
      · subst hx
        exact ⟨by show 10 ≤ 10; decide, by show 0 < 256; decide, by show 0 ≤ 999; decide⟩
    · rw [← List.append_assoc, List.length_append]
      have w9' : 3 * (X ++ Y).length + a0 + m0 + 1 + 3 * 1 ≤ a + m := w9
      show 3 * ((X ++ Y).length + 1) + a0 + m0 + 1 ≤ a + m
      omega
theorem j_loop11 (hK : JK lev k1O k9O) (hL : L.length ≤ 12) (hN : N ≤ 300) (hS : 3 * (lAll L ++ cur).length ≤ a0 + m0) : ∀ (n : Nat) (v t : mS) (X Y : List qS3) (e1 e2 a m : Nat) (ow : Bool) (k n2 n3 : Nat), JS v t C N L cur m0 a0 ow X Y e1 e2 a m → 2 * k ≤ a → N - a < n → N - a < n2 → N - a < n3 → ∃ v' t' r, fX1_readEither_11 k1O n 111 (nI lev) (nI 1) (nI ow.toNat) (nI k) v = some (r, v') ∧ xT k9O lev ow n2 n3 t = some ((), t') ∧ JO C N L v t v' t' cur m0 a0 r := by
  intro n
  induction n with
  | zero => intro v t X Y e1 e2 a m ow k n2 n3 _ _ h; omega
  | succ n ih =>
    intro v t X Y e1 e2 a m ow k n2 n3 h hk hn hn2 hn3
    have hs := h.sz hS
    have hfl := j_flush (k9O := k9O) (lev := lev) h hL hN hS
    have h' := h
    obtain ⟨c, g, hJ, w1, w2, w3, w4, w5, w6, w7, w8, w9⟩ := h'
    have hS1 := c.1.1
    have hT := g.1.1
    have haN := c.2.2.1
    obtain ⟨b1, b2⟩ := j_bd hL w6 hs haN hN
    obtain ⟨p2, rfl⟩ : ∃ p2, n2 = p2 + 1 := ⟨n2 - 1, by omega⟩
    obtain ⟨p3, rfl⟩ : ∃ p3, n3 = p3 + 1 := ⟨n3 - 1, by omega⟩
    have hand : fX9_isAnd 113 t = some (nI (wq C N a 2).toNat, t) := by rw [x_isAnd hT, g.wbq (by decide) (by decide)]
    have c0 := congrFun (qX1_readEither_11 k1O n 111 (nI lev) (nI 1) (nI ow.toNat) (nI k)) v
    rw [e_if, if_neg (by rw [li_300, le_i (by omega) (by omega)]; omega), e_if, if_neg (by decide), xGR hS1.k111 hS1.p111, e_callV hS1.k106, x_call (c_isWord c (z := 2) (by decide)), e_if] at c0
    have r0 := congrFun (qX9_readBoth_5 k9O p2 113 (nI lev)) t
    rw [g.1.gi g.2.2.2, e_if, if_pos (by decide), g.1.cv, x_call hand, e_if] at r0
    cases q2 : wq C N a 2 with
    | true =>
      rw [q2, if_neg (by decide)] at c0 r0
      have hx2 := wq_nx q2
      have hx3 : a + 3 ≤ nx C N a := by
        have : zl 2 = 3 := by decide
        omega
      have haN2 := nx_le C haN
      obtain ⟨v1, t1, e1', f1, p1, q1, c1, r1⟩ := j_next c g
      have J1 := hJ.f p1 q1
      have hSv1 := c1.1.1
      have hxx := hK v1 t1 C N (nx C N a) m L (cur ++ (X ++ Y)) c1 r1 J1 hL w6 (by omega) hN
      obtain ⟨v2, t2, r, o1, o2, o3⟩ := hxx
      have hSv2 : CS v2 := hSv1.fi o3.1.1
      have hst := c_step (s := v2) (p := 2) (k := 0) (q := 0) (n := 0) (by decide) (by decide) (by decide) (by decide)
      have h1 : ∀ w, fX1_keepStep 111 (nI (2 + 0 * 16 + 0 * 256 + 0 * 65536)) v2 = some ((), w) → fX1_readEither_11 k1O (n + 1) 111 (nI lev) (nI 1) (nI ow.toNat) (nI k) v = fX1_readEither_11 k1O n 111 (nI lev) r (nI ow.toNat) (nI (k + 1)) w := fun w hr => by
        rw [c0, xGR hS1.k111 hS1.p111, e_callV hS1.k106, x_call e1', e_callV hSv1.k111, x_call o1, li_2, li_0, x_call hst, e_callV hSv2.k111, x_call hr, nI_succ1]
      have h9 : fX9_readBoth_5 k9O (p2 + 1) 113 (nI lev) t = bCallV 9 113 (fX9_ruleStep 113 (9 : Int32) (0 : Int32) (0 : Int32)) (fun _ => fX9_readBoth_5 k9O p2 113 (nI lev)) t2 := by
        rw [r0, g.1.cv, x_call f1, r1.1.cv, x_call o2]
      obtain ⟨o4, o5⟩ := o3
      have F0 := (KFL.f p1 q1).tr o4
      rcases o5 with ⟨s0, Z, a', m', s1, s2, s3, s4, s5, s6, s7, s8, s9⟩ | ⟨s0, je, j, s1, s2⟩
      · subst s0
        have hl : (lAll L ++ (cur ++ (X ++ Y) ++ Z)).length = (lAll L ++ (cur ++ (X ++ Y))).length + Z.length := by rw [← List.append_assoc, List.length_append]
        obtain ⟨d1, d2⟩ := j_bd (b := a') (cur := cur ++ (X ++ Y) ++ Z) hL s7 (by omega) s1.2.2.1 hN
        obtain ⟨y1, y2, y3, y4, y5, y6⟩ := j_keep s1 s2 s3 hL (by omega) (by omega) 9 0 0 (x := nI (2 + 0 * 16 + 0 * 256 + 0 * 65536)) (lC_2 (p := 2) (Or.inr (Or.inl rfl))).symm
        have hll : (X ++ (Y ++ (Z ++ [((9 : Nat), (0 : Nat), (0 : Nat))]))).length = (X ++ Y).length + (Z.length + 1) := by
          simp only [List.length_append, List.length_cons, List.length_nil]
          omega
        have hJS : JS (stS v2 (lEnc L ++ (cur ++ (X ++ Y) ++ Z).map lCode).length (lCode (9, 0, 0))) (rsS t2 (lAll L ++ (cur ++ (X ++ Y) ++ Z)).length 9 0 0) C N L cur m0 a0 ow X (Y ++ (Z ++ [(9, 0, 0)])) e1 (e2 + (m' - m)) a' m' := by
          refine ⟨y4, y5, ?_, w1, w2, sPu_two (by decide) w3 s5 w4, by omega, by omega, s7, ?_, by omega, by omega⟩
          · rw [show cur ++ (X ++ (Y ++ (Z ++ [(9, 0, 0)]))) = cur ++ (X ++ Y) ++ Z ++ [(9, 0, 0)] by rw [List.append_assoc, List.append_assoc, List.append_assoc]]
            exact y6
          · intro x hx
            rw [← List.append_assoc, List.mem_append, List.mem_append (s := Z), List.mem_singleton] at hx
            rcases hx with hx | hx | hx
            · exact w7 x hx
            · exact s4 x hx
            · subst hx
              exact ⟨by show 9 ≤ 10; decide, by show 0 < 256; decide, by show 0 ≤ 999; decide⟩
        have haN3 := s1.2.2.1
        obtain ⟨v', t', r', z1, z2, z3⟩ := ih _ _ X _ e1 _ a' m' ow (k + 1) p2 (p3 + 1) hJS (by omega) (by omega) (by omega) (by omega)
        refine ⟨v', t', r', (h1 _ y1).trans z1, ?_, (F0.tr y3).tr z3.1, z3.2⟩
        rw [← z2]
        unfold xT
        refine bcall_eq ?_
        rw [h9, s2.1.cv, li_9, li_0, x_call y2]
      · subst s0
        obtain ⟨v3, i, y1, y2, y3, y4, y5⟩ := c_keepF hSv2 s2 s1 (nI (2 + 0 * 16 + 0 * 256 + 0 * 65536))
        obtain ⟨n', rfl⟩ : ∃ n', n = n' + 1 := ⟨n - 1, by omega⟩
        obtain ⟨p2', rfl⟩ : ∃ p2', p2 = p2' + 1 := ⟨p2 - 1, by omega⟩
        obtain ⟨v4, i2, z1, z2, z3, z4, z5⟩ := c_e11F (k1O := k1O) (hSv2.fi y2) y5 y4 n' (nI lev) (nI (k + 1)) ow
        refine ⟨v4, t2, nI 0, (h1 _ y1).trans z1, ?_, (F0.tr (KFL.cl y2)).tr (KFL.cl z2), Or.inr ⟨rfl, (je.mv2 y3).mv2 z3, i2, z4, z5⟩⟩
        have h9' : fX9_readBoth_5 k9O (p2' + 1 + 1) 113 (nI lev) t = some ((), t2) := by
          rw [h9, e_callV je.bd.1.k, x_call (x_stepE je.bd _ _ _), x_both5E je.bd]
        unfold xT
        rw [x_call h9', x_wE je.bd]
    | false =>
      rw [q2, if_pos (by decide)] at c0 r0
      have hr1 : xT k9O lev ow (p2 + 1) (p3 + 1) t = xW k9O lev ow (p3 + 1) t := by
        unfold xT
        rw [x_call (show fX9_readBoth_5 k9O (p2 + 1) 113 (nI lev) t = some ((), t) from r0)]
      obtain ⟨v1, t1, Z, u1, u2, u3, u4, u5, u6, u7, u8, u9⟩ := hfl
      rw [u2] at hr1
      have hSv1 := u4.1.1
      have hor : fX9_isOr 113 t1 = some (nI (wq C N a 3).toNat, t1) := by rw [x_isOr u5.1.1, u5.wbq (by decide) (by decide)]
      have r3 := congrFun (qX9_readEither_5 (fX9_readBoth k9O) p3 113 (nI lev)) t1
      rw [u5.1.gi u5.2.2.2, e_if, if_pos (by decide), u5.1.cv, x_call hor, e_if] at r3
      have r4 : xW k9O lev false (p3 + 1) t1 = fX9_readEither_5 (fX9_readBoth k9O) (p3 + 1) 113 (nI lev) t1 := rfl
      rw [r4] at hr1
      rw [xGR hS1.k111 hS1.p111, e_callV hS1.k106, x_call (c_isWord c (z := 3) (by decide)), e_if] at c0
      cases q3 : wq C N a 3 with
      | true =>
        rw [q3, if_neg (by decide)] at c0 r3
        rw [u1] at c0
        have hx2 := wq_nx q3
        have hx3 : a + 2 ≤ nx C N a := by
          have : zl 3 = 2 := by decide
          omega
        have haN2 := nx_le C haN
        have hl1 : (lAll L ++ (cur ++ Z)).length = (lAll L ++ cur).length + Z.length := by rw [← List.append_assoc, List.length_append]
        obtain ⟨v2, t2, e1', f1, p1, q1, c1, r1⟩ := j_next u4 u5
        have J1 := u6.f p1 q1
        have hSv2 := c1.1.1
        have hxx := hK v2 t2 C N (nx C N a) m L (cur ++ Z) c1 r1 J1 hL w6 (by omega) hN
        obtain ⟨v3, t3, r, o1, o2, o3⟩ := hxx
        have h1 : fX1_readEither_11 k1O (n + 1) 111 (nI lev) (nI 1) (nI ow.toNat) (nI k) v = fX1_readEither_11 k1O n 111 (nI lev) r (nI true.toNat) (nI (k + 1)) v3 := by
          rw [c0]
          unfold fX1_readEither_89
          rw [xGR hSv1.k111 hSv1.p111, e_callV hSv1.k106, x_call e1', e_callV hSv2.k111, x_call o1, nI_succ1]
          rfl
        have h9 : xT k9O lev ow (p2 + 1) (p3 + 1) t = xT k9O lev true 5000 p3 t3 := by
          rw [hr1, r3, u5.1.cv, x_call f1, r1.1.cv]
          unfold xT
          refine bcall_eq ?_
          unfold fX9_readBoth
          rw [r1.1.cv, x_call o2]
          rfl
        obtain ⟨o4, o5⟩ := o3
        have F0 := (u3.tr (KFL.f p1 q1)).tr o4
        rcases o5 with ⟨s0, V, a', m', s1, s2, s3, s4, s5, s6, s7, s8, s9⟩ | ⟨s0, je, j, s1, s2⟩
        · subst s0
          have haN3 := s1.2.2.1
          have hll : (Z ++ V).length = Z.length + V.length := List.length_append
          have hJS : JS v3 t3 C N L cur m0 a0 true Z V (e1 + e2) (m' - m) a' m' := by
            refine ⟨s1, s2, ?_, fun _ => ⟨u8, by omega⟩, (fun h => by cases h), s5, by omega, by omega, s7, ?_, by omega, ?_⟩
            · rw [← List.append_assoc]
              exact s3
            · intro x hx
              rw [List.mem_append] at hx
              rcases hx with hx | hx
              · exact u7 x hx
              · exact s4 x hx
            · show 3 * (Z ++ V).length + a0 + m0 + 1 + 3 * 1 ≤ a' + m'
              omega
          obtain ⟨v', t', r', z1, z2, z3⟩ := ih _ _ Z V _ _ a' m' true (k + 1) 5000 p3 hJS (by omega) (by omega) (by omega) (by omega)
          exact ⟨v', t', r', h1.trans z1, h9.trans z2, F0.tr z3.1, z3.2⟩
        · subst s0
          obtain ⟨n', rfl⟩ : ∃ n', n = n' + 1 := ⟨n - 1, by omega⟩
          obtain ⟨p3', rfl⟩ : ∃ p3', p3 = p3' + 1 := ⟨p3 - 1, by omega⟩
          obtain ⟨v4, i2, z1, z2, z3, z4, z5⟩ := c_e11F (k1O := k1O) (hSv2.fi o4.1) s2 s1 n' (nI lev) (nI (k + 1)) true
          refine ⟨v4, t3, nI 0, h1.trans z1, ?_, F0.tr (KFL.cl z2), Or.inr ⟨rfl, je.mv2 z3, i2, z4, z5⟩⟩
          rw [h9]
          exact x_tE je.bd true 4999 p3'
      | false =>
        rw [q3, if_pos (by decide)] at c0 r3
        have h1 : fX1_readEither_11 k1O (n + 1) 111 (nI lev) (nI 1) (nI ow.toNat) (nI k) v = some (nI 1, v1) := by
          rw [c0]
          unfold fX1_readEither_110
          rw [u1]
          rfl
        refine ⟨v1, t1, nI 1, h1, by rw [hr1, r3]; rfl, u3, Or.inl ⟨rfl, Z, a, m, u4, u5, u6, u7, ?_, by omega, w6, w8, u9⟩⟩
        rw [show m - m0 = e1 + e2 by omega]
        exact u8
theorem j_either (hK : JK lev k1O k9O) : JK lev (fX1_readEither k1O) (fX9_readEither (fX9_readBoth k9O)) := by
  intro v t C N a m L cur h g hJ hL hm hS hN
  have hS1 := h.1.1
  obtain ⟨v1, t1, r, o1, o2, o3⟩ := hK v t C N a m L cur h g hJ hL hm hS hN
  have hSv1 : CS v1 := hS1.fi o3.1.1
  have c0 : fX1_readEither k1O 111 (nI lev) v = fX1_readEither_11 k1O 5000 111 (nI lev) r (nI false.toNat) (nI 0) v1 := by
    unfold fX1_readEither
    rw [e_callV hS1.k111, x_call o1]
    rfl
  have r0 : fX9_readEither (fX9_readBoth k9O) 113 (nI lev) t = xT k9O lev false 5000 5000 t1 := by
    unfold fX9_readEither xT
    rw [g.1.cv]
    refine bcall_eq ?_
    unfold fX9_readBoth
    rw [g.1.cv, x_call o2]
    rfl
  obtain ⟨o4, o5⟩ := o3
  rcases o5 with ⟨s0, Y, a', m', s1, s2, s3, s4, s5, s6, s7, s8, s9⟩ | ⟨s0, je, j, s1, s2⟩
  · subst s0
    have haN := s1.2.2.1
    have hJS : JS v1 t1 C N L cur m a false [] Y 0 (m' - m) a' m' := ⟨s1, s2, s3, (fun h => by cases h), fun _ => ⟨rfl, rfl⟩, s5, by omega, by omega, s7, s4, s8, by show 3 * Y.length + a + m + 1 + 3 * 0 ≤ a' + m'; omega⟩
    obtain ⟨v', t', r', z1, z2, z3⟩ := j_loop11 hK hL hN hS 5000 v1 t1 [] Y 0 (m' - m) a' m' false 0 5000 5000 hJS (by omega) (by omega) (by omega) (by omega)
    exact ⟨v', t', r', c0.trans z1, r0.trans z2, o4.tr z3.1, z3.2⟩
  · subst s0
    obtain ⟨v4, i2, z1, z2, z3, z4, z5⟩ := c_e11F (k1O := k1O) hSv1 s2 s1 4999 (nI lev) (nI 0) false
    exact ⟨v4, t1, nI 0, c0.trans z1, r0.trans (x_tE je.bd false 4999 4999), o4.tr (KFL.cl z2), Or.inr ⟨rfl, je.mv2 z3, i2, z4, z5⟩⟩
/-- all levels -/
theorem j_levels : ∀ d lev, lev + d = 6 → ∀ n1 n9, 2 * d + 1 ≤ n1 → 3 * d + 1 ≤ n9 → JK lev (gX1 n1).2 (gX9 n9).1 := by
  intro d
  induction d with
  | zero =>
    intro lev hl n1 n9 h1 h9
    obtain ⟨p1, rfl⟩ : ∃ p1, n1 = p1 + 1 := ⟨n1 - 1, by omega⟩
    obtain ⟨p9, rfl⟩ : ∃ p9, n9 = p9 + 1 := ⟨n9 - 1, by omega⟩
    exact j_one (by omega) (fun h => by omega)
  | succ d ih =>
    intro lev hl n1 n9 h1 h9
    obtain ⟨p1, rfl⟩ : ∃ p1, n1 = p1 + 1 + 1 := ⟨n1 - 2, by omega⟩
    obtain ⟨p9, rfl⟩ : ∃ p9, n9 = p9 + 1 + 1 + 1 := ⟨n9 - 3, by omega⟩
    refine j_one (by omega) (fun _ => ⟨?_, ih (lev + 1) (by omega) (p1 + 1) (p9 + 1 + 1) (by omega) (by omega)⟩)
    exact j_either (ih (lev + 1) (by omega) p1 p9 (by omega) (by omega))
theorem j_cond : JK 0 wX1_readEither wX9_readEither := by
  have h := j_either (j_levels 6 0 rfl 23 22 (by decide) (by decide))
  intro v t C N a m L cur
  exact h v t C N a m L cur
end LEIT

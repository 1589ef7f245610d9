/-! A QUESTION, the whole of it behind its word -/
section LCASE5
variable {v t : mS} {C : Nat → Nat} {N a m : Nat} {L : List (List qS3 × Nat)} {cur : List qS3}
def xCase (k1 k2 : Nat → Int32 → mM Unit) (p : Int32) : mM Unit := bGI 9 113 20 (fun x2 => bPI 9 113 20 (x2 + (1 : Int32)) (bIf (p ≤ (1 : Int32)) (fX9_readOne_241 k1 k2 113 p (0 : Int32) (0 : Int32)) (bGI 9 113 14 (fun x3 => bIf (x3 = (3 : Int32)) (bGI 9 113 17 (fun x4 => fX9_readOne_193 k1 k2 113 p x4)) (fX9_readOne_193 k1 k2 113 p (0 : Int32))))))
theorem j_case (h : CG v C N a) (g : RG t C N a) (hJ : JL v t L cur m) (hL : L.length ≤ 12) (hS : (lAll L ++ cur).length < 130) (hE : (lEnc L ++ cur.map lCode).length < 300) {k : Nat} (hk : k < 8) (k1 k2 : Nat → Int32 → mM Unit) : ∃ v' t', xCase k1 k2 (nI k) t = some ((), t') ∧ KFL v v' t t' ∧ ((∃ q r a', fX1_readCase 111 (nI k) v = some (nI 1, v') ∧ sOk (k, q, r) ∧ a ≤ a' ∧ CG v' C N a' ∧ RG t' C N a' ∧ JL v' t' L (cur ++ [(k, q, r)]) (m + 1)) ∨ (fX1_readCase 111 (nI k) v = some (nI 0, v') ∧ JE v' t' ∧ sI v' 111 3 = sI v 111 3)) := by
  have hS1 := h.1.1
  have hT := g.1.1
  have h1 : CG (wI v 111 2 (nI (m + 1))) C N a := h.w (by decide) (by decide)
  have g1 : RG (wI t 113 20 (nI (m + 1))) C N a := g.i (by decide)
  have J1 := hJ.ask
  have hSv := h1.1.1
  have F0 : KFL v (wI v 111 2 (nI (m + 1))) t (wI t 113 20 (nI (m + 1))) := ⟨FI.w _ _ (Or.inr (Or.inl rfl)), (FW.i ⟨by decide, by decide⟩).l2, fun i _ => sI_wI_ne (Or.inl (by decide))⟩
  by_cases hk2 : k < 2
  · obtain ⟨v', t', e1, e2, e3, e4, e5, e6⟩ := j_case0 h1 g1 J1 hL hS hE hk2 k1 k2
    refine ⟨v', t', ?_, F0.tr e2, Or.inl ⟨0, 0, a, ?_, ⟨by show k ≤ 10; omega, by show 0 < 256; decide, by show 0 ≤ 999; decide⟩, Nat.le_refl _, e4, e5, e6⟩⟩
    · unfold xCase
      rw [xGIe hT.k hJ.2.2.2.1, nI_succ1, xPI hT.k, e_if, if_pos (by rw [li_1, le_i (by omega) (by omega)]; omega)]
      exact e1
    · unfold fX1_readCase
      rw [xGIe hS1.k111 hJ.1.2.1, nI_succ1, xPI hS1.k111, e_if]
      by_cases h0 : nI k = 0
      · rw [if_pos h0]; exact e3
      · rw [if_neg h0, e_if, if_pos (by
          rw [li_0, eq_i (by omega) (by omega)] at h0
          rw [li_1, eq_i (by omega) (by omega)]
          omega)]
        exact e3
  · have hx0 : xCase k1 k2 (nI k) t = (bGI 9 113 14 (fun x3 => bIf (x3 = (3 : Int32)) (bGI 9 113 17 (fun x4 => fX9_readOne_193 k1 k2 113 (nI k) x4)) (fX9_readOne_193 k1 k2 113 (nI k) (0 : Int32)))) (wI t 113 20 (nI (m + 1))) := by
      unfold xCase
      rw [xGIe hT.k hJ.2.2.2.1, nI_succ1, xPI hT.k, e_if, if_neg (by rw [li_1, le_i (by omega) (by omega)]; omega)]
    have hc0 : fX1_readCase 111 (nI k) v = (bCallV 4 106 (fX4_isSign 106 (60 : Int32)) (fun x3 => bIf (x3 = 0) (bGR 1 111 0 (fun x4 => bCallV 4 x4 (fX4_isSign x4 (62 : Int32)) (fun x5 => bIf (x5 = 0) (bGR 1 111 0 (fun x6 => bCallV 4 x6 (fX4_isSign x6 (61 : Int32)) (fun x7 => bIf (x7 = 0) (bGR 1 111 0 (fun x8 => bCallV 4 x8 (fX4_refuseToken x8 (2 : Int32)) (fun x9 => bRetZ x9))) (fX1_readCase_78 111 (nI k))))) (fX1_readCase_78 111 (nI k))))) (fX1_readCase_78 111 (nI k)))) (wI v 111 2 (nI (m + 1))) := by
      unfold fX1_readCase
      rw [xGIe hS1.k111 hJ.1.2.1, nI_succ1, xPI hS1.k111, e_if, if_neg (by rw [li_0, eq_i (by omega) (by omega)]; omega), e_if, if_neg (by rw [li_1, eq_i (by omega) (by omega)]; omega), xGR hSv.k111 hSv.p111]
    rw [e_callV hSv.k106, li_60, x_call (c_isSign h1 (c := 60) (by decide)), e_if] at hc0
    by_cases hs : sq C N a 60 = true ∨ sq C N a 62 = true ∨ sq C N a 61 = true
    · obtain ⟨c, hc, h3, hCa⟩ : ∃ c, c < 256 ∧ kd C N a = 3 ∧ C a = c := by
        rcases hs with h | h | h
        · exact ⟨60, by decide, sq_i h⟩
        · exact ⟨62, by decide, sq_i h⟩
        · exact ⟨61, by decide, sq_i h⟩
      have hx1 : xCase k1 k2 (nI k) t = fX9_readOne_223 k1 k2 113 (nI k) (nI c) 113 (wI t 113 20 (nI (m + 1))) := by
        rw [hx0, g1.1.gi g1.2.1.2.1, h3, e_if, if_pos (by decide), g1.1.gi (g1.2.1.2.2.2.2.1 h3), hCa, x_193 g1 k1 k2 _ _ hs]
      have hc1 : fX1_readCase 111 (nI k) v = fX1_readCase_78 111 (nI k) (wI v 111 2 (nI (m + 1))) := by
        rw [hc0]
        cases q1 : sq C N a 60 with
        | true => rw [if_neg (by decide)]
        | false =>
          rw [if_pos (by decide), xGR hSv.k111 hSv.p111, e_callV hSv.k106, li_62, x_call (c_isSign h1 (c := 62) (by decide)), e_if]
          cases q2 : sq C N a 62 with
          | true => rw [if_neg (by decide)]
          | false =>
            have q3 : sq C N a 61 = true := by
              rcases hs with h | h | h
              · rw [q1] at h; cases h
              · rw [q2] at h; cases h
              · exact h
            rw [if_pos (by decide), xGR hSv.k111 hSv.p111, e_callV hSv.k106, li_61, x_call (c_isSign h1 (c := 61) (by decide)), q3, e_if, if_neg (by decide)]
      obtain ⟨v', t', e1, e2, e3⟩ := j_case1 h1 g1 J1 hL hS hE hk2 hk hc h3 hCa k1 k2
      refine ⟨v', t', hx1.trans e1, F0.tr e2, ?_⟩
      rcases e3 with ⟨r, a', o1, o2, o3, o4, o5, o6⟩ | ⟨o1, o2⟩
      · exact Or.inl ⟨c, r, a', hc1.trans o1, ⟨by show k ≤ 10; omega, hc, o2⟩, o3, o4, o5, o6⟩
      · exact Or.inr ⟨hc1.trans o1, o2.1, o2.2.trans (sI_wI_ne (Or.inr (by decide)))⟩
    · have n1 : sq C N a 60 = false := by
        cases hh : sq C N a 60 with
        | true => exact absurd (Or.inl hh) hs
        | false => rfl
      have n2 : sq C N a 62 = false := by
        cases hh : sq C N a 62 with
        | true => exact absurd (Or.inr (Or.inl hh)) hs
        | false => rfl
      have n3 : sq C N a 61 = false := by
        cases hh : sq C N a 61 with
        | true => exact absurd (Or.inr (Or.inr hh)) hs
        | false => rfl
      obtain ⟨v', t', e1, e2, e3, e4, je⟩ := j_must0 h1 g1
      have hT1 := g1.1.1
      have h193 : ∀ s0, fX9_readOne_193 k1 k2 113 (nI k) s0 (wI t 113 20 (nI (m + 1))) = some ((), t') := by
        intro s0
        unfold fX9_readOne_193
        rw [g1.1.cv, li_60, x_call (x_isSign hT1 60), g1.sbq2 (by decide), n1, e_if, if_pos (by decide), g1.1.cv, li_62, x_call (x_isSign hT1 62), g1.sbq2 (by decide), n2, e_if, if_pos (by decide), g1.1.cv, li_61, x_call (x_isSign hT1 61), g1.sbq2 (by decide), n3, e_if, if_pos (by decide)]
        unfold fX9_readOne_228
        rw [g1.1.cv, x_call e2, e_callV je.bd.1.k, x_call (x_countE je.bd _ _), x_o241E je.bd]
      refine ⟨v', t', ?_, F0.tr (KFL.f e3 e4), Or.inr ⟨?_, je, by rw [e3.1.1 111 (by decide)]; exact sI_wI_ne (Or.inr (by decide))⟩⟩
      · rw [hx0, g1.1.gi g1.2.1.2.1, e_if]
        by_cases h3 : nI (kd C N a) = (3 : Int32)
        · rw [if_pos h3, xGI hT1.k, h193]
        · rw [if_neg h3, h193]
      · rw [hc0, n1, if_pos (by decide), xGR hSv.k111 hSv.p111, e_callV hSv.k106, li_62, x_call (c_isSign h1 (c := 62) (by decide)), n2, e_if, if_pos (by decide), xGR hSv.k111 hSv.p111, e_callV hSv.k106, li_61, x_call (c_isSign h1 (c := 61) (by decide)), n3, e_if, if_pos (by decide), xGR hSv.k111 hSv.p111, e_callV hSv.k106, li_2, x_call e1]
        rfl
end LCASE5

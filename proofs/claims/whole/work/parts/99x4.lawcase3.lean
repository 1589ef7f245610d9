/-! A QUESTION WITH A NUMBER, both readers -/
section LCASE3
variable {v t : mS} {C : Nat → Nat} {N a m : Nat} {L : List (List qS3 × Nat)} {cur : List qS3}
theorem j_case1 (h : CG v C N a) (g : RG t C N a) (hJ : JL v t L cur m) (hL : L.length ≤ 12) (hS : (lAll L ++ cur).length < 130) (hE : (lEnc L ++ cur.map lCode).length < 300) {k c : Nat} (hk2 : ¬ k < 2) (hk : k < 8) (hc : c < 256) (h3 : kd C N a = 3) (hCa : C a = c) (k1 k2 : Nat → Int32 → mM Unit) : ∃ v' t', fX9_readOne_223 k1 k2 113 (nI k) (nI c) 113 t = some ((), t') ∧ KFL v v' t t' ∧ ((∃ r a', fX1_readCase_78 111 (nI k) v = some (nI 1, v') ∧ r ≤ 999 ∧ a ≤ a' ∧ CG v' C N a' ∧ RG t' C N a' ∧ JL v' t' L (cur ++ [(k, c, r)]) m) ∨ (fX1_readCase_78 111 (nI k) v = some (nI 0, v') ∧ JE v' t' ∧ sI v' 111 3 = sI v 111 3)) := by
  have hS1 := h.1.1
  have h5 : sI v 106 5 = nI c := by rw [h.2.1.2.2.2.2 h3, hCa]
  obtain ⟨v1, e1, p1, c1⟩ := c_adv h
  obtain ⟨t1, f1, q1, r1⟩ := j_must1 g
  have hSv1 := c1.1.1
  have J1 := hJ.f p1 q1
  obtain ⟨v2, t2, r, f2, p2, q2, hx⟩ := j_num c1 r1 (lo := 0) (hi := 999) (by decide) (by decide)
  have J2 := J1.f p2 q2
  have hSv2 : CS v2 := hSv1.fi p2.1
  have hr : fX9_readOne_223 k1 k2 113 (nI k) (nI c) 113 t = fX9_readOne_241 k1 k2 113 (nI k) (nI c) (nI r) t2 := by
    unfold fX9_readOne_223 fX9_readOne_228
    rw [g.1.cv, x_call f1, r1.1.cv, li_0, li_999, x_call f2]
  have hn1 := nx_ge C N a
  have hn2 := nx_ge C N (nx C N a)
  rcases hx with ⟨l1, l2, l3, l4, c2, r2⟩ | ⟨l1, je⟩
  · have hst := c_step (s := v2) (p := 0) (k := k) (q := c) (n := r) (by decide) hk hc (by omega)
    obtain ⟨e3, e4, e5, e6, e7, e8⟩ := j_keep c2 r2 J2 hL hS hE k c r (x := nI (0 + k * 16 + c * 256 + r * 65536)) (lC_1 hk2 hk).symm
    refine ⟨_, _, ?_, ((KFL.f p1 q1).tr (KFL.f p2 q2)).tr e5, Or.inl ⟨r, _, ?_, l4, Nat.le_trans hn1 hn2, e6, e7, e8⟩⟩
    · rw [hr]
      unfold fX9_readOne_241
      rw [r2.1.cv, x_call e4]
      rfl
    · unfold fX1_readCase_78
      rw [xGR hS1.k111 hS1.p111, xGIe hS1.k106 h5, xGR hS1.k111 hS1.p111, e_callV hS1.k106, x_call e1, xGR hSv1.k111 hSv1.p111, e_callV hSv1.k106, li_0, li_999, x_call l1, e_if, if_neg (by decide), xGR hSv2.k111 hSv2.p111, xGIe hSv2.k106 l2, x_call hst, e_callV hSv2.k111, x_call e3]
      rfl
  · refine ⟨v2, t2, ?_, (KFL.f p1 q1).tr (KFL.f p2 q2), Or.inr ⟨?_, je, by rw [p2.1.1 111 (by decide), p1.1.1 111 (by decide)]⟩⟩
    · rw [hr, x_o241E je.bd]
    · unfold fX1_readCase_78
      rw [xGR hS1.k111 hS1.p111, xGIe hS1.k106 h5, xGR hS1.k111 hS1.p111, e_callV hS1.k106, x_call e1, xGR hSv1.k111 hSv1.p111, e_callV hSv1.k106, li_0, li_999, x_call l1, e_if, if_pos (by decide)]
      rfl
end LCASE3

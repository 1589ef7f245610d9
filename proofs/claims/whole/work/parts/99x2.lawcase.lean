/-! A QUESTION OF A RULE, both readers (its first word is read) -/
section LCASE
variable {v t : mS} {C : Nat → Nat} {N a m : Nat} {L : List (List qS3 × Nat)} {cur : List qS3}
/-- one more question was asked -/
theorem JL.ask (h : JL v t L cur m) : JL (wI v 111 2 (nI (m + 1))) (wI t 113 20 (nI (m + 1))) L cur (m + 1) := by
  obtain ⟨⟨a1, a2, a3, a4⟩, b1, b2, b3, b4, b5⟩ := h
  refine ⟨⟨?_, sI_wI_eq _ _ _ _, ?_, fun i hi => ?_⟩, ?_, ?_, sI_wI_eq _ _ _ _, fun j hj => ?_, fun k hk => ?_⟩
  · rw [sI_wI_ne (Or.inr (by decide))]; exact a1
  · rw [sI_wI_ne (Or.inr (by decide))]; exact a3
  · rw [sI_wI_ne (Or.inl (by decide))]; exact a4 i hi
  · rw [sI_wI_ne (Or.inr (by decide))]; exact b1
  · rw [sI_wI_ne (Or.inr (by decide))]; exact b2
  · rw [sI_wI_ne (Or.inl (by decide)), sI_wI_ne (Or.inl (by decide)), sI_wI_ne (Or.inl (by decide))]; exact b4 j hj
  · rw [sI_wI_ne (Or.inl (by decide)), sI_wI_ne (Or.inl (by decide)), sI_wI_ne (Or.inl (by decide))]; exact b5 k hk
/-- the step is kept by both -/
theorem j_keep (h : CG v C N a) (g : RG t C N a) (hJ : JL v t L cur m) (hL : L.length ≤ 12) (hS : (lAll L ++ cur).length < 130) (hE : (lEnc L ++ cur.map lCode).length < 300) (p q r : Nat) {x : Int32} (hx : x = lCode (p, q, r)) : fX1_keepStep 111 x v = some ((), stS v (lEnc L ++ cur.map lCode).length (lCode (p, q, r))) ∧ fX9_ruleStep 113 (nI p) (nI q) (nI r) t = some ((), rsS t (lAll L ++ cur).length p q r) ∧ KFL v (stS v (lEnc L ++ cur.map lCode).length (lCode (p, q, r))) t (rsS t (lAll L ++ cur).length p q r) ∧ CG (stS v (lEnc L ++ cur.map lCode).length (lCode (p, q, r))) C N a ∧ RG (rsS t (lAll L ++ cur).length p q r) C N a ∧ JL (stS v (lEnc L ++ cur.map lCode).length (lCode (p, q, r))) (rsS t (lAll L ++ cur).length p q r) L (cur ++ [(p, q, r)]) m := by
  subst hx
  exact ⟨c_keepStep h.1.1 hJ.1.2.2.1 hE _, x_stepG g hJ.2.2.1 hS p q r, ⟨st_f11, rsS_fw.l2, fun i hi => rsS_n (Or.inl (by omega))⟩, h.st2, rsS_ok g, hJ.step p q r hL hS⟩
theorem j_must1 (g : RG t C N a) : ∃ t', fX9_must 113 (1 : Int32) t = some ((), t') ∧ F9 i12 l22 t t' ∧ RG t' C N (nx C N a) := by
  obtain ⟨t', e1, e2, e3⟩ := x_mustG g true
  exact ⟨t', e1, e2, e3⟩
end LCASE

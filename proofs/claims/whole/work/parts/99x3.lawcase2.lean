/-! A QUESTION WITHOUT A NUMBER, both readers -/
section LCASE2
variable {v t : mS} {C : Nat → Nat} {N a m : Nat} {L : List (List qS3 × Nat)} {cur : List qS3}
theorem j_case0 (h : CG v C N a) (g : RG t C N a) (hJ : JL v t L cur m) (hL : L.length ≤ 12) (hS : (lAll L ++ cur).length < 130) (hE : (lEnc L ++ cur.map lCode).length < 300) {k : Nat} (hk : k < 2) (k1 k2 : Nat → Int32 → mM Unit) : ∃ v' t', fX9_readOne_241 k1 k2 113 (nI k) (0 : Int32) (0 : Int32) t = some ((), t') ∧ KFL v v' t t' ∧ fX1_readCase_19 111 (nI k) v = some (nI 1, v') ∧ CG v' C N a ∧ RG t' C N a ∧ JL v' t' L (cur ++ [(k, 0, 0)]) m := by
  have hS1 := h.1.1
  have hst := c_step (s := v) (p := 0) (k := k) (q := 61) (n := 1) (by decide) (by omega) (by decide) (by decide)
  obtain ⟨e1, e2, e3, e4, e5, e6⟩ := j_keep h g hJ hL hS hE k 0 0 (x := nI (0 + k * 16 + 61 * 256 + 1 * 65536)) (lC_0 hk).symm
  refine ⟨_, _, ?_, e3, ?_, e4, e5, e6⟩
  · unfold fX9_readOne_241
    rw [li_0, g.1.cv, x_call e2]
    rfl
  · unfold fX1_readCase_19
    rw [li_0, li_61, li_1, x_call hst, e_callV hS1.k111, x_call e1]
    rfl
end LCASE2

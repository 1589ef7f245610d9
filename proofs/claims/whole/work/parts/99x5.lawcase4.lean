/-! A QUESTION, both readers -/
section LCASE4
variable {v t : mS} {C : Nat → Nat} {N a m : Nat} {L : List (List qS3 × Nat)} {cur : List qS3}
theorem sq_i {c : Nat} (h : sq C N a c = true) : kd C N a = 3 ∧ C a = c := by
  unfold sq at h
  rw [Bool.and_eq_true, decide_eq_true_iff, decide_eq_true_iff] at h
  exact h
theorem x_193 (g : RG t C N a) (k1 k2 : Nat → Int32 → mM Unit) (p s0 : Int32) (hs : sq C N a 60 = true ∨ sq C N a 62 = true ∨ sq C N a 61 = true) : fX9_readOne_193 k1 k2 113 p s0 t = fX9_readOne_223 k1 k2 113 p s0 113 t := by
  have hT := g.1.1
  unfold fX9_readOne_193
  rw [g.1.cv, li_60, x_call (x_isSign hT 60), g.sbq2 (by decide), e_if]
  cases q1 : sq C N a 60 with
  | true => rw [if_neg (by decide)]
  | false =>
    rw [if_pos (by decide), g.1.cv, li_62, x_call (x_isSign hT 62), g.sbq2 (by decide), e_if]
    cases q2 : sq C N a 62 with
    | true => rw [if_neg (by decide)]
    | false =>
      have q3 : sq C N a 61 = true := by
        rcases hs with h | h | h
        · rw [q1] at h; cases h
        · rw [q2] at h; cases h
        · exact h
      rw [if_pos (by decide), g.1.cv, li_61, x_call (x_isSign hT 61), g.sbq2 (by decide), q3, e_if, if_neg (by decide)]
theorem j_must0 (h : CG v C N a) (g : RG t C N a) : ∃ v' t', fX4_refuseToken 106 (nI 2) v = some (nI 0, v') ∧ fX9_must 113 (0 : Int32) t = some ((), t') ∧ F6 j28 v v' ∧ F9 i12 l22 t t' ∧ JE v' t' := by
  obtain ⟨v', t', e1, e2, e3, e4, je⟩ := j_wrong h g
  refine ⟨v', t', e1, ?_, e3, e4, je⟩
  unfold fX9_must
  rw [g.1.gi g.2.2.2, e_if, if_pos (by decide), e_if, if_pos (by decide), g.1.cv, x_call e2]
  rfl
end LCASE4

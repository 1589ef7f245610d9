/-! A STEP OF A RULE, the reference -/
section STEP
variable {t : mS} {C : Nat → Nat} {N a : Nat}
def rsS (t : mS) (S p q r : Nat) : mS := wI (wI (wI (wI t 118 (3766 + 4 * S) (nI p)) 118 (3766 + 4 * S + 1) (nI q)) 118 (3766 + 4 * S + 2) (nI r)) 113 19 (nI (S + 1))
theorem x_stepG (g : RG t C N a) {S : Nat} (h19 : sI t 113 19 = nI S) (hS : S < 130) (p q r : Nat) : fX9_ruleStep 113 (nI p) (nI q) (nI r) t = some ((), rsS t S p q r) := by
  have hT := g.1.1
  have hT1 : RT (wI t 118 (3766 + 4 * S) (nI p)) := hT.w
  have hT2 : RT (wI (wI t 118 (3766 + 4 * S) (nI p)) 118 (3766 + 4 * S + 1) (nI q)) := hT1.w
  have hT3 : RT (wI (wI (wI t 118 (3766 + 4 * S) (nI p)) 118 (3766 + 4 * S + 1) (nI q)) 118 (3766 + 4 * S + 2) (nI r)) := hT2.w
  unfold fX9_ruleStep
  rw [g.1.gi g.2.2.2, e_if, if_pos (by decide), xGIe hT.k h19, rt_c hT, li_3766, li_4, nI_mul, nI_add, rt_cell hT (by omega), rt_c hT1, li_1, nI_add, rt_cell hT1 (by omega), rt_c hT2, li_2, nI_add, rt_cell hT2 (by omega), xGIe hT3.k (show sI _ 113 19 = nI S by rw [sI_wI_ne (Or.inl (by decide)), sI_wI_ne (Or.inl (by decide)), sI_wI_ne (Or.inl (by decide))]; exact h19), nI_add, xPI hT3.k]
  rfl
theorem rsS_ok (g : RG t C N a) {S p q r : Nat} : RG (rsS t S p q r) C N a := by
  unfold rsS
  exact (((g.c).c).c).i (by decide)
theorem rsS_fw {S p q r : Nat} : FW t (rsS t S p q r) := (((FW.c (by omega)).tr (FW.c (by omega))).tr (FW.c (by omega))).tr (FW.i ⟨by decide, by decide⟩)
theorem rsS_n {S p q r i : Nat} (h : i < 3766 + 4 * S ∨ 3766 + 4 * S + 2 < i) : sI (rsS t S p q r) 118 i = sI t 118 i := by
  unfold rsS
  rw [sI_wI_ne (Or.inl (by decide)), sI_wI_ne (Or.inr (by omega)), sI_wI_ne (Or.inr (by omega)), sI_wI_ne (Or.inr (by omega))]
theorem rsS_x {S p q r : Nat} : sI (rsS t S p q r) 118 (3766 + 4 * S) = nI p ∧ sI (rsS t S p q r) 118 (3766 + 4 * S + 1) = nI q ∧ sI (rsS t S p q r) 118 (3766 + 4 * S + 2) = nI r ∧ sI (rsS t S p q r) 113 19 = nI (S + 1) := by
  unfold rsS
  refine ⟨?_, ?_, ?_, sI_wI_eq _ _ _ _⟩
  · rw [sI_wI_ne (Or.inl (by decide)), sI_wI_ne (Or.inr (by omega)), sI_wI_ne (Or.inr (by omega)), sI_wI_eq]
  · rw [sI_wI_ne (Or.inl (by decide)), sI_wI_ne (Or.inr (by omega)), sI_wI_eq]
  · rw [sI_wI_ne (Or.inl (by decide)), sI_wI_eq]
end STEP

/-! THE REFERENCE'S END OF A WELL -/
/-- the block read is the block now -/
def Bc (t s : mS) : Prop := FI (fun c => c = 118) t s ∧ (∀ j, 860 ≤ j → sI s 118 j = sI t 118 j) ∧ ∀ i, i < 860 → sI s 118 i = sI t 118 (3440 + i)
section WEND
variable {t : mS} {C : Nat → Nat} {N a : Nat} {W : wW}
theorem x_138 (hT : RT t) (h7 : sI t 118 3447 = nI (wPe W)) : ∃ u, fX9_well_138 fu 113 (nI 0) t = some (nI (wPe W), u) ∧ Bc t u := by
  have key := loop_s (fun n k => fX9_well_138 n 113 (nI k)) (fun k u => FI (fun c => c = 118) t u ∧ (∀ j, k ≤ j → sI u 118 j = sI t 118 j) ∧ ∀ i, i < k → sI u 118 i = sI t 118 (3440 + i)) 860 (fun q => q.1 = nI (wPe W) ∧ Bc t q.2) (fun n k u hk hI => ?_) (fun n u hI => ?_) fu 0 t (by decide) (by unfold fu; omega) ⟨⟨fun _ _ => rfl, rfl⟩, fun _ _ => rfl, fun i hi => absurd hi (by omega)⟩
  · obtain ⟨⟨x, u⟩, h1, h2, h3⟩ := key
    have h2 : x = nI (wPe W) := h2
    subst h2
    exact ⟨u, h1, h3⟩
  · obtain ⟨a1, a2, a3⟩ := hI
    have hTu : RT u := hT.mv a1.2
    refine ⟨wI u 118 k (sI t 118 (3440 + k)), ⟨a1.tr (FI.w _ _ rfl), fun j hj => ?_, fun i hi => ?_⟩, ?_⟩
    · rw [sI_wI_ne (Or.inr (by omega))]; exact a2 j (by omega)
    · by_cases h0 : i = k
      · rw [h0, sI_wI_eq]
      · rw [sI_wI_ne (Or.inr h0)]; exact a3 i (by omega)
    · show fX9_well_138 (n + 1) 113 (nI k) u = fX9_well_138 n 113 (nI (k + 1)) _
      rw [qX9_well_138, e_if, if_neg (by rw [li_860, le_i (by omega) (by omega)]; omega), rt_c hTu, rt_c hTu, li_3440, nI_add, rt_n hTu (by omega), a2 _ (by omega), rt_cell hTu (by omega), nI_succ1]
  · obtain ⟨a1, a2, a3⟩ := hI
    have hTu : RT u := hT.mv a1.2
    refine ⟨(nI (wPe W), u), ?_, rfl, a1, a2, a3⟩
    show fX9_well_138 (n + 1) 113 (nI 860) u = _
    rw [qX9_well_138, e_if, if_pos (by rw [li_860, le_i (by omega) (by omega)]; omega), rt_c hTu, li_7, rt_n hTu (by decide), a3 7 (by decide), h7]
    rfl
theorem x_endG (g : RG t C N a) (h7 : sI t 118 3447 = nI (wPe W)) : ∃ u, fX9_well_127 113 t = some (nI (wPe W), u) ∧ Bc (wI (wI t 113 10 (nI 0)) 113 11 mI) u := by
  have hT := g.1.1
  have h12 := g.2.2.2
  have hT2 : RT (wI (wI t 113 10 (nI 0)) 113 11 mI) := (hT.w).w
  have hT1 : RT (wI t 113 10 (nI 0)) := hT.w
  obtain ⟨u, e1, e2⟩ := x_138 (W := W) hT2 (by rw [sI_wI_ne (Or.inl (by decide)), sI_wI_ne (Or.inl (by decide))]; exact h7)
  have hi : fX9_isWell 113 t = some (nI 1, wI (wI t 113 10 (nI 0)) 113 11 mI) := by
    unfold fX9_isWell
    rw [xGIe hT.k h12, xPI hT.k, xGIe hT1.k (show sI (wI t 113 10 (nI 0)) 113 12 = nI 0 by rw [sI_wI_ne (Or.inr (by decide))]; exact h12), e_if, if_pos (by decide)]
    unfold fX9_isWell_24
    rw [show (-1 : Int32) = mI from rfl, xPI hT1.k, xGIe hT2.k (show sI (wI (wI t 113 10 (nI 0)) 113 11 mI) 113 12 = nI 0 by rw [sI_wI_ne (Or.inr (by decide)), sI_wI_ne (Or.inr (by decide))]; exact h12), e_if, if_pos (by decide)]
    rfl
  refine ⟨u, ?_, e2⟩
  unfold fX9_well_127
  rw [e_callV hT.k, x_call hi, e_if, if_neg (by decide)]
  exact e1
theorem x_endE {k p : Nat} (hT : RT t) (h : RE t k p) : fX9_well_127 113 t = some (mI, wI (wI (wI t 113 10 (nI k)) 113 11 (nI p)) 113 0 (nI 10)) := by
  obtain ⟨r1, r2, r3, r4⟩ := h
  have hT1 : RT (wI t 113 10 (nI k)) := hT.w
  have hT2 : RT (wI (wI t 113 10 (nI k)) 113 11 (nI p)) := hT1.w
  have hi : fX9_isWell 113 t = some (nI 0, wI (wI (wI t 113 10 (nI k)) 113 11 (nI p)) 113 0 (nI 10)) := by
    unfold fX9_isWell
    rw [xGIe hT.k r1, xPI hT.k, xGIe hT1.k (show sI (wI t 113 10 (nI k)) 113 12 = nI k by rw [sI_wI_ne (Or.inr (by decide))]; exact r1), e_if, if_neg (by rw [li_0, eq_i (by omega) (by omega)]; omega), xGIe hT1.k (show sI (wI t 113 10 (nI k)) 113 13 = nI p by rw [sI_wI_ne (Or.inr (by decide))]; exact r2)]
    unfold fX9_isWell_24
    rw [xPI hT1.k, xGIe hT2.k (show sI (wI (wI t 113 10 (nI k)) 113 11 (nI p)) 113 12 = nI k by rw [sI_wI_ne (Or.inr (by decide)), sI_wI_ne (Or.inr (by decide))]; exact r1), e_if, if_neg (by rw [li_0, eq_i (by omega) (by omega)]; omega), e_callV hT2.k]
    unfold fX9_no
    rw [li_10, e_call, xPI hT2.k]
    rfl
  unfold fX9_well_127
  rw [e_callV hT.k, x_call hi, e_if, if_pos (by decide)]
  rfl
end WEND

/-! THE REFERENCE'S END OF A LAW -/
section LEND
variable {t : mS} {C : Nat → Nat} {N a m : Nat} {L : List (List qS3 × Nat)}
theorem x_84 (hT : RT t) {x : Int32} (h31 : sI t 113 31 = x) : ∃ u, fX9_law_84 fu 113 (nI 290) t = some (x, u) ∧ FI (fun c => c = 118) t u ∧ (∀ j, (j < 290 ∨ 860 ≤ j) → sI u 118 j = sI t 118 j) ∧ ∀ i, 290 ≤ i → i < 860 → sI u 118 i = sI t 118 (3440 + i) := by
  have key := loop_s (fun n k => fX9_law_84 n 113 (nI k)) (fun k u => 290 ≤ k ∧ FI (fun c => c = 118) t u ∧ (∀ j, (j < 290 ∨ k ≤ j) → sI u 118 j = sI t 118 j) ∧ ∀ i, 290 ≤ i → i < k → sI u 118 i = sI t 118 (3440 + i)) 860 (fun q => q.1 = x ∧ FI (fun c => c = 118) t q.2 ∧ (∀ j, (j < 290 ∨ 860 ≤ j) → sI q.2 118 j = sI t 118 j) ∧ ∀ i, 290 ≤ i → i < 860 → sI q.2 118 i = sI t 118 (3440 + i)) (fun n k u hk hI => ?_) (fun n u hI => ?_) fu 290 t (by decide) (by unfold fu; omega) ⟨Nat.le_refl _, ⟨fun _ _ => rfl, rfl⟩, fun _ _ => rfl, fun i h1 h2 => absurd h2 (by omega)⟩
  · obtain ⟨⟨y, u⟩, h1, h2, h3⟩ := key
    have h2 : y = x := h2
    subst h2
    exact ⟨u, h1, h3⟩
  · obtain ⟨h29, a1, a2, a3⟩ := hI
    have hTu : RT u := hT.mv a1.2
    refine ⟨wI u 118 k (sI t 118 (3440 + k)), ⟨by omega, a1.tr (FI.w _ _ rfl), fun j hj => ?_, fun i h1 hi => ?_⟩, ?_⟩
    · rw [sI_wI_ne (Or.inr (by omega))]; exact a2 j (by omega)
    · by_cases h0 : i = k
      · rw [h0, sI_wI_eq]
      · rw [sI_wI_ne (Or.inr h0)]; exact a3 i h1 (by omega)
    · show fX9_law_84 (n + 1) 113 (nI k) u = fX9_law_84 n 113 (nI (k + 1)) _
      rw [qX9_law_84, e_if, if_neg (by rw [li_860, le_i (by omega) (by omega)]; omega), rt_c hTu, rt_c hTu, li_3440, nI_add, rt_n hTu (by omega), a2 _ (by omega), rt_cell hTu (by omega), nI_succ1]
  · obtain ⟨-, a1, a2, a3⟩ := hI
    have hTu : RT u := hT.mv a1.2
    refine ⟨(x, u), ?_, rfl, a1, a2, a3⟩
    show fX9_law_84 (n + 1) 113 (nI 860) u = _
    rw [qX9_law_84, e_if, if_pos (by rw [li_860, le_i (by omega) (by omega)]; omega), xGIe hTu.k (show sI u 113 31 = x by rw [a1.1 113 (by decide)]; exact h31)]
    rfl
theorem x_59G (g : RG t C N a) (hr : JLr t L [] m) (hL : lOk L) : ∃ u, fX9_law_59 113 t = some (nI L.length, u) ∧ FI (fun b => b = 113 ∨ b = 118) t u ∧ (∀ j, j ≠ 10 → j ≠ 11 → sI u 113 j = sI t 113 j) ∧ sI u 113 10 = nI 0 ∧ sI u 113 11 = mI ∧ (∀ i, (i < 289 ∨ 860 ≤ i) → sI u 118 i = sI t 118 i) ∧ LaR (fun j => sI u 118 j) L := by
  have hT := g.1.1
  have h12 := g.2.2.2
  have hT1 : RT (wI t 113 10 (nI 0)) := hT.w
  have hT2 : RT (wI (wI t 113 10 (nI 0)) 113 11 mI) := hT1.w
  have h31 : sI (wI (wI t 113 10 (nI 0)) 113 11 mI) 113 31 = nI L.length := by
    rw [sI_wI_ne (Or.inr (by decide)), sI_wI_ne (Or.inr (by decide))]
    exact hr.1
  have hT3 : RT (wI (wI (wI t 113 10 (nI 0)) 113 11 mI) 118 289 (nI L.length)) := hT2.w
  obtain ⟨w, hw⟩ : ∃ w, w = wI (wI (wI t 113 10 (nI 0)) 113 11 mI) 118 289 (nI L.length) := ⟨_, rfl⟩
  rw [← hw] at hT3
  have hw31 : sI w 113 31 = nI L.length := by
    rw [hw, sI_wI_ne (Or.inl (by decide))]
    exact h31
  have hw118 : ∀ i, i ≠ 289 → sI w 118 i = sI t 118 i := fun i hi => by
    rw [hw, sI_wI_ne (Or.inr hi), sI_wI_ne (Or.inl (by decide)), sI_wI_ne (Or.inl (by decide))]
  obtain ⟨u, e1, e2, e3, e4⟩ := x_84 hT3 hw31
  have hi : fX9_isWell 113 t = some (nI 1, wI (wI t 113 10 (nI 0)) 113 11 mI) := by
    unfold fX9_isWell
    rw [xGIe hT.k h12, xPI hT.k, xGIe hT1.k (show sI (wI t 113 10 (nI 0)) 113 12 = nI 0 by rw [sI_wI_ne (Or.inr (by decide))]; exact h12), e_if, if_pos (by decide)]
    unfold fX9_isWell_24
    rw [show (-1 : Int32) = mI from rfl, xPI hT1.k, xGIe hT2.k (show sI (wI (wI t 113 10 (nI 0)) 113 11 mI) 113 12 = nI 0 by rw [sI_wI_ne (Or.inr (by decide)), sI_wI_ne (Or.inr (by decide))]; exact h12), e_if, if_pos (by decide)]
    rfl
  have hu : ∀ i, 290 ≤ i → i < 860 → sI u 118 i = sI t 118 (3440 + i) := fun i h1 h2 => by
    rw [e4 i h1 h2, hw118 _ (by omega)]
  obtain ⟨b1, b2, b3, b4, b5⟩ := hr
  rw [List.append_nil] at b2 b4
  obtain ⟨l1, l2, l3⟩ := hL
  have hb108 : (lAll L).length ≤ 120 := l2
  refine ⟨u, ?_, ?_, fun j h1 h2 => ?_, ?_, ?_, fun i hi => ?_, ?_, fun k hk => ?_, fun j hj => ?_⟩
  · unfold fX9_law_59
    rw [e_callV hT.k, x_call hi, e_if, if_neg (by decide), rt_c hT2, xGIe hT2.k h31, li_289, rt_cell hT2 (by decide), li_290, ← hw]
    exact e1
  · have f1 : FI (fun b => b = 113 ∨ b = 118) t w := by
      rw [hw]
      exact ((FI.w (A := fun b => b = 113 ∨ b = 118) _ _ (Or.inl rfl)).tr (FI.w (A := fun b => b = 113 ∨ b = 118) _ _ (Or.inl rfl))).tr (FI.w (A := fun b => b = 113 ∨ b = 118) _ _ (Or.inr rfl))
    exact f1.tr (e2.mo fun b hb => Or.inr hb)
  · rw [e2.1 113 (by decide), hw, sI_wI_ne (Or.inl (by decide)), sI_wI_ne (Or.inr h2), sI_wI_ne (Or.inr h1)]
  · rw [e2.1 113 (by decide), hw, sI_wI_ne (Or.inl (by decide)), sI_wI_ne (Or.inr (by decide)), sI_wI_eq]
  · rw [e2.1 113 (by decide), hw, sI_wI_ne (Or.inl (by decide)), sI_wI_eq]
  · rw [e3 i (by omega), hw118 i (by omega)]
  · show sI u 118 289 = _
    rw [e3 289 (by omega), hw, sI_wI_eq]
  · show sI u 118 (290 + k) = _ ∧ sI u 118 (302 + k) = _ ∧ sI u 118 (314 + k) = _
    rw [hu _ (by omega) (by omega), hu _ (by omega) (by omega), hu _ (by omega) (by omega), show 3440 + (290 + k) = 3730 + k by omega, show 3440 + (302 + k) = 3742 + k by omega, show 3440 + (314 + k) = 3754 + k by omega]
    exact b5 k hk
  · show sI u 118 (326 + 4 * j) = _ ∧ sI u 118 (326 + 4 * j + 1) = _ ∧ sI u 118 (326 + 4 * j + 2) = _
    rw [hu _ (by omega) (by omega), hu _ (by omega) (by omega), hu _ (by omega) (by omega), show 3440 + (326 + 4 * j) = 3766 + 4 * j by omega, show 3440 + (326 + 4 * j + 1) = 3766 + 4 * j + 1 by omega, show 3440 + (326 + 4 * j + 2) = 3766 + 4 * j + 2 by omega]
    exact b4 j hj
theorem x_59E {k p : Nat} (hT : RT t) (h : RE t k p) : fX9_law_59 113 t = some (mI, wI (wI (wI t 113 10 (nI k)) 113 11 (nI p)) 113 0 (nI 10)) := by
  obtain ⟨r1, r2, r3, r4⟩ := h
  have hT1 : RT (wI t 113 10 (nI k)) := hT.w
  have hT2 : RT (wI (wI t 113 10 (nI k)) 113 11 (nI p)) := hT1.w
  have hi : fX9_isWell 113 t = some (nI 0, wI (wI (wI t 113 10 (nI k)) 113 11 (nI p)) 113 0 (nI 10)) := by
    unfold fX9_isWell
    rw [xGIe hT.k r1, xPI hT.k, xGIe hT1.k (show sI (wI t 113 10 (nI k)) 113 12 = nI k by rw [sI_wI_ne (Or.inr (by decide))]; exact r1), e_if, if_neg (by rw [li_0, eq_i (by omega) (by omega)]; omega), xGIe hT1.k (show sI (wI t 113 10 (nI k)) 113 13 = nI p by rw [sI_wI_ne (Or.inr (by decide))]; exact r2)]
    unfold fX9_isWell_24
    rw [xPI hT1.k, xGIe hT2.k (show sI (wI (wI t 113 10 (nI k)) 113 11 (nI p)) 113 12 = nI k by rw [sI_wI_ne (Or.inr (by decide)), sI_wI_ne (Or.inr (by decide))]; exact r1), e_if, if_neg (by rw [li_0, eq_i (by omega) (by omega)]; omega), e_callV hT2.k]
    unfold fX9_no
    rw [li_10, e_call, xPI hT2.k]
    rfl
  unfold fX9_law_59
  rw [e_callV hT.k, x_call hi, e_if, if_pos (by decide)]
  rfl
end LEND

/-! TRAYS: the frame -/
abbrev bB : Nat → Prop := fun b => b = 1 ∨ b = 3 ∨ (98 ≤ b ∧ b ≤ 112)
theorem CP.upB {s t : mS} {D : dD} (h : CP s D) (n : dN) (Tp : Nat → Int32) (T : Nat → Nat × Option Nat × (Nat → Int64)) (hF : FR bB s t) (hP : sP t = sP s) (hn : CN t n) (hm : nMk n = nMk (dNn D)) (hm3 : nMk n ≤ 3) (hT : ∀ k, k < nTl n → sI t 3 k = Tp k) (hCT : CT t T) : CP t (n, Tp, T, dW D, dM D) := by
  obtain ⟨hS, hN, hTp, hTr, hc, hw, ⟨m1, ⟨mn, m2, m2'⟩, m3, m4, m5, m6, m7⟩⟩ := h
  have hH := hF.2.1
  have eZ := hF.2.2.1
  have g : ∀ b, (4 ≤ b ∧ b < 98) ∨ 112 < b → sI t b = sI s b := fun b hb => (hF.1 b (by show ¬ (_ ∨ _ ∨ (_ ∧ _)); omega)).1
  have hL : ∀ b, LwA s b → LwA t b := by
    intro b hb
    unfold LwA cM cF at hb ⊢
    rw [hP, eZ]
    exact hb
  have hcw : ∀ a W, (a = 4 ∨ 124 < a) → CW s a W → LwA s (sP s a 16) → CW t a W := by
    intro a W ha hca hla
    refine hca.mv (fun b _ => by rw [hH]) (fun b hb => ⟨g b ?_, by rw [hP]⟩) (fun h0 => ?_)
    · have h1 := hb.1
      have h2 := hb.2
      omega
    · have h1 : 124 < sP s a 16 := by
        rcases hla with hl | hl
        · exact absurd hl h0
        · exact hl.1
      exact ⟨by rw [hH], by rw [hH], g _ (by omega), g _ (by omega), by rw [hP]⟩
  refine ⟨hS.mv (fun b _ => by rw [hH]) (fun b j _ _ _ _ _ => by rw [hP]), hn, hT, hCT, hcw 4 _ (Or.inl rfl) hc m4, hw.mvP2 (fun b _ => by rw [hH]) (fun b _ j _ => by rw [hP]), ⟨by rw [eZ]; exact m1, ⟨mn, by unfold cF; rw [hP, hH]; exact m2, m2'⟩, ?_, by rw [hP]; exact hL _ m4, fun i hi h0 => ?_, fun i j hij hj h0 => ?_, fun i hi => ?_⟩⟩
  · unfold cM cF at m3 ⊢
    rw [hP, eZ]
    exact m3
  · unfold cM at h0 ⊢
    rw [hP] at h0 ⊢
    obtain ⟨k1, k2, k3⟩ := m5 i hi h0
    exact ⟨k1, by rw [eZ]; exact k2, k3.mvP2 (fun b _ => by rw [hH]) (fun b _ j _ => by rw [hP])⟩
  · unfold cM at h0 ⊢
    rw [hP] at h0 ⊢
    exact m6 i j hij hj h0
  · have hi : i < nMk n := hi
    rw [hm] at hi
    obtain ⟨k1, k2, k3⟩ := m7 i hi
    unfold cM at k1 k2 k3 ⊢
    rw [hP]
    exact ⟨k1, hcw _ _ (Or.inr (m5 i (by omega) k1).1) k2 k3, hL _ k3⟩
theorem RP.upB {s t : mS} {D : dD} (h : RP s D) (n : dN) (Tp : Nat → Int32) (T : Nat → Nat × Option Nat × (Nat → Int64)) (hH : sH t = sH s) (hP : sP t = sP s) (h18 : sI t 118 = sI s 118) (hn : RN t n) (hm : nMk n = nMk (dNn D)) (hT : ∀ k, k < nTl n → sI t 117 k = Tp k) (hRT : RTr t T) : RP t (n, Tp, T, dW D, dM D) := by
  obtain ⟨hX, hN, hTp, hTr, hM⟩ := h
  refine ⟨hX.mv hH hP h18, hn, hT, hRT, fun i hi => ?_⟩
  have hi : i < nMk n := hi
  rw [hm] at hi
  rw [h18]
  exact hM i hi
theorem bB_c {s t : mS} (hF : FR bB s t) : FC s t := hF.c fun b hb hr => by
  have h1 : 113 ≤ b := hr.1
  rcases hb with hb | hb | hb <;> omega

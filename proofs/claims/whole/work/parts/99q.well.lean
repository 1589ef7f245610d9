/-! THE CALL WELL -/
section WELL
variable {s t v w : mS} {D : dD} {W : wW} {N : Nat}
theorem RP.upW {t u : mS} {D : dD} (h : RP t D) (n : dN) (W : wW) (hn : RN u n) (hm : nMk n = nMk (dNn D)) (hm3 : nMk (dNn D) ≤ 3) (ht : nTl n = 0) (hX : RX u W) (h14 : sI u 114 = sI t 114) (h15 : sI u 115 = sI t 115) (h16 : sL u 116 = sL t 116) (hmk : ∀ i, 860 ≤ i → i < 3440 → sI u 118 i = sI t 118 i) : RP u (n, dTp D, dTr D, W, dM D) := by
  obtain ⟨hX0, hN, hTp, hTr, hM⟩ := h
  refine ⟨hX, hn, fun k hk => ?_, fun k hk => ?_, fun i hi => ?_⟩
  · have hk : k < nTl n := hk
    omega
  · rw [h14, h15, h16]
    exact hTr k hk
  · have hi : i < nMk n := hi
    rw [hm] at hi
    exact (hM i hi).cong fun j hj => hmk _ (by omega) (by omega)
abbrev dWl (D : dD) (k : Nat) (a b : Int32) (W : wW) : dD := ((k, nFt (dNn D), nFb (dNn D), a, b, 0, nMk (dNn D)), dTp D, dTr D, W, dM D)
theorem dWl_ok (hD : DOk D) {k : Nat} (hk : k < 12) (a b : Int32) (W : wW) : DOk (dWl D k a b W) := ⟨hk, ⟨Nat.zero_le _, fun j hj => absurd hj (by show ¬ j < 0; omega)⟩, hD.2.2⟩
theorem k_note (hS : CS v) : fX8_noteFault 1 106 v = some ((), wI (wI v 1 14 (sI v 106 7)) 1 15 (sI v 106 8)) := by
  have hS1 : CS (wI v 1 14 (sI v 106 7)) := hS.w
  unfold fX8_noteFault
  rw [xGI hS.k106, xPI hS.1.1, xGI hS1.k106, xPI hS1.1.1, sI_wI_ne (Or.inl (by decide))]
  rfl
/-- the cells a text may write -/
abbrev aW : Nat → Prop := fun b => b = 1 ∨ (4 ≤ b ∧ b < 92) ∨ (106 ≤ b ∧ b ≤ 112)
theorem aW_c (h : FR aW s t) : FC s t := h.c fun b hb hr => by
  have h1 : 113 ≤ b := hr.1
  have hb : b = 1 ∨ (4 ≤ b ∧ b < 92) ∨ (106 ≤ b ∧ b ≤ 112) := hb
  omega
theorem fr_p (x : Nat) : FR aW s (wP s 48 16 x) := ⟨fun b hb => ⟨rfl, rfl, by
  funext j
  rw [sP_wP, if_neg (fun e => hb (by rw [e.1]; exact Or.inr (Or.inl ⟨by decide, by decide⟩)))]⟩, rfl, rfl, rfl⟩
theorem a48_W {b : Nat} (h : a48 b) : aW b := by
  rcases h with h | h
  · exact Or.inr (Or.inr ⟨by omega, by omega⟩)
  · exact Or.inr (Or.inl ⟨by omega, by omega⟩)
theorem FW.fr (h : FW t v) : FR rfA t v := by
  obtain ⟨h1, h2, h3, h4, h5, h6, h7, h8, h9⟩ := h
  exact ⟨fun b hb => ⟨h5 b (fun e => hb (by rw [e]; exact ⟨by decide, by decide⟩)) (fun e => hb (by rw [e]; exact ⟨by decide, by decide⟩)), h8 b (fun e => hb (by rw [e]; exact ⟨by decide, by decide⟩)) (fun e => hb (by rw [e]; exact ⟨by decide, by decide⟩)), by rw [h1]⟩, h2, h3, h4⟩
theorem x00_fr : FR rfA t (x00 t N) := (fr_q0 t).tr ((((fr113 9 _).tr (fr113 8 _)).tr (fr113 16 _)).tr (fr113 12 _))
theorem x00_I {j : Nat} (h0 : j ≠ 0) (h1 : j ≠ 1) (h8 : j ≠ 8) (h9 : j ≠ 9) (h12 : j ≠ 12) (h16 : j ≠ 16) : sI (x00 t N) 113 j = sI t 113 j := by
  unfold x00 opX
  rw [sI_wI_ne (Or.inr h12), sI_wI_ne (Or.inr h16), sI_wI_ne (Or.inr h8), sI_wI_ne (Or.inr h9), sI_wI_ne (Or.inr h0), sI_wI_ne (Or.inr h1)]
theorem x00_b {b : Nat} (h : b ≠ 113) : sI (x00 t N) b = sI t b := by
  funext j
  unfold x00 opX
  rw [sI_wI_ne (Or.inl h), sI_wI_ne (Or.inl h), sI_wI_ne (Or.inl h), sI_wI_ne (Or.inl h), sI_wI_ne (Or.inl h), sI_wI_ne (Or.inl h)]
theorem x00_0 : sI (x00 t N) 113 0 = nI 0 ∧ sI (x00 t N) 113 8 = nI 0 := by
  unfold x00 opX
  refine ⟨?_, ?_⟩
  · rw [sI_wI_ne (Or.inr (by decide)), sI_wI_ne (Or.inr (by decide)), sI_wI_ne (Or.inr (by decide)), sI_wI_ne (Or.inr (by decide)), sI_wI_eq]
  · rw [sI_wI_ne (Or.inr (by decide)), sI_wI_ne (Or.inr (by decide)), sI_wI_eq]
/-- the reference's numbers after a text -/
theorem RN.wl {n : dN} (h : RN t n) (hF : FW (x00 t N) v) (k : Nat) (a b : Int32) (hu1 : ∀ j, j ≠ 0 → j ≠ 10 → j ≠ 11 → sI w 113 j = sI v 113 j) (hu0 : sI w 113 0 = nI k) (hua : sI w 113 10 = a) (hub : sI w 113 11 = b) (hL : sL w = sL v) : RN w (k, nFt n, nFb n, a, b, 0, nMk n) := by
  obtain ⟨h1, h2, h3, h4, h5, h6, h7⟩ := h
  refine ⟨hu0, ?_, ?_, hua, hub, ?_, ?_⟩
  · rw [hL, hF.2.2.2.2.2.2.2.2 2 (by decide)]; exact h2
  · rw [hL, hF.2.2.2.2.2.2.2.2 3 (by decide)]; exact h3
  · rw [hu1 8 (by decide) (by decide) (by decide), hF.2.2.2.2.2.1 8 (by omega)]; exact x00_0.2
  · rw [hu1 28 (by decide) (by decide) (by decide), hF.2.2.2.2.2.1 28 (by omega), x00_I (by decide) (by decide) (by decide) (by decide) (by decide) (by decide)]; exact h7
theorem CN.wl {n : dN} (h : CN s n) (h1 : FR (fun b => b ≠ 1) (wI s 1 2 (nI 0)) v) (k : Nat) (a b : Int32) : CN (wI (wI (wI v 1 14 a) 1 15 b) 1 11 (nI k)) (k, nFt n, nFb n, a, b, 0, nMk n) := by
  obtain ⟨c1, c2, c3, c4, c5, c6, c7⟩ := h
  obtain ⟨g1, g2, -⟩ := h1.1 1 (by intro h; exact h rfl)
  refine ⟨sI_wI_eq _ _ _ _, ?_, ?_, ?_, ?_, ?_, ?_⟩
  · show sL v 1 12 = _
    rw [g2]; exact c2
  · show sL v 1 13 = _
    rw [g2]; exact c3
  · rw [sI_wI_ne (Or.inr (by decide)), sI_wI_ne (Or.inr (by decide)), sI_wI_eq]
  · rw [sI_wI_ne (Or.inr (by decide)), sI_wI_eq]
  · rw [sI_wI_ne (Or.inr (by decide)), sI_wI_ne (Or.inr (by decide)), sI_wI_ne (Or.inr (by decide)), g1, sI_wI_eq]
  · rw [sI_wI_ne (Or.inr (by decide)), sI_wI_ne (Or.inr (by decide)), sI_wI_ne (Or.inr (by decide)), g1, sI_wI_ne (Or.inr (by decide))]; exact c7
end WELL

/-! THE OBJECT AFTER A TEXT WAS READ -/
theorem CP.upW {s t : mS} {D : dD} (h : CP s D) (n : dN) (W : wW) {A : Nat → Prop} (hF : FR A s t) (hA : ∀ b, A b → b = 1 ∨ (4 ≤ b ∧ b < 92) ∨ (106 ≤ b ∧ b ≤ 112)) (hP1 : ∀ b j, (b < 4 ∨ 92 ≤ b) → sP t b j = sP s b j) (h16 : LwA s (sP t 4 16)) (hn : CN t n) (hm : nMk n = nMk (dNn D)) (hm3 : nMk (dNn D) ≤ 3) (ht : nTl n ≤ nTl (dNn D)) (hW : CW t 4 W) (h48 : WoS t 48) : CP t (n, dTp D, dTr D, W, dM D) := by
  obtain ⟨hS, hN, hTp, hTr, hc, hw, ⟨m1, ⟨mn, m2, m2'⟩, m3, m4, m5, m6, m7⟩⟩ := h
  have hH := hF.2.1
  have hsame : ∀ b, b ≠ 1 → ¬ (4 ≤ b ∧ b < 92) → ¬ (106 ≤ b ∧ b ≤ 112) → sI t b = sI s b ∧ sL t b = sL s b ∧ sP t b = sP s b := fun b h1 h2 h3 => hF.1 b (fun ha => by have := hA b ha; omega)
  have eF : cF t = cF s := hP1 93 5 (by decide)
  have eM : ∀ i, cM t i = cM s i := fun i => hP1 92 i (by decide)
  have eZ := hF.2.2.1
  have hL : ∀ b, LwA s b → LwA t b := by
    rintro b (hb | ⟨b1, b2, b3, b4, b5⟩)
    · exact Or.inl hb
    · refine Or.inr ⟨b1, by rw [eZ]; exact b2, by rw [eF]; exact b3, by rw [eF]; exact b4, fun i hi => ?_⟩
      rw [eM]
      exact b5 i hi
  have hhi : ∀ b, 112 < b → sI t b = sI s b ∧ sP t b = sP s b := fun b hb => by
    have := hsame b (by omega) (by omega) (by omega)
    exact ⟨this.1, this.2.2⟩
  refine ⟨hS.mv (fun b _ => by rw [hH]) (fun b j hb h92 h93 h16' hw' => hP1 b j hw'), hn, fun k hk => ?_, fun k hk => ?_, hW, h48, ⟨by rw [eZ]; exact m1, ⟨mn, by rw [eF, hH]; exact m2, m2'⟩, ?_, hL _ h16, fun i hi h0 => ?_, fun i j hij hj h0 => ?_, fun i hi => ?_⟩⟩
  · have hk : k < nTl n := hk
    rw [(hsame 3 (by decide) (by omega) (by omega)).1]
    exact hTp k (by omega)
  · obtain ⟨t1, t2, t3⟩ := hTr k hk
    have g1 := hsame (98 + 2 * k) (by omega) (by omega) (by omega)
    have g2 := hsame (99 + 2 * k) (by omega) (by omega) (by omega)
    rw [g1.1, g2.2.1]
    exact ⟨t1, t2, t3⟩
  · rw [eF]
    rcases m3 with m3 | ⟨m31, m32, m33⟩
    · exact Or.inl m3
    · refine Or.inr ⟨m31, by rw [eZ]; exact m32, fun i hi => ?_⟩
      rw [eM]
      exact m33 i hi
  · rw [eM] at h0 ⊢
    obtain ⟨k1, k2, k3⟩ := m5 i hi h0
    exact ⟨k1, by rw [eZ]; exact k2, k3.mvP2 (fun b _ => by rw [hH]) (fun b hb j _ => by rw [(hhi b (by have := hb.1; omega)).2])⟩
  · rw [eM] at h0 ⊢
    rw [eM]
    exact m6 i j hij hj h0
  · have hi : i < nMk n := hi
    rw [hm] at hi
    obtain ⟨k1, k2, k3⟩ := m7 i hi
    have hk5 : 124 < cM s i := (m5 i (by omega) k1).1
    refine ⟨by rw [eM]; exact k1, ?_, ?_⟩
    · rw [eM]
      refine k2.mv (fun b _ => by rw [hH]) (fun b hb => hhi b (by have := hb.1; omega)) (fun h0 => ?_)
      have hl : 124 < sP s (cM s i) 16 := by
        rcases k3 with hl | hl
        · exact absurd hl h0
        · exact hl.1
      exact ⟨by rw [hH], by rw [hH], (hhi _ (by omega)).1, (hhi _ (by omega)).1, (hhi _ (by omega)).2⟩
    · rw [eM, (hhi _ (by omega)).2]
      exact hL _ k3

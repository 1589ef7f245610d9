/-! MARKS -/
theorem LwA.gw {s t : mS} {k w b : Nat} (h : LwA s b) (hG : Gw s t k w) (hz : 124 ≤ sZ s) : LwA t b := by
  have e92 := (hG.1 92 (by omega)).2.2.1
  have e93 := (hG.1 93 (by omega)).2.2.1
  have hz2 := hG.2.1
  rcases h with h | ⟨h1, h2, h3, h4, h5⟩
  · exact Or.inl h
  · unfold cF cM at *
    refine Or.inr ⟨h1, by omega, ?_, ?_, fun i hi => ?_⟩
    · show b + 1 ≠ sP t 93 5
      rw [e93]; exact h3
    · show b ≠ sP t 93 5
      rw [e93]; exact h4
    · show sP t 92 i ≠ 0 → ¬ wA (sP t 92 i) b ∧ ¬ wA (sP t 92 i) (b + 1)
      rw [e92]; exact h5 i hi
theorem WoS.gw {s t : mS} {k w a : Nat} (h : WoS s a) (hG : Gw s t k w) (ha : a + 43 ≤ sZ s) : WoS t a :=
  h.mvP2 (fun b hb => (hG.1 b (by have := hb.2; omega)).2.2.2) (fun b hb i _ => by rw [(hG.1 b (by have := hb.2; omega)).2.2.1])
theorem CW.gw {s t : mS} {k w a : Nat} {W : wW} (h : CW s a W) (hG : Gw s t k w) (ha : a + 43 ≤ sZ s) (hl : LwA s (sP s a 16)) : CW t a W := by
  refine h.mv (fun b hb => (hG.1 b (by have := hb.2; omega)).2.2.2) (fun b hb => ?_) (fun h0 => ?_)
  · have q := hG.1 b (by have := hb.2; omega)
    exact ⟨q.1, q.2.2.1⟩
  · rcases hl with hl | ⟨h1, h2, -⟩
    · exact absurd hl h0
    · have q1 := hG.1 (sP s a 16) (by omega)
      have q2 := hG.1 (sP s a 16 + 1) (by omega)
      exact ⟨q1.2.2.2, q2.2.2.2, q1.1, q2.1, q1.2.2.1⟩
theorem CP.gw {s t : mS} {D : dD} {k w : Nat} (h : CP s D) (hG : Gw s t k w) (hmk : nMk (dNn D) ≤ 3) : CP t D := by
  obtain ⟨hS, hN, hTp, hTr, hc, hw, ⟨m1, ⟨mn, m2, m2'⟩, m3, m4, m5, m6, m7⟩⟩ := h
  have g := hG.1
  have hz := hG.2.1
  have e92 := (g 92 (by omega)).2.2.1
  have e93 := (g 93 (by omega)).2.2.1
  have e4 := (g 4 (by omega)).2.2.1
  have hcf : cF s ≤ sZ s := by
    rcases m3 with m3 | m3
    · omega
    · exact m3.2.1
  refine ⟨hS.mv (fun b hb => (g b (by omega)).2.2.2) (fun b j hb _ _ _ _ => by rw [(g b (by omega)).2.2.1]), hN.mv (g 1 (by omega)).1 (g 1 (by omega)).2.1, fun k hk => by rw [(g 3 (by omega)).1]; exact hTp k hk, fun k hk => by rw [(g (98 + 2 * k) (by omega)).1, (g (99 + 2 * k) (by omega)).2.1]; exact hTr k hk, hc.gw hG (by omega) m4, hw.gw hG (by omega), ⟨by omega, ⟨mn, ?_, m2'⟩, ?_, by rw [e4]; exact m4.gw hG m1, fun i hi h0 => ?_, fun i j hij hj h0 => ?_, fun i hi => ?_⟩⟩
  · unfold cF at m2 hcf ⊢
    rw [e93, (g _ hcf).2.2.2]
    exact m2
  · unfold cF cM at m3 ⊢
    rw [e93, e92]
    rcases m3 with m3 | m3
    · exact Or.inl m3
    · exact Or.inr ⟨m3.1, by omega, m3.2.2⟩
  · unfold cM at h0 ⊢
    rw [e92] at h0 ⊢
    obtain ⟨k1, k2, k3⟩ := m5 i hi h0
    have k2' : sP s 92 i + 43 ≤ sZ s := k2
    exact ⟨k1, by omega, k3.gw hG k2⟩
  · unfold cM at h0 ⊢
    rw [e92] at h0 ⊢
    exact m6 i j hij hj h0
  · obtain ⟨k1, k2, k3⟩ := m7 i hi
    have hi : i < nMk (dNn D) := hi
    have hi3 : i < 3 ∨ 3 ≤ i := by omega
    unfold cM at k1 k2 k3 ⊢
    rw [e92]
    rcases hi3 with hi3 | hi3
    · obtain ⟨j1, j2, j3⟩ := m5 i hi3 k1
      refine ⟨k1, k2.gw hG j2 k3, ?_⟩
      rw [(g _ (show sP s 92 i ≤ sZ s by unfold cM at j2; omega)).2.2.1]
      exact k3.gw hG m1
    · exact absurd hi3 (by omega)
theorem CP.upM {s t : mS} {D : dD} (h : CP s D) (n : dN) (W : wW) (M : Nat → wW) {A : Nat → Prop} (hF : FR A s t) (hA : ∀ b, A b → b = 1 ∨ wA 4 b ∨ 124 < b) (hP1 : sP t 1 = sP s 1) (hWo : ∀ i, i < 3 → cM s i ≠ 0 → WoS t (cM s i)) (hn : CN t n) (ht : nTl n = nTl (dNn D)) (hW : CW t 4 W) (hl : LwA s (sP t 4 16)) (hm : ∀ i, i < nMk n → cM s i ≠ 0 ∧ CW t (cM s i) (M i) ∧ LwA s (sP t (cM s i) 16)) : CP t (n, dTp D, dTr D, W, M) := by
  obtain ⟨hS, hN, hTp, hTr, hc, hw, ⟨m1, ⟨mn, m2, m2'⟩, m3, m4, m5, m6, m7⟩⟩ := h
  have hH := hF.2.1
  have eZ := hF.2.2.1
  have g : ∀ b, b ≤ 124 → b ≠ 1 → ¬ wA 4 b → sI t b = sI s b ∧ sL t b = sL s b ∧ sP t b = sP s b := fun b h1 h2 h3 => hF.1 b (fun ha => by
    rcases hA b ha with h | h | h
    · exact h2 h
    · exact h3 h
    · omega)
  have eF : cF t = cF s := by
    show sP t 93 5 = sP s 93 5
    rw [(g 93 (by omega) (by omega) (by show ¬ (_ ∧ _); omega)).2.2]
  have eM : ∀ i, cM t i = cM s i := fun i => by
    show sP t 92 i = sP s 92 i
    rw [(g 92 (by omega) (by omega) (by show ¬ (_ ∧ _); omega)).2.2]
  have hL : ∀ b, LwA s b → LwA t b := by
    rintro b (hb | ⟨b1, b2, b3, b4, b5⟩)
    · exact Or.inl hb
    · refine Or.inr ⟨b1, by rw [eZ]; exact b2, by rw [eF]; exact b3, by rw [eF]; exact b4, fun i hi => ?_⟩
      rw [eM]
      exact b5 i hi
  refine ⟨hS.mv (fun b _ => by rw [hH]) (fun b j hb _ _ _ hb4 => ?_), hn, fun k hk => ?_, fun k hk => ?_, hW, ?_, ⟨by rw [eZ]; exact m1, ⟨mn, by rw [eF, hH]; exact m2, m2'⟩, ?_, hL _ hl, fun i hi h0 => ?_, fun i j hij hj h0 => ?_, fun i hi => ?_⟩⟩
  · by_cases hb1 : b = 1
    · rw [hb1, hP1]
    · rw [(g b (by omega) hb1 (by show ¬ (_ ∧ _); omega)).2.2]
  · have hk : k < nTl n := hk
    rw [ht] at hk
    rw [(g 3 (by omega) (by omega) (by show ¬ (_ ∧ _); omega)).1]
    exact hTp k hk
  · rw [(g (98 + 2 * k) (by omega) (by omega) (by show ¬ (_ ∧ _); omega)).1, (g (99 + 2 * k) (by omega) (by omega) (by show ¬ (_ ∧ _); omega)).2.1]
    exact hTr k hk
  · exact hw.mvP2 (fun b _ => by rw [hH]) (fun b hb j _ => by
      have h1 := hb.1
      have h2 := hb.2
      rw [(g b (by omega) (by omega) (by show ¬ (_ ∧ _); omega)).2.2])
  · rw [eF]
    rcases m3 with m3 | ⟨m31, m32, m33⟩
    · exact Or.inl m3
    · refine Or.inr ⟨m31, by rw [eZ]; exact m32, fun i hi => ?_⟩
      rw [eM]
      exact m33 i hi
  · rw [eM] at h0 ⊢
    obtain ⟨k1, k2, k3⟩ := m5 i hi h0
    exact ⟨k1, by rw [eZ]; exact k2, hWo i hi h0⟩
  · rw [eM] at h0
    obtain ⟨k1, k2⟩ := m6 i j hij hj h0
    exact ⟨by rw [eM]; exact k1, by rw [eM, eM]; exact k2⟩
  · obtain ⟨k1, k2, k3⟩ := hm i hi
    rw [eM]
    exact ⟨k1, k2, hL _ k3⟩
/-- a new world is told in the row of marks -/
theorem CP.nw {s t : mS} {D : dD} (h : CP s D) (hm3 : nMk (dNn D) < 3) (h0 : cM s (nMk (dNn D)) = 0) (hG : Gw s t 44 353) (hW : WoS t (sZ s + 1)) : CP (wP t 92 (nMk (dNn D)) (sZ s + 1)) D := by
  have h2 := h.gw hG (by omega)
  have hz := hG.2.1
  obtain ⟨hS0, -, -, -, -, -, ⟨m1, -, m3, m4, m5, m6, m7⟩⟩ := h
  obtain ⟨hS, hN, hTp, hTr, hc, hw, ⟨n1, ⟨mn, n2, n2'⟩, n3, n4, n5, n6, n7⟩⟩ := h2
  have e92 := (hG.1 92 (by omega)).2.2.1
  have e93 := (hG.1 93 (by omega)).2.2.1
  have e4 := (hG.1 4 (by omega)).2.2.1
  obtain ⟨nm, hnm⟩ : ∃ nm, nm = nMk (dNn D) := ⟨_, rfl⟩
  rw [← hnm] at hm3 h0 m7 n7 ⊢
  have eP : ∀ b, b ≠ 92 → sP (wP t 92 nm (sZ s + 1)) b = sP t b := fun b hb => by
    funext i; rw [sP_wP, if_neg (by omega)]
  have eMn : cM (wP t 92 nm (sZ s + 1)) nm = sZ s + 1 := by
    show sP (wP t 92 nm (sZ s + 1)) 92 nm = _
    rw [sP_wP, if_pos ⟨rfl, rfl⟩]
  have eMo : ∀ i, i ≠ nm → cM (wP t 92 nm (sZ s + 1)) i = cM s i := fun i hi => by
    show sP (wP t 92 nm (sZ s + 1)) 92 i = sP s 92 i
    rw [sP_wP, if_neg (by omega), e92]
  have eMt : ∀ i, cM t i = cM s i := fun i => by
    show sP t 92 i = sP s 92 i
    rw [e92]
  have eF : cF (wP t 92 nm (sZ s + 1)) = cF s := by
    show sP (wP t 92 nm (sZ s + 1)) 93 5 = sP s 93 5
    rw [eP 93 (by omega), e93]
  have hbig : ∀ j, nm < j → j < 3 → cM s j = 0 := fun j h1 h2 => by
    rcases Nat.eq_zero_or_pos (cM s j) with h | h
    · exact h
    · exact absurd h0 (m6 nm j h1 h2 (by omega)).1
  have hL : ∀ b, LwA s b → LwA (wP t 92 nm (sZ s + 1)) b := by
    rintro b (hb | ⟨b1, b2, b3, b4, b5⟩)
    · exact Or.inl hb
    · refine Or.inr ⟨b1, by show b + 1 ≤ sZ t; omega, by rw [eF]; exact b3, by rw [eF]; exact b4, fun i hi hc => ?_⟩
      by_cases hin : i = nm
      · rw [hin, eMn]
        exact ⟨fun hb => by have := hb.1; omega, fun hb => by have := hb.1; omega⟩
      · rw [eMo i hin] at hc ⊢
        exact b5 i hi hc
  have hcw : ∀ a X, CW t a X → (∀ b, wA a b → b ≠ 92) → LwA s (sP t a 16) → CW (wP t 92 nm (sZ s + 1)) a X := fun a X hx ha hl => by
    refine hx.mv (fun _ _ => rfl) (fun b hb => ⟨rfl, eP b (ha b hb)⟩) (fun hn0 => ⟨rfl, rfl, rfl, rfl, ?_⟩)
    rcases hl with hl | hl
    · exact absurd hl hn0
    · exact eP _ (by have := hl.1; omega)
  refine ⟨hS.mv (fun _ _ => rfl) (fun b j _ hb _ _ _ => by rw [eP b hb]), hN, hTp, hTr, hcw 4 _ hc (fun b hb => by have := hb.2; omega) (by rw [e4]; exact m4), hw.mvP2 (fun _ _ => rfl) (fun b hb j _ => by rw [eP b (by have := hb.1; have := hb.2; omega)]), ⟨n1, ⟨mn, ?_, n2'⟩, ?_, ?_, fun i hi hc => ?_, fun i j hij hj hc => ?_, fun i hi => ?_⟩⟩
  · have n2 : sH t (cF t) = (11, mn) := n2
    rw [eF]
    rw [show cF t = cF s by show sP t 93 5 = sP s 93 5; rw [e93]] at n2
    exact n2
  · rw [eF]
    rcases m3 with m3 | ⟨m31, m32, m33⟩
    · exact Or.inl m3
    · refine Or.inr ⟨m31, by show cF s ≤ sZ t; omega, fun i hi hc => ?_⟩
      by_cases hin : i = nm
      · rw [hin, eMn]
        exact fun hb => by have := hb.1; omega
      · rw [eMo i hin] at hc ⊢
        exact m33 i hi hc
  · rw [eP 4 (by omega), e4]
    exact hL _ m4
  · by_cases hin : i = nm
    · rw [hin, eMn]
      exact ⟨by omega, by show sZ s + 1 + 43 ≤ sZ t; omega, hW.mvP2 (fun _ _ => rfl) (fun b hb j _ => by rw [eP b (by have := hb.1; omega)])⟩
    · rw [eMo i hin] at hc ⊢
      obtain ⟨k1, k2, k3⟩ := n5 i hi (by rw [eMt]; exact hc)
      rw [eMt] at k1 k2 k3
      exact ⟨k1, k2, k3.mvP2 (fun _ _ => rfl) (fun b hb j _ => by rw [eP b (by have := hb.1; omega)])⟩
  · by_cases hjn : j = nm
    · subst hjn
      obtain ⟨q1, -, -⟩ := m7 i hij
      have q2 := (m5 i (by omega) q1).2.1
      rw [eMo i (by omega), eMn]
      exact ⟨q1, by omega⟩
    · rw [eMo j hjn] at hc ⊢
      by_cases hin : i = nm
      · exact absurd (hbig j (by omega) hj) hc
      · rw [eMo i hin]
        exact m6 i j hij hj hc
  · have hi : i < nMk (dNn D) := hi
    rw [← hnm] at hi
    obtain ⟨k1, k2, k3⟩ := n7 i hi
    obtain ⟨q1, -, q3⟩ := m7 i hi
    have q5 := m5 i (by omega) q1
    rw [eMt] at k1 k2 k3
    rw [eMo i (by omega)]
    have e16 : sP t (cM s i) = sP s (cM s i) := (hG.1 _ (by omega)).2.2.1
    refine ⟨k1, hcw _ _ k2 (fun b hb => by have := hb.1; omega) (by rw [e16]; exact q3), ?_⟩
    rw [eP _ (by omega), e16]
    exact hL _ q3
def dMk (D : dD) (m : Nat) (W : wW) (M : Nat → wW) : dD := ((0, D.1.2.1, D.1.2.2.1, D.1.2.2.2.1, D.1.2.2.2.2.1, D.1.2.2.2.2.2.1, m), D.2.1, D.2.2.1, W, M)
theorem CN.mk {s : mS} {n : dN} (h : CN s n) (m : Nat) : CN (wI (wI s 1 6 (nI m)) 1 11 (nI 0)) (0, n.2.1, n.2.2.1, n.2.2.2.1, n.2.2.2.2.1, n.2.2.2.2.2.1, m) := by
  obtain ⟨h1, h2, h3, h4, h5, h6, h7⟩ := h
  refine ⟨sI_wI_eq _ _ _ _, h2, h3, ?_, ?_, ?_, ?_⟩
  · rw [sI_wI_ne (Or.inr (by decide)), sI_wI_ne (Or.inr (by decide))]; exact h4
  · rw [sI_wI_ne (Or.inr (by decide)), sI_wI_ne (Or.inr (by decide))]; exact h5
  · rw [sI_wI_ne (Or.inr (by decide)), sI_wI_ne (Or.inr (by decide))]; exact h6
  · rw [sI_wI_ne (Or.inr (by decide)), sI_wI_eq]
theorem k_get {s : mS} (hS : CS s) {α : Type} {f : Int32 → mM α} {j : Nat} {x : Int32} (h : sI s 1 j = x) : bGI 8 1 j f s = f x s := xGIe hS.1.1 h
theorem c_mark43 {s : mS} {D : dD} (hC : CP s D) (hm3 : nMk (dNn D) < 3) (h0 : cM s (nMk (dNn D)) ≠ 0) : ∃ t, fX8_mark_43 1 s = some (nI (nMk (dNn D) + 1), t) ∧ CP t (dMk D (nMk (dNn D) + 1) (dW D) (up (dM D) (nMk (dNn D)) (dW D))) ∧ FC s t ∧ sZ t = sZ s ∧ sW t = sW s := by
  have hC0 := hC
  obtain ⟨hS, hN, hTp, hTr, hc, hw, ⟨m1, ⟨mn, m2, m2'⟩, m3, m4, m5, m6, m7⟩⟩ := hC
  obtain ⟨nm, hnm⟩ : ∃ nm, nm = nMk (dNn D) := ⟨_, rfl⟩
  have e6 : sI s 1 6 = nI nm := by rw [hnm]; exact hN.2.2.2.2.2.2
  rw [← hnm] at hm3 h0 m7 ⊢
  obtain ⟨k1, k2, k3⟩ := m5 nm hm3 h0
  obtain ⟨a, ha⟩ : ∃ a, a = cM s nm := ⟨_, rfl⟩
  rw [← ha] at k1 k2 k3 h0
  have hl4 : ∀ i, i < 3 → cM s i ≠ 0 → ∀ b, LwA s b → b ≠ 0 → ¬ wA (cM s i) b ∧ ¬ wA (cM s i) (b + 1) := fun i hi hz b hb hb0 => by
    rcases hb with hb | hb
    · exact absurd hb hb0
    · exact hb.2.2.2.2 i hi hz
  obtain ⟨t, e1, e2, e3, e4⟩ := c_copyFrom k3 hc (by omega) (fun hz => by
    rw [ha]
    exact hl4 nm hm3 (by rw [← ha]; exact h0) _ m4 hz)
  have hSt : CS t := hS.mv (fun b _ => by rw [e2.2.1]) (fun b j hb _ _ _ _ => by rw [(e2.1 b (by show ¬ (_ ∧ _); omega)).2.2])
  have g : ∀ b, ¬ wA a b → sI t b = sI s b ∧ sL t b = sL s b ∧ sP t b = sP s b := e2.1
  have g1 := g 1 (by show ¬ (_ ∧ _); omega)
  have g4 := g 4 (by show ¬ (_ ∧ _); omega)
  have hNt : CN t D.1 := hN.mv g1.1 g1.2.1
  have ht6 : sI t 1 6 = nI nm := by rw [g1.1]; exact e6
  have hF1 : FR (fun b => b = 1 ∨ wA a b) s (wI (wI t 1 6 (nI (nm + 1))) 1 11 (nI 0)) := (e2.mo fun _ hb => Or.inr hb).tr ((FI.w (A := fun b => b = 1 ∨ wA a b) 6 (nI (nm + 1)) (Or.inl rfl)).tr (FI.w 11 (nI 0) (Or.inl rfl))).fr
  have hwI : ∀ {c X}, CW t c X → 1 < c → LwA s (sP t c 16) → CW (wI (wI t 1 6 (nI (nm + 1))) 1 11 (nI 0)) c X := fun {c X} hx hc1 hl => by
    have q : ∀ b, b ≠ 1 → sI (wI (wI t 1 6 (nI (nm + 1))) 1 11 (nI 0)) b = sI t b := fun b hb => by
      funext i; rw [sI_wI_ne (Or.inl hb), sI_wI_ne (Or.inl hb)]
    refine hx.mv (fun _ _ => rfl) (fun b hb => ⟨q b (by have := hb.1; omega), rfl⟩) (fun hz => ?_)
    rcases hl with hl | hl
    · exact absurd hl hz
    · have := hl.1
      exact ⟨rfl, rfl, q _ (by omega), q _ (by omega), rfl⟩
  have hkeep : ∀ {c X}, CW s c X → (∀ b, wA c b → ¬ wA a b) → LwA s (sP s c 16) → CW t c X := fun {c X} hx hd hl => by
    refine hx.mv (fun _ _ => by rw [e2.2.1]) (fun b hb => ⟨(g b (hd b hb)).1, (g b (hd b hb)).2.2⟩) (fun hz => ?_)
    obtain ⟨n1, n2⟩ := hl4 nm hm3 (by rw [← ha]; exact h0) _ hl hz
    rw [← ha] at n1 n2
    exact ⟨by rw [e2.2.1], by rw [e2.2.1], (g _ n1).1, (g _ n2).1, (g _ n1).2.2⟩
  have hC4 : CW t 4 (dW D) := hkeep hc (fun b hb => by have := hb.2; show ¬ (_ ∧ _); omega) m4
  refine ⟨wI (wI t 1 6 (nI (nm + 1))) 1 11 (nI 0), ?_, ?_, ?_⟩
  · unfold fX8_mark_43
    rw [k_marks hS, k_get hS e6, xAR hS.2.1.2.2.1 hm3 (by decide) ha.symm, k_now hS, e_callV k3.1, x_call e1, k_get hSt ht6, k_pi hSt]
    have hSw : CS (wI t 1 6 (nI nm + 1)) := hSt.w
    rw [k_get hSw (sI_wI_eq _ _ _ _), k_cv hSw, x_call (k_tell hSw _), nI_succ1]
    rfl
  · refine hC0.upM _ _ _ hF1 (fun b hb => ?_) ?_ (fun i hi hz => ?_) (hNt.mk (nm + 1)) rfl (hwI hC4 (by omega) (by rw [g4.2.2]; exact m4)) ?_ (fun i hi => ?_)
    · rcases hb with hb | hb
      · exact Or.inl hb
      · exact Or.inr (Or.inr (by have := hb.1; omega))
    · exact g1.2.2
    · by_cases hin : i = nm
      · rw [hin, ← ha]
        exact e3.1.mvP2 (fun _ _ => rfl) (fun _ _ _ _ => rfl)
      · have q := (m5 i hi hz).2.2
        refine q.mvP2 (fun b _ => by show sH t b = _; rw [e2.2.1]) (fun b hb j _ => ?_)
        show sP t b j = _
        rw [(g b ?_).2.2]
        have h1 := hb.1
        have h2 := hb.2
        rintro ⟨h3, h4⟩
        rcases Nat.lt_or_ge i nm with h | h
        · have := (m6 i nm h hm3 (by rw [← ha]; exact h0)).2; omega
        · have := (m6 nm i (by omega) hi hz).2; omega
    · show LwA s (sP t 4 16)
      rw [g4.2.2]; exact m4
    · have hi : i < nm + 1 := hi
      by_cases hin : i = nm
      · rw [hin, up_s, ← ha]
        refine ⟨h0, hwI e3 (by omega) ?_, ?_⟩
        · rw [e4]; exact m4
        · show LwA s (sP t a 16)
          rw [e4]; exact m4
      · obtain ⟨q1, q2, q3⟩ := m7 i (by omega)
        have q4 := (m6 i nm (by omega) hm3 (by rw [← ha]; exact h0)).2
        have q5 := (m5 i (by omega) q1).1
        have e16 : sP t (cM s i) = sP s (cM s i) := (g _ (by show ¬ (_ ∧ _); omega)).2.2
        rw [up_n _ _ hin]
        refine ⟨q1, hwI (hkeep q2 (fun b hb => ?_) q3) (by omega) (by rw [e16]; exact q3), ?_⟩
        · have h1 := hb.1
          have h2 := hb.2
          rintro ⟨h3, h4⟩
          omega
        · show LwA s (sP t (cM s i) 16)
          rw [e16]; exact q3
  · refine ⟨hF1.c fun b hb hr => ?_, hF1.2.2.1, hF1.2.2.2⟩
    have h1 : 113 ≤ b := hr.1
    have h2 : b ≤ 124 := hr.2
    rcases hb with hb | hb
    · omega
    · have := hb.1; omega

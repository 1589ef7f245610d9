/-! THE WHOLE TEXT OF A WELL, BOTH READERS -/
section READ
variable {s t : mS} {C : Nat → Nat} {N m : Nat}
theorem FW.cb {t u : mS} {P : Nat → Bool} (h : Cb t u 3440 P) : FW t u := by
  obtain ⟨a1, a2, a3⟩ := h
  have e2 : u.2 = t.2 := a1.2
  refine ⟨by show u.2.2.1 = t.2.2.1; rw [e2], by show u.2.2.2.1 = t.2.2.2.1; rw [e2], ?_, ?_, fun b h1 h2 => a1.1 b h2, fun j _ => by rw [a1.1 113 (by decide)], fun i hi => a2 i (by omega), fun b _ _ => by show u.2.1 b = t.2.1 b; rw [e2], fun j _ => by show u.2.1 113 j = t.2.1 113 j; rw [e2]⟩
  · unfold sZ; rw [e2]
  · unfold sW; rw [e2]
theorem j_start {v w : mS} {P0 : mS} (hw : WoS v 48) (hD : WoD v 48 w0) (hp : sP v 48 16 = 0) (h2 : sI v 107 2 = nI 0) (h3 : sI v 107 3 = nI 0) (h4 : sI v 107 4 = nI 0) (hc : Cb P0 w 3440 cP) (h21 : sI w 113 21 = nI 0) (h23 : sI w 113 23 = nI 0) : JW v w C w0 0 0 (fun _ => (0, 0, 0)) false := by
  have g : ∀ i, i < 860 → cP i = false → sI w 118 (3440 + i) = nI 0 := fun i hi h => by
    rw [hc.2.2 i hi, h]
    rfl
  refine ⟨⟨hw, hD, hp, ⟨h4, fun i hi => absurd hi (by omega)⟩, h2, h3⟩, ⟨g 0 (by decide) (by decide), g 1 (by decide) (by decide), g 2 (by decide) (by decide), g 3 (by decide) (by decide), g 4 (by decide) (by decide), g 5 (by decide) (by decide), g 6 (by decide) (by decide), g 7 (by decide) (by decide), g 8 (by decide) (by decide), fun p hp => absurd hp (by show ¬ p < 0; omega), fun f hf => absurd hf (by show ¬ f < 0; omega), fun r hr => ⟨g (85 + r) (by omega) (by unfold cP; exact decide_eq_false (by omega)), fun h0 => absurd h0 (by show ¬ 0 < 0; omega)⟩, w0_ok, ⟨g 289 (by decide) (by decide), fun k hk => absurd hk (by show ¬ k < 0; omega), fun j hj => absurd hj (by show ¬ j < 0; omega)⟩⟩, fun i hi => absurd hi (by omega), h23, h21, fun p _ hp => ⟨?_, ?_⟩, fun r _ hr => ?_⟩
  · rw [show 3449 + p = 3440 + (9 + p) by omega, hc.2.2 _ (by omega), show cP (9 + p) = true by unfold cP; exact decide_eq_true (by omega)]
    rfl
  · rw [show 3457 + p = 3440 + (17 + p) by omega]
    exact g _ (by omega) (by unfold cP; exact decide_eq_false (by omega))
  · rw [show 3489 + r = 3440 + (49 + r) by omega, hc.2.2 _ (by omega), show cP (49 + r) = true by unfold cP; exact decide_eq_true (by omega)]
    rfl
theorem ji_0 : JI C N w0 0 0 (fun _ => (0, 0, 0)) := ⟨⟨rfl, by decide, by decide, fun i hi => absurd hi (by omega), fun i j hi => absurd hi (by omega), fun j hj => absurd hj (by show ¬ j < 0; omega), fun j hj => absurd hj (by omega)⟩, fun _ _ => rfl, rfl⟩
/-- what the reference did before it reads -/
def x00 (t : mS) (N : Nat) : mS := opX (wI (wI t 113 1 (nI 0)) 113 0 (nI 0)) N
theorem j_read (hS : CS s) (hw : WoS s 48) (hC3 : ∀ k, k < N → sI s 3 k = xb (C k) ∧ C k < 256) (hT : RT t) (hC7 : ∀ k, k < N → sI t 117 k = xb (C k) ∧ C k < 256) (hN : N ≤ 900) (h8 : sI t 113 8 = nI m) (hm : m ≤ 900) (hNm : N ≤ m) : ∃ v' t', FI a48 (wP s 48 16 0) v' ∧ FW (x00 t N) t' ∧ fX9_well 113 (nI N) t = fX9_well_127 113 t' ∧ ((∃ W n nr nt wt, fX6_readWell 107 (nI N) s = some (nI 1, v') ∧ CG v' C N N ∧ RG t' C N N ∧ JW v' t' C W n nr nt wt ∧ JI C N W n nr nt) ∨ (fX6_readWell 107 (nI N) s = some (nI 0, v') ∧ JE v' t')) := by
  -- the class
  obtain ⟨u1, c1, c2, c3, c4⟩ := c_clear hw
  have hFc : FI a48 (wP s 48 16 0) (clS s 48) := by
    refine ⟨fun b hb => ?_, rfl⟩
    have hb : b ≠ 48 := fun e => hb (by rw [e]; exact Or.inr ⟨by decide, by decide⟩)
    funext j
    unfold clS
    rw [sI_wP, sI_wP]
    simp (disch := omega) only [sI_wI_ne]
  have hF1 : FI a48 (wP s 48 16 0) u1 := hFc.tr (c2.mo (fun b hb => by
    have hb : 48 + 7 < b ∧ b < 48 + 44 := hb
    exact Or.inr ⟨by omega, by omega⟩))
  have hS1 : CS u1 := hS.mv (fun _ _ => by rw [show sH u1 = sH s by show u1.2.2.2.1 = s.2.2.2.1; rw [hF1.2]; rfl]) (fun b i h1 h2 h3 h4 h5 => by
    rw [show sP u1 = sP (wP s 48 16 0) by show u1.2.2.1 = (wP s 48 16 0).2.2.1; rw [hF1.2], sP_wP, if_neg (by omega)])
  have hP1 : sP u1 48 16 = 0 := by
    rw [show sP u1 = sP (wP s 48 16 0) by show u1.2.2.1 = (wP s 48 16 0).2.2.1; rw [hF1.2], sP_wP, if_pos ⟨rfl, rfl⟩]
  obtain ⟨u2, hu2⟩ : ∃ u2, u2 = wI (wI (wI u1 107 2 (nI 0)) 107 3 (nI 0)) 107 4 (nI 0) := ⟨_, rfl⟩
  have hF12 : FI (fun b => b = 107) u1 u2 := by
    rw [hu2]
    exact ((FI.w (A := fun b => b = 107) _ _ rfl).tr (FI.w (A := fun b => b = 107) _ _ rfl)).tr (FI.w (A := fun b => b = 107) _ _ rfl)
  have hS2 : CS u2 := hS1.mv (fun _ _ => by rw [show sH u2 = sH u1 by show u2.2.2.2.1 = u1.2.2.2.1; rw [hF12.2]]) (fun _ _ _ _ _ _ _ => by rw [hF12.P])
  have hb3 : ∀ k, k < N → sI u2 3 k = xb (C k) ∧ C k < 256 := fun k hk => by
    rw [hF12.1 3 (by decide), hF1.1 3 (by show ¬ ((106 ≤ 3 ∧ 3 ≤ 110) ∨ (48 ≤ 3 ∧ 3 < 48 + 44)); omega)]
    exact hC3 k hk
  obtain ⟨u3, d1, d2, d3⟩ := c_open hS2 hN hb3
  have hw3 : WoS u3 48 := (c3.fi hF12).fi d2
  have hD3 : WoD u3 48 w0 := c4.mv (fun b hb => by
    have hb2 := hb.2
    rw [d2.1 b (by show ¬ (b = 106); omega), hF12.1 b (by show ¬ (b = 107); omega)])
  have hp3 : sP u3 48 16 = 0 := by rw [d2.P, hF12.P]; exact hP1
  have h107 : sI u3 107 = sI u2 107 := d2.1 107 (by decide)
  have k2 : sI u3 107 2 = nI 0 := by rw [h107, hu2, sI_wI_ne (Or.inr (by decide)), sI_wI_ne (Or.inr (by decide)), sI_wI_eq]
  have k3 : sI u3 107 3 = nI 0 := by rw [h107, hu2, sI_wI_ne (Or.inr (by decide)), sI_wI_eq]
  have k4 : sI u3 107 4 = nI 0 := by rw [h107, hu2, sI_wI_eq]
  have hcl : fX6_readWell 107 (nI N) s = fX6_readWell_34 fu 107 (nI 1) (nI 0) u3 := by
    have hSa : CS (wI u1 107 2 (nI 0)) := hS1.w
    have hSb : CS (wI (wI u1 107 2 (nI 0)) 107 3 (nI 0)) := hSa.w
    unfold fX6_readWell
    rw [w_th hS, e_callV hw.1, x_call c1, xPZ hS1.k107 (Or.inl rfl), li_0, xPI hSa.k107, xPI hSb.k107, ← hu2, w_tk hS2, e_callV hS2.k106, x_call d1, li_1]
  -- the reference
  have hTa : RT (wI (wI t 113 1 (nI 0)) 113 0 (nI 0)) := (hT.w).w
  obtain ⟨w1, f1, f2, f3, f4⟩ := x_opens (N := N) (C := C) hTa hN (m := m) (by rw [sI_wI_ne (Or.inr (by decide)), sI_wI_ne (Or.inr (by decide))]; exact h8) hm hNm (fun k hk => by rw [sI_wI_ne (Or.inl (by decide)), sI_wI_ne (Or.inl (by decide))]; exact hC7 k hk)
  have hTw := f4.1.1
  obtain ⟨w2, g1, g2⟩ := x_clear hTw (b := 3440) (by decide)
  have hTw2 : RT w2 := g2.rt hTw
  have r2 : RG w2 C N (sk C N 0) := f4.o hTw2 (fun j _ _ => by rw [g2.1.1 113 (by decide)]) (by show w2.2.1 113 22 = w1.2.1 113 22; rw [g2.1.2]) (by rw [g2.1.1 117 (by decide)])
  have r3 : RG (wI (wI w2 113 21 (nI 0)) 113 23 (nI 0)) C N (sk C N 0) := (r2.i (by decide)).i (by decide)
  have g2' : ∀ i, sI (wI (wI w2 113 21 (nI 0)) 113 23 (nI 0)) 118 i = sI w2 118 i := fun i => by rw [sI_wI_ne (Or.inl (by decide)), sI_wI_ne (Or.inl (by decide))]
  have hst : JW u3 (wI (wI w2 113 21 (nI 0)) 113 23 (nI 0)) C w0 0 0 (fun _ => (0, 0, 0)) false := by
    refine j_start (P0 := wI (wI w1 113 21 (nI 0)) 113 23 (nI 0)) hw3 hD3 hp3 k2 k3 k4 ⟨⟨fun b hb => ?_, ?_⟩, fun j hj => ?_, fun i hi => ?_⟩ ?_ ?_
    · funext j
      by_cases h0 : b = 113
      · subst h0
        by_cases h1 : j = 23
        · rw [h1, sI_wI_eq, sI_wI_eq]
        · rw [sI_wI_ne (Or.inr h1), sI_wI_ne (Or.inr h1)]
          by_cases h2 : j = 21
          · rw [h2, sI_wI_eq, sI_wI_eq]
          · rw [sI_wI_ne (Or.inr h2), sI_wI_ne (Or.inr h2), g2.1.1 113 (by decide)]
      · rw [sI_wI_ne (Or.inl h0), sI_wI_ne (Or.inl h0), sI_wI_ne (Or.inl h0), sI_wI_ne (Or.inl h0), g2.1.1 b hb]
    · show w2.2 = w1.2
      exact g2.1.2
    · rw [g2', sI_wI_ne (Or.inl (by decide)), sI_wI_ne (Or.inl (by decide))]
      exact g2.2.1 j hj
    · rw [g2']
      exact g2.2.2 i hi
    · rw [sI_wI_ne (Or.inr (by decide)), sI_wI_eq]
    · exact sI_wI_eq _ _ _ _
  have hrl : fX9_well 113 (nI N) t = fX9_well_40 fu 113 (wI (wI w2 113 21 (nI 0)) 113 23 (nI 0)) := by
    have hTc : RT (wI w2 113 21 (nI 0)) := hTw2.w
    unfold fX9_well
    rw [xPI hT.k, xPI (s := wI t 113 1 0) hT.k]
    show bCallV 9 113 (fX9_opens 113 (nI N) (900 : Int32)) _ (wI (wI t 113 1 (nI 0)) 113 0 (nI 0)) = _
    rw [e_callV hTa.k, x_call f1, e_if, if_neg (by decide), e_callV hTw.k, li_3440, x_call g1, xPI hTw2.k, xPZ (s := wI w2 113 21 0) hTw2.k (Or.inl rfl)]
    rfl
  have key := j_loop hN (N - sk C N 0) fu fu 0 u3 (wI (wI w2 113 21 (nI 0)) 113 23 (nI 0)) (sk C N 0) w0 0 0 (fun _ => (0, 0, 0)) false (Nat.le_refl _) (by unfold fu; omega) (by unfold fu; omega) (Nat.zero_le _) d3 r3 hst ji_0
  obtain ⟨v', t', l1, l2, l3⟩ := key
  refine ⟨v', t', ?_, ?_, hrl.trans l2, ?_⟩
  · exact ((hF1.tr (hF12.mo (fun b hb => Or.inl (by have hb : b = 107 := hb; omega)))).tr (d2.mo (fun b hb => Or.inl (by have hb : b = 106 := hb; omega)))).tr l1.1
  · exact (((f3.fw14).tr (FW.cb g2)).tr ((FW.i ⟨by decide, by decide⟩).tr (FW.i ⟨by decide, by decide⟩))).tr l1.2
  · rcases l3 with ⟨W', n', nr', nt', wt', q1, q2⟩ | ⟨q1, q2⟩
    · exact Or.inl ⟨W', n', nr', nt', wt', hcl.trans q1, q2⟩
    · exact Or.inr ⟨hcl.trans q1, q2⟩
end READ

/-! ONE CALL OF BOTH IN ONE STATE -/
section FRM
variable {s t : mS} {D : dD}
theorem RT.cong (h : RT s) (hH : ∀ b, rfA b → sH t b = sH s b) (hP : ∀ b, rfA b → sP t b = sP s b) : RT t := by
  unfold RT at h ⊢
  rw [hP 113 ⟨by decide, by decide⟩, hH 113 ⟨by decide, by decide⟩, hH 114 ⟨by decide, by decide⟩, hH 115 ⟨by decide, by decide⟩, hH 116 ⟨by decide, by decide⟩, hH 117 ⟨by decide, by decide⟩, hH 118 ⟨by decide, by decide⟩, hH 119 ⟨by decide, by decide⟩, hH 120 ⟨by decide, by decide⟩, hH 121 ⟨by decide, by decide⟩, hH 122 ⟨by decide, by decide⟩, hH 123 ⟨by decide, by decide⟩, hH 124 ⟨by decide, by decide⟩]
  exact h
theorem RP.fc (h : RP s D) (hF : FC s t) (hz : 124 ≤ sZ s) : RP t D := by
  obtain ⟨g, g2, -⟩ := hF
  have g : ∀ b, 113 ≤ b → b ≤ 124 → sI t b = sI s b ∧ sL t b = sL s b ∧ sP t b = sP s b := fun b h1 h2 => g b ⟨h1, h2⟩
  obtain ⟨h1, h2, h3, h4, h5⟩ := h
  refine ⟨⟨h1.1.cong (fun b hb => g2 b (by have := hb.2; omega)) (fun b hb => (g b hb.1 hb.2).2.2), ?_⟩, h2.mv (g 113 (by decide) (by decide)).1 (g 113 (by decide) (by decide)).2.1, fun k hk => ?_, fun k hk => ?_, fun i hi => ?_⟩
  · rw [(g 118 (by decide) (by decide)).1]; exact h1.2
  · rw [(g 117 (by decide) (by decide)).1]; exact h3 k hk
  · rw [(g 114 (by decide) (by decide)).1, (g 115 (by decide) (by decide)).1, (g 116 (by decide) (by decide)).2.1]; exact h4 k hk
  · rw [(g 118 (by decide) (by decide)).1]; exact h5 i hi
theorem CP.fr (h : CP s D) (hF : FR rfA s t) (hmk : nMk (dNn D) ≤ 3) : CP t D := by
  obtain ⟨hS, hN, hTp, hTr, hc, hw, ⟨m1, ⟨mn, m2, m2'⟩, m3, m4, m5, m6, m7⟩⟩ := h
  have hH := hF.2.1
  have eZ := hF.2.2.1
  have g : ∀ b, (b < 113 ∨ 124 < b) → sI t b = sI s b ∧ sL t b = sL s b ∧ sP t b = sP s b := fun b hb => hF.1 b (fun ha => by
    have h1 := ha.1
    have h2 := ha.2
    omega)
  have e92 := (g 92 (by omega)).2.2
  have e93 := (g 93 (by omega)).2.2
  have e4 := (g 4 (by omega)).2.2
  have hL : ∀ b, LwA s b → LwA t b := by
    rintro b (hb | ⟨b1, b2, b3, b4, b5⟩)
    · exact Or.inl hb
    · unfold cF cM at *
      refine Or.inr ⟨b1, by rw [eZ]; exact b2, ?_, ?_, fun i hi => ?_⟩
      · show b + 1 ≠ sP t 93 5
        rw [e93]; exact b3
      · show b ≠ sP t 93 5
        rw [e93]; exact b4
      · show sP t 92 i ≠ 0 → ¬ wA (sP t 92 i) b ∧ ¬ wA (sP t 92 i) (b + 1)
        rw [e92]; exact b5 i hi
  have hCW : ∀ a W, (∀ b, wA a b → b < 113 ∨ 124 < b) → CW s a W → LwA s (sP s a 16) → CW t a W := fun a W ha hW hl => by
    refine hW.mv (fun b _ => by rw [hH]) (fun b hb => ⟨(g b (ha b hb)).1, (g b (ha b hb)).2.2⟩) (fun h0 => ?_)
    rcases hl with hl | ⟨h1, -⟩
    · exact absurd hl h0
    · exact ⟨by rw [hH], by rw [hH], (g _ (by omega)).1, (g _ (by omega)).1, (g _ (by omega)).2.2⟩
  refine ⟨hS.mv (fun b _ => by rw [hH]) (fun b j hb _ _ _ _ => by rw [(g b (by omega)).2.2]), hN.mv (g 1 (by omega)).1 (g 1 (by omega)).2.1, fun k hk => by rw [(g 3 (by omega)).1]; exact hTp k hk, fun k hk => by rw [(g (98 + 2 * k) (by omega)).1, (g (99 + 2 * k) (by omega)).2.1]; exact hTr k hk, hCW 4 _ (fun b hb => by have := hb.2; omega) hc m4, hw.mvP2 (fun b _ => by rw [hH]) (fun b hb i _ => by rw [(g b (by have := hb.2; omega)).2.2]), ⟨by rw [eZ]; exact m1, ⟨mn, ?_, m2'⟩, ?_, by rw [e4]; exact hL _ m4, fun i hi h0 => ?_, fun i j hij hj h0 => ?_, fun i hi => ?_⟩⟩
  · unfold cF at m2 ⊢
    rw [e93, hH]
    exact m2
  · unfold cF cM at m3 ⊢
    rw [e93, e92, eZ]
    exact m3
  · unfold cM at h0 ⊢
    rw [e92] at h0 ⊢
    obtain ⟨k1, k2, k3⟩ := m5 i hi h0
    exact ⟨k1, by rw [eZ]; exact k2, k3.mvP2 (fun b _ => by rw [hH]) (fun b hb j _ => by rw [(g b (by have := hb.1; omega)).2.2])⟩
  · unfold cM at h0 ⊢
    rw [e92] at h0 ⊢
    exact m6 i j hij hj h0
  · obtain ⟨k1, k2, k3⟩ := m7 i hi
    have hi : i < nMk (dNn D) := hi
    obtain ⟨j1, j2, j3⟩ := m5 i (by omega) k1
    unfold cM at k1 k2 k3 j1 ⊢
    rw [e92]
    refine ⟨k1, hCW _ _ (fun b hb => by have := hb.1; omega) k2 k3, ?_⟩
    rw [(g _ (show sP s 92 i < 113 ∨ 124 < sP s 92 i by omega)).2.2]
    exact hL _ k3
theorem sim_step {α : Type} {fc fr : mM α} (h : Sim fc fr) (hC : CP s D) (hR : RP s D) (hD : DOk D) : ∃ x s' t' D', fc s = some (x, s') ∧ fr s' = some (x, t') ∧ CP t' D' ∧ RP t' D' ∧ DOk D' ∧ (sH s' 113).1 = 9 ∧ sZ t' ≤ sZ s + 50 ∧ sW t' ≤ sW s + 5000 := by
  have hz : 124 ≤ sZ s := hC.2.2.2.2.2.2.1
  obtain ⟨x, s', t1, D1, e1, e2, c1, r1, d1, f1, g1⟩ := h s s D hC hR hD
  have hR' := hR.fc f1 hz
  obtain ⟨y, s2, t2, D2, e1', e2', c2, r2, d2, f2, g2⟩ := h s s' D hC hR' hD
  rw [e1] at e1'
  cases e1'
  refine ⟨x, s', t2, D2, e1, e2', c2.fr g2 d2.2.2.1, r2, d2, hR'.1.1.1, ?_, ?_⟩
  · rw [g2.2.2.1]; exact f1.2.2.2.1
  · rw [g2.2.2.2]; exact f1.2.2.2.2.2
end FRM
/-! A TURN OF THE LAW -/
def Lp (Zb Wb : Nat) (m : mM Int32) (s : mS) : Prop := ∃ t, m s = some (1, t) ∧ sZ t ≤ Zb ∧ sW t ≤ Wb
def Tn (W0 k : Nat) (s : mS) : Prop := ∃ D, CP s D ∧ RP s D ∧ DOk D ∧ sZ s ≤ 124 + 50 * k ∧ sW s ≤ W0 + 5000 * k
def Sc (v : mE) (l : Int32) : Prop := ∃ a : Nat → Int32, (∀ {α : Type} (f : Int32 → mM α), bScr v l f = f (a 0)) ∧ (∀ {α : Type} (f : Int32 → mM α), bScr v (l + (1 : Int32)) f = f (a 1)) ∧ (∀ {α : Type} (f : Int32 → mM α), bScr v (l + (2 : Int32)) f = f (a 2)) ∧ (∀ {α : Type} (f : Int32 → mM α), bScr v (l + (3 : Int32)) f = f (a 3)) ∧ (∀ {α : Type} (f : Int32 → mM α), bScr v (l + (4 : Int32)) f = f (a 4)) ∧ (∀ {α : Type} (f : Int32 → mM α), bScr v (l + (5 : Int32)) f = f (a 5))
theorem sc_ok {v : mE} {l : Nat} (h : l + 6 ≤ eN v) (hv : eN v ≤ 3072) : Sc v (nI l) := by
  have key : ∀ k, k < 6 → ∀ {α : Type} (f : Int32 → mM α), bScr v (nI (l + k)) f = f (eS v (nI (l + k)).toNatClampNeg) := fun k hk α f => by
    funext s
    unfold bScr
    rw [if_pos (inB_nI (by omega) (by omega))]
  refine ⟨fun k => eS v (nI (l + k)).toNatClampNeg, fun f => key 0 (by decide) f, fun f => ?_, fun f => ?_, fun f => ?_, fun f => ?_, fun f => ?_⟩
  · rw [li_1, nI_add]; exact key 1 (by decide) f
  · rw [li_2, nI_add]; exact key 2 (by decide) f
  · rw [li_3, nI_add]; exact key 3 (by decide) f
  · rw [li_4, nI_add]; exact key 4 (by decide) f
  · rw [li_5, nI_add]; exact key 5 (by decide) f
section TURN
variable {v : mE} {l : Int32} {s : mS} {r : mM Int32} {k W0 Zb Wb : Nat}
theorem lp_sw {x : Int32} {d : mM Int32} : ∀ {L : List (Nat × mM Int32)} {k : Nat}, (∀ q ∈ L, Lp Zb Wb q.2 s) → Lp Zb Wb d s → Lp Zb Wb (bSw x k L d) s := by
  intro L
  induction L with
  | nil => intro k _ h; exact h
  | cons q L ih =>
    intro k hq h
    have h1 : bSw x k (q :: L) d s = if x = nI k then q.2 s else bSw x (k + 1) L d s := rfl
    unfold Lp
    rw [h1]
    by_cases hx : x = nI k
    · rw [if_pos hx]
      exact hq q List.mem_cons_self
    · rw [if_neg hx]
      exact ih (fun p hp => hq p (List.mem_cons_of_mem _ hp)) h
theorem law_a {α : Type} {fc fr : mM α} (h : Sim fc fr) {B : α → α → mM Int32} (hB : ∀ x t, B x x t = r t) (hs : Tn W0 k s) (hr : ∀ t, Tn W0 (k + 1) t → Lp Zb Wb r t) : Lp Zb Wb (bCallV 8 1 fc (fun x => bCallV 9 113 fr (fun y => B x y))) s := by
  obtain ⟨D, hC, hR, hD, hz, hw⟩ := hs
  obtain ⟨x, s', t', D', e1, e2, c, r', d, k9, z1, w1⟩ := sim_step h hC hR hD
  have g1 : sZ t' ≤ 124 + 50 * (k + 1) := by omega
  have g2 : sW t' ≤ W0 + 5000 * (k + 1) := by
    rw [Nat.mul_succ]
    exact Nat.le_trans w1 (Nat.le_trans (Nat.add_le_add_right hw 5000) (Nat.le_of_eq (Nat.add_assoc _ _ _)))
  have hl := hr t' ⟨D', c, r', d, g1, g2⟩
  unfold Lp at hl ⊢
  rw [e_callV hC.1.1.1, x_call e1, e_callV k9, x_call e2, hB]
  exact hl
theorem bI_x (x : Int32) (t : mS) : bIf (x = x) r (bRetZ (0 : Int32)) t = r t := by rw [e_if, if_pos rfl]
theorem bL_x (x : Int64) (t : mS) : bIf ((lg_cmp x x) = 0) r (bRetZ (0 : Int32)) t = r t := by
  rw [e_if, if_pos (by rw [li_0, lg_eq0])]
theorem law_i0 {fc fr : mM Int32} (h : Sim fc fr) (hs : Tn W0 k s) (hr : ∀ t, Tn W0 (k + 1) t → Lp Zb Wb r t) : Lp Zb Wb (bCallV 8 1 fc (fun x => bCallV 9 113 fr (fun y => bIf (x = y) r (bRetZ (0 : Int32))))) s := law_a h bI_x hs hr
theorem law_l0 {fc fr : mM Int64} (h : Sim fc fr) (hs : Tn W0 k s) (hr : ∀ t, Tn W0 (k + 1) t → Lp Zb Wb r t) : Lp Zb Wb (bCallV 8 1 fc (fun x => bCallV 9 113 fr (fun y => bIf ((lg_cmp x y) = 0) r (bRetZ (0 : Int32))))) s := law_a h bL_x hs hr
theorem law_i1 (hq : Sc v l) {F R : Int32 → mM Int32} (h : ∀ a, Sim (F a) (R a)) (hs : Tn W0 k s) (hr : ∀ t, Tn W0 (k + 1) t → Lp Zb Wb r t) : Lp Zb Wb (bScr v (l + (1 : Int32)) (fun a => bCallV 8 1 (F a) (fun x => bScr v (l + (1 : Int32)) (fun a' => bCallV 9 113 (R a') (fun y => bIf (x = y) r (bRetZ (0 : Int32))))))) s := by
  obtain ⟨a, q0, q1, q2, q3, q4, q5⟩ := hq
  simp only [q1]
  exact law_i0 (h _) hs hr
theorem law_i2 (hq : Sc v l) {F R : Int32 → Int32 → mM Int32} (h : ∀ a b, Sim (F a b) (R a b)) (hs : Tn W0 k s) (hr : ∀ t, Tn W0 (k + 1) t → Lp Zb Wb r t) : Lp Zb Wb (bScr v (l + (1 : Int32)) (fun a => bScr v (l + (2 : Int32)) (fun b => bCallV 8 1 (F a b) (fun x => bScr v (l + (1 : Int32)) (fun a' => bScr v (l + (2 : Int32)) (fun b' => bCallV 9 113 (R a' b') (fun y => bIf (x = y) r (bRetZ (0 : Int32))))))))) s := by
  obtain ⟨a, q0, q1, q2, q3, q4, q5⟩ := hq
  simp only [q1, q2]
  exact law_i0 (h _ _) hs hr
theorem law_l2 (hq : Sc v l) {F R : Int32 → Int32 → mM Int64} (h : ∀ a b, Sim (F a b) (R a b)) (hs : Tn W0 k s) (hr : ∀ t, Tn W0 (k + 1) t → Lp Zb Wb r t) : Lp Zb Wb (bScr v (l + (1 : Int32)) (fun a => bScr v (l + (2 : Int32)) (fun b => bCallV 8 1 (F a b) (fun x => bScr v (l + (1 : Int32)) (fun a' => bScr v (l + (2 : Int32)) (fun b' => bCallV 9 113 (R a' b') (fun y => bIf ((lg_cmp x y) = 0) r (bRetZ (0 : Int32))))))))) s := by
  obtain ⟨a, q0, q1, q2, q3, q4, q5⟩ := hq
  simp only [q1, q2]
  exact law_l0 (h _ _) hs hr
theorem law_i3 (hq : Sc v l) {F R : Int32 → Int32 → Int32 → mM Int32} (h : ∀ a b c, Sim (F a b c) (R a b c)) (hs : Tn W0 k s) (hr : ∀ t, Tn W0 (k + 1) t → Lp Zb Wb r t) : Lp Zb Wb (bScr v (l + (1 : Int32)) (fun a => bScr v (l + (2 : Int32)) (fun b => bScr v (l + (3 : Int32)) (fun c => bCallV 8 1 (F a b c) (fun x => bScr v (l + (1 : Int32)) (fun a' => bScr v (l + (2 : Int32)) (fun b' => bScr v (l + (3 : Int32)) (fun c' => bCallV 9 113 (R a' b' c') (fun y => bIf (x = y) r (bRetZ (0 : Int32))))))))))) s := by
  obtain ⟨a, q0, q1, q2, q3, q4, q5⟩ := hq
  simp only [q1, q2, q3]
  exact law_i0 (h _ _ _) hs hr
theorem law_i4 (hq : Sc v l) {F R : Int32 → Int32 → Int32 → Int32 → mM Int32} (h : ∀ a b c d, Sim (F a b c d) (R a b c d)) (hs : Tn W0 k s) (hr : ∀ t, Tn W0 (k + 1) t → Lp Zb Wb r t) : Lp Zb Wb (bScr v (l + (1 : Int32)) (fun a => bScr v (l + (2 : Int32)) (fun b => bScr v (l + (3 : Int32)) (fun c => bScr v (l + (4 : Int32)) (fun d => bCallV 8 1 (F a b c d) (fun x => bScr v (l + (1 : Int32)) (fun a' => bScr v (l + (2 : Int32)) (fun b' => bScr v (l + (3 : Int32)) (fun c' => bScr v (l + (4 : Int32)) (fun d' => bCallV 9 113 (R a' b' c' d') (fun y => bIf (x = y) r (bRetZ (0 : Int32))))))))))))) s := by
  obtain ⟨a, q0, q1, q2, q3, q4, q5⟩ := hq
  simp only [q1, q2, q3, q4]
  exact law_i0 (h _ _ _ _) hs hr
theorem law_i5 (hq : Sc v l) {F R : Int32 → Int32 → Int32 → Int32 → Int32 → mM Int32} (h : ∀ a b c d e, Sim (F a b c d e) (R a b c d e)) (hs : Tn W0 k s) (hr : ∀ t, Tn W0 (k + 1) t → Lp Zb Wb r t) : Lp Zb Wb (bScr v (l + (1 : Int32)) (fun a => bScr v (l + (2 : Int32)) (fun b => bScr v (l + (3 : Int32)) (fun c => bScr v (l + (4 : Int32)) (fun d => bScr v (l + (5 : Int32)) (fun e => bCallV 8 1 (F a b c d e) (fun x => bScr v (l + (1 : Int32)) (fun a' => bScr v (l + (2 : Int32)) (fun b' => bScr v (l + (3 : Int32)) (fun c' => bScr v (l + (4 : Int32)) (fun d' => bScr v (l + (5 : Int32)) (fun e' => bCallV 9 113 (R a' b' c' d' e') (fun y => bIf (x = y) r (bRetZ (0 : Int32))))))))))))))) s := by
  obtain ⟨a, q0, q1, q2, q3, q4, q5⟩ := hq
  simp only [q1, q2, q3, q4, q5]
  exact law_i0 (h _ _ _ _ _) hs hr
end TURN

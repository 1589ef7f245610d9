/-! BOTH READERS AT ONE TOKEN -/
theorem WoD.mv {s t : mS} {a : Nat} {W : wW} (h : WoD s a W) (e : ∀ b, wA a b → sI t b = sI s b) : WoD t a W := by
  obtain ⟨f0, f1, f2, f3, f4, f5, f6, f7, f11, fp, ff, fr⟩ := h
  have g : ∀ k, k < 44 → sI t (a + k) = sI s (a + k) := fun k hk => e _ ⟨by omega, by omega⟩
  have g0 : sI t a = sI s a := g 0 (by omega)
  refine ⟨by rw [g0]; exact f0, by rw [g0]; exact f1, by rw [g0]; exact f2, by rw [g0]; exact f3, by rw [g0]; exact f4, by rw [g0]; exact f5, by rw [g0]; exact f6, by rw [g0]; exact f7, by rw [g0]; exact f11, fun p hp => by rw [g 1 (by omega), g 2 (by omega)]; exact fp p hp, fun q hq => by rw [g 4 (by omega), g 5 (by omega), g 6 (by omega)]; exact ff q hq, fun r hr => ?_⟩
  exact (fr r hr).mv (e _ ⟨by omega, by omega⟩) (e _ ⟨by omega, by omega⟩) (e _ ⟨by omega, by omega⟩)
/-- what is not told yet lies there cleared -/
def JU (t : mS) (W : wW) (nr : Nat) : Prop := (∀ p, wPe W ≤ p → p < 8 → sI t 118 (3449 + p) = mI ∧ sI t 118 (3457 + p) = nI 0) ∧ ∀ r, nr ≤ r → r < 12 → sI t 118 (3489 + r) = mI
/-- what the readers keep beside the tokens -/
def JW (v t : mS) (C : Nat → Nat) (W : wW) (n nr : Nat) (nt : tN) (wt : Bool) : Prop := (WoS v 48 ∧ WoD v 48 W ∧ sP v 48 16 = 0 ∧ CNT v n nt ∧ sI v 107 2 = nI wt.toNat ∧ sI v 107 3 = nI nr) ∧ (RW (fun j => sI t 118 (3440 + j)) W ∧ RNT t C n nt ∧ sI t 113 23 = nI wt.toNat ∧ sI t 113 21 = nI nr ∧ JU t W nr)
def JI (C : Nat → Nat) (N : Nat) (W : wW) (n nr : Nat) (nt : tN) : Prop := NI C N n (wPe W) nr nt ∧ (∀ r, nr ≤ r → wRo W r = r0) ∧ wLa W = []
theorem JW.f {v t v' t' : mS} {C : Nat → Nat} {W : wW} {n nr : Nat} {nt : tN} {wt : Bool} {A : Nat → Prop} (h : JW v t C W n nr nt wt) (h1 : F6 A v v') (h2 : F9 i12 l22 t t') : JW v' t' C W n nr nt wt := by
  obtain ⟨⟨a1, a2, a3, a4, a5, a6⟩, b1, b2, b3, b4, b5⟩ := h
  have g : ∀ b, b ≠ 106 → sI v' b = sI v b := fun b hb => h1.1.1 b hb
  refine ⟨⟨a1.mv h1.1.2, a2.mv (fun b hb => g b (by have := hb.2; omega)), by rw [h1.1.P]; exact a3, ?_, by rw [g 107 (by decide)]; exact a5, by rw [g 107 (by decide)]; exact a6⟩, ?_, fun i hi => ?_, by rw [h2.I (by decide)]; exact b3, by rw [h2.I (by decide)]; exact b4, by unfold JU; rw [(h2.1 118 (by decide)).1]; exact b5⟩
  · unfold CNT
    rw [g 107 (by decide), g 108 (by decide), g 109 (by decide), g 110 (by decide)]
    exact a4
  · rw [(h2.1 118 (by decide)).1]
    exact b1
  · rw [(h2.1 120 (by decide)).2]
    exact b2 i hi
/-- the class's frame of a reader, the reference's -/
abbrev a48 : Nat → Prop := fun b => (106 ≤ b ∧ b ≤ 110) ∨ wA 48 b
def FW (t v : mS) : Prop := sP v = sP t ∧ sH v = sH t ∧ sZ v = sZ t ∧ sW v = sW t ∧ (∀ b, b ≠ 113 → b ≠ 118 → sI v b = sI t b) ∧ (∀ j, ¬ (12 ≤ j ∧ j ≤ 25) → sI v 113 j = sI t 113 j) ∧ (∀ i, i < 3440 → sI v 118 i = sI t 118 i) ∧ (∀ b, b ≠ 113 → b ≠ 120 → sL v b = sL t b) ∧ ∀ j, j ≠ 22 → sL v 113 j = sL t 113 j
theorem FW.rf {t : mS} : FW t t := ⟨rfl, rfl, rfl, rfl, fun _ _ _ => rfl, fun _ _ => rfl, fun _ _ => rfl, fun _ _ _ => rfl, fun _ _ => rfl⟩
theorem FW.tr {t u v : mS} (h1 : FW t u) (h2 : FW u v) : FW t v := by
  obtain ⟨a1, a2, a3, a4, a5, a6, a7, a8, a9⟩ := h1
  obtain ⟨b1, b2, b3, b4, b5, b6, b7, b8, b9⟩ := h2
  exact ⟨b1.trans a1, b2.trans a2, b3.trans a3, b4.trans a4, fun b h h' => (b5 b h h').trans (a5 b h h'), fun j h => (b6 j h).trans (a6 j h), fun i h => (b7 i h).trans (a7 i h), fun b h h' => (b8 b h h').trans (a8 b h h'), fun j h => (b9 j h).trans (a9 j h)⟩
theorem F9.fw {t v : mS} (h : F9 i12 l22 t v) : FW t v := ⟨h.2.1, h.2.2.1, h.2.2.2.1, h.2.2.2.2.1, fun b hb _ => (h.1 b hb).1, fun j hj => h.I (fun h => hj ⟨h.1, by have := h.2; omega⟩), fun i _ => by rw [(h.1 118 (by decide)).1], fun b hb _ => (h.1 b hb).2, fun j hj => h.L hj⟩
theorem F9.fw14 {t v : mS} (h : F9 i14 l22 t v) : FW t v := (h.mo i14_12 (fun _ h => h)).fw
theorem FW.c {t : mS} {i : Nat} {x : Int32} (hi : 3440 ≤ i) : FW t (wI t 118 i x) := ⟨rfl, rfl, rfl, rfl, fun b _ h => by funext j; exact sI_wI_ne (Or.inl h), fun j _ => sI_wI_ne (Or.inl (by decide)), fun j hj => sI_wI_ne (Or.inr (by omega)), fun _ _ _ => rfl, fun _ _ => rfl⟩
theorem FW.i {t : mS} {j : Nat} {x : Int32} (hj : 12 ≤ j ∧ j ≤ 25) : FW t (wI t 113 j x) := ⟨rfl, rfl, rfl, rfl, fun b h _ => by funext i; exact sI_wI_ne (Or.inl h), fun i hi => sI_wI_ne (Or.inr (fun e => hi (e ▸ hj))), fun i _ => sI_wI_ne (Or.inl (by decide)), fun _ _ _ => rfl, fun _ _ => rfl⟩
theorem FW.l {t : mS} {j : Nat} {x : Int64} : FW t (wL t 120 j x) := ⟨rfl, rfl, rfl, rfl, fun _ _ _ => rfl, fun _ _ => rfl, fun _ _ => rfl, fun b _ h => by funext i; exact sL_ne (Or.inl h), fun i _ => sL_ne (Or.inl (by decide))⟩
theorem RT.fw {t v : mS} (h : RT t) (hF : FW t v) : RT v := by
  unfold RT
  rw [hF.1, hF.2.1]
  exact h
theorem F6.fi {A : Nat → Prop} {s t : mS} (h : F6 A s t) : FI a48 s t := h.1.mo (fun b hb => Or.inl (by have hb : b = 106 := hb; omega))
section JOIN
variable {v t : mS} {C : Nat → Nat} {N a : Nat}
theorem BD.fw {v : mS} (h : BD t) (hF : FW t v) (h12 : sI v 113 12 = sI t 113 12) : BD v := ⟨h.1.fw hF, by rw [h12]; exact h.2⟩
/-- both fail alike -/
def JE (v t : mS) : Prop := RT t ∧ ∃ k p, CE v k p ∧ RE t k p
theorem JE.bd (h : JE v t) : BD t := by
  obtain ⟨hT, k, p, -, hr⟩ := h
  exact hr.bd hT
theorem JE.mt2 {t' : mS} (h : JE v t) (hF : FW t t') (h1 : sI t' 113 12 = sI t 113 12) (h2 : sI t' 113 13 = sI t 113 13) : JE v t' := by
  obtain ⟨hT, k, p, hc, r1, r2, r3, r4⟩ := h
  exact ⟨hT.fw hF, k, p, hc, by rw [h1]; exact r1, by rw [h2]; exact r2, r3, r4⟩
theorem JE.mv2 {v' : mS} (h : JE v t) (h1 : sI v' 106 = sI v 106) : JE v' t := by
  obtain ⟨hT, k, p, ⟨c1, c2, c3⟩, hr⟩ := h
  exact ⟨hT, k, p, ⟨by rw [h1]; exact c1, by rw [h1]; exact c2, c3⟩, hr⟩
theorem j_next (h : CG v C N a) (g : RG t C N a) : ∃ v' t', fX4_next 106 v = some ((), v') ∧ fX9_next 113 t = some ((), t') ∧ F6 j28 v v' ∧ F9 i12 l22 t t' ∧ CG v' C N (nx C N a) ∧ RG t' C N (nx C N a) := by
  obtain ⟨v', e1, e2, e3⟩ := c_adv h
  obtain ⟨t', f1, f2, f3⟩ := x_adv g
  exact ⟨v', t', e1, f1, e2.mo j25_28, f2.mo i14_12 (fun _ h => h), e3, f3⟩
theorem j_word (h : CG v C N a) (g : RG t C N a) {z : Nat} (hz : z < 34) {b : Bool} (hb : b = wq C N a z) : ∃ v' t', fX9_must 113 (nI b.toNat) t = some ((), t') ∧ F6 j28 v v' ∧ F9 i12 l22 t t' ∧ ((fX4_takeWord 106 z v = some (nI 1, v') ∧ b = true ∧ CG v' C N (nx C N a) ∧ RG t' C N (nx C N a)) ∨ (fX4_takeWord 106 z v = some (nI 0, v') ∧ b = false ∧ JE v' t')) := by
  obtain ⟨v', e1, e2, e3⟩ := c_takeWord h hz
  obtain ⟨t', f1, f2, f3⟩ := x_mustG g b
  have hT' := g.1.1.f9 f2
  refine ⟨v', t', f1, e2, f2, ?_⟩
  unfold pW at e1 e3
  unfold pM at f3
  rw [← hb] at e1 e3
  cases b with
  | true => exact Or.inl ⟨e1, rfl, e3, f3⟩
  | false => exact Or.inr ⟨e1, rfl, hT', _, _, e3, f3⟩
theorem j_sign (h : CG v C N a) (g : RG t C N a) {c : Nat} (hc : c < 128) {b : Bool} (hb : b = sq C N a c) : ∃ v' t', fX9_must 113 (nI b.toNat) t = some ((), t') ∧ F6 j28 v v' ∧ F9 i12 l22 t t' ∧ ((fX4_takeSign 106 (nI c) v = some (nI 1, v') ∧ CG v' C N (nx C N a) ∧ RG t' C N (nx C N a)) ∨ (fX4_takeSign 106 (nI c) v = some (nI 0, v') ∧ JE v' t')) := by
  obtain ⟨v', e1, e2, e3⟩ := c_takeSign h hc
  obtain ⟨t', f1, f2, f3⟩ := x_mustG g b
  have hT' := g.1.1.f9 f2
  refine ⟨v', t', f1, e2, f2, ?_⟩
  unfold pS at e1 e3
  unfold pM at f3
  rw [← hb] at e1 e3
  cases b with
  | true => exact Or.inl ⟨e1, e3, f3⟩
  | false => exact Or.inr ⟨e1, hT', _, _, e3, f3⟩
theorem j_num (h : CG v C N a) (g : RG t C N a) {lo hi : Nat} (hlo : lo < 1000) (hhi : hi < 1000) : ∃ v' t' x, fX9_count 113 (nI lo) (nI hi) t = some (nI x, t') ∧ F6 j28 v v' ∧ F9 i12 l22 t t' ∧ ((fX4_takeNumber 106 (nI lo) (nI hi) v = some (nI 1, v') ∧ sI v' 106 6 = nI x ∧ lo ≤ x ∧ x ≤ hi ∧ CG v' C N (nx C N a) ∧ RG t' C N (nx C N a)) ∨ (fX4_takeNumber 106 (nI lo) (nI hi) v = some (nI 0, v') ∧ JE v' t')) := by
  obtain ⟨v', e1, e2, e3, e4⟩ := c_takeNumber h hlo hhi
  obtain ⟨t', f1, f2, f3⟩ := x_countG g hlo hhi
  have hT' := g.1.1.f9 f2
  refine ⟨v', t', _, f1, e2, f2, ?_⟩
  unfold pN at e1 e3 e4 f3 ⊢
  by_cases h2 : kd C N a = 2
  · rw [if_pos h2] at e1 e3 e4 f3 ⊢
    by_cases h3 : vN C N a < lo ∨ hi < vN C N a
    · rw [if_pos h3] at e1 e3 e4 f3 ⊢
      exact Or.inr ⟨e1, hT', _, _, e3, f3⟩
    · rw [if_neg h3] at e1 e3 e4 f3 ⊢
      exact Or.inl ⟨e1, e4, by show lo ≤ vN C N a; omega, by show vN C N a ≤ hi; omega, e3, f3⟩
  · rw [if_neg h2] at e1 e3 e4 f3 ⊢
    exact Or.inr ⟨e1, hT', _, _, e3, f3⟩
theorem j_fail (h : CG v C N a) (g : RG t C N a) {w : Nat} (h1 : 1 ≤ w) (h7 : w ≤ 7) (hk : kd C N a ≠ 4) : ∃ v' t', fX4_refuseToken 106 (nI w) v = some (nI 0, v') ∧ fX9_fail 113 (nI w) (nI a) t = some ((), t') ∧ F6 j28 v v' ∧ F9 i12 l22 t t' ∧ JE v' t' := by
  obtain ⟨v', e1, e2, e3⟩ := c_refuse h h1 h7
  unfold fk at e3
  rw [if_neg hk] at e3
  exact ⟨v', _, e1, x_failG g.1.1 g.2.2.2 w a, e2, f9_bad, g.1.1.bad, w, a, e3, re_bad h1 h7⟩
theorem j_wrong (h : CG v C N a) (g : RG t C N a) : ∃ v' t', fX4_refuseToken 106 (nI 2) v = some (nI 0, v') ∧ fX9_wrong 113 t = some ((), t') ∧ F6 j28 v v' ∧ F9 i12 l22 t t' ∧ JE v' t' := by
  obtain ⟨v', e1, e2, e3⟩ := c_refuse h (w := 2) (by decide) (by decide)
  obtain ⟨f1, f2⟩ := fk_b (C := C) (N := N) (a := a) (w := 2) (by decide) (by decide)
  exact ⟨v', _, e1, x_wrongG g, e2, f9_bad, g.1.1.bad, _, a, e3, re_bad f1 f2⟩
theorem w_th (h : CS v) {α : Type} {f : Nat → mM α} : bGR 6 107 1 f v = f 48 v := xGR h.k107 h.q107
theorem rt_cell (hT : RT t) {i : Nat} {x : Int32} {α : Type} {m : mM α} (hi : i < 4300) : bSI 118 (nI i) x m t = m (wI t 118 i x) := xSI hT.c hi (by decide)
end JOIN

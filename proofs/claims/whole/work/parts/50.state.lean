/-! THE WHOLE OBJECT: what the class's and the reference's cells stand for -/
/-- status, fraction (2), fault (2), taped, marks -/
abbrev dN : Type := Nat × Int64 × Int64 × Int32 × Int32 × Nat × Nat
abbrev nSt (n : dN) : Nat := n.1
abbrev nFt (n : dN) : Int64 := n.2.1
abbrev nFb (n : dN) : Int64 := n.2.2.1
abbrev nFk (n : dN) : Int32 := n.2.2.2.1
abbrev nFp (n : dN) : Int32 := n.2.2.2.2.1
abbrev nTl (n : dN) : Nat := n.2.2.2.2.2.1
abbrev nMk (n : dN) : Nat := n.2.2.2.2.2.2
/-- numbers, tape, trays (sort, length, numbers), now, marks -/
abbrev dD : Type := dN × (Nat → Int32) × (Nat → Nat × Option Nat × (Nat → Int64)) × wW × (Nat → wW)
abbrev dNn (D : dD) : dN := D.1
abbrev dTp (D : dD) : Nat → Int32 := D.2.1
abbrev dTr (D : dD) : Nat → Nat × Option Nat × (Nat → Int64) := D.2.2.1
abbrev dW (D : dD) : wW := D.2.2.2.1
abbrev dM (D : dD) : Nat → wW := D.2.2.2.2
/-- how the class's cells lie -/
def CS (s : mS) : Prop := ((sH s 1).1 = 8 ∧ sP s 1 0 = 2 ∧ sP s 1 1 = 3 ∧ sP s 1 3 = 4 ∧ sP s 1 4 = 48 ∧ sP s 1 5 = 92 ∧ sP s 1 7 = 107 ∧ sP s 1 8 = 111 ∧ sP s 1 9 = 93 ∧ sP s 1 10 = 97) ∧ (sH s 2 = (15, 4) ∧ sH s 3 = (10, 900) ∧ sH s 92 = (16, 3) ∧ sH s 97 = (11, 8)) ∧ (∀ k, k < 4 → sP s 2 k = 98 + 2 * k ∧ (sH s (98 + 2 * k)).1 = 5 ∧ sP s (98 + 2 * k) 0 = 99 + 2 * k ∧ sH s (99 + 2 * k) = (12, 60)) ∧ ((sH s 93).1 = 2 ∧ sP s 93 4 = 94 ∧ sP s 93 6 = 96 ∧ sH s 94 = (11, 12) ∧ sH s 96 = (11, 13)) ∧ ((sH s 106).1 = 4 ∧ sP s 106 0 = 3) ∧ ((sH s 107).1 = 6 ∧ sP s 107 0 = 106 ∧ sP s 107 1 = 48 ∧ sP s 107 5 = 108 ∧ sP s 107 6 = 109 ∧ sP s 107 7 = 110 ∧ sH s 108 = (11, 14) ∧ sH s 109 = (11, 14) ∧ sH s 110 = (11, 14)) ∧ ((sH s 111).1 = 1 ∧ sP s 111 0 = 106 ∧ sP s 111 4 = 112 ∧ sH s 112 = (11, 300))
theorem CS.mv {s t : mS} (h : CS s) (hH : ∀ b, b ≤ 112 → sH t b = sH s b) (hP : ∀ b j, b ≤ 112 → b ≠ 92 → (b = 93 → j ≠ 5) → j ≠ 16 → (b < 4 ∨ 92 ≤ b) → sP t b j = sP s b j) : CS t := by
  obtain ⟨⟨a0, a1, a2, a3, a4, a5, a6, a7, a8, a9⟩, ⟨b1, b2, b3, b4⟩, c1, ⟨d0, d1, d2, d3, d4⟩, ⟨e0, e1⟩, ⟨f0, f1, f2, f3, f4, f5, f6, f7, f8⟩, ⟨g0, g1, g2, g3⟩⟩ := h
  refine ⟨⟨?_, ?_, ?_, ?_, ?_, ?_, ?_, ?_, ?_, ?_⟩, ⟨?_, ?_, ?_, ?_⟩, fun k hk => ?_, ⟨?_, ?_, ?_, ?_, ?_⟩, ⟨?_, ?_⟩, ⟨?_, ?_, ?_, ?_, ?_, ?_, ?_, ?_, ?_⟩, ⟨?_, ?_, ?_, ?_⟩⟩
  case refine_15 =>
    obtain ⟨k0, k1, k2, k3⟩ := c1 k hk
    refine ⟨?_, ?_, ?_, ?_⟩
    · rw [hP _ _ (by omega) (by omega) (by omega) (by omega) (by omega)]; exact k0
    · rw [hH _ (by omega)]; exact k1
    · rw [hP _ _ (by omega) (by omega) (by omega) (by omega) (by omega)]; exact k2
    · rw [hH _ (by omega)]; exact k3
  all_goals first
    | (rw [hH _ (by omega)]; assumption)
    | (rw [hP _ _ (by omega) (by omega) (by omega) (by omega) (by omega)]; assumption)
theorem CS.w {s : mS} {a j : Nat} {x : Int32} (h : CS s) : CS (wI s a j x) := h.mv (fun _ _ => rfl) (fun _ _ _ _ _ _ _ => rfl)
theorem CS.l {s : mS} {a j : Nat} {x : Int64} (h : CS s) : CS (wL s a j x) := h.mv (fun _ _ => rfl) (fun _ _ _ _ _ _ _ => rfl)
def CN (s : mS) (n : dN) : Prop := sI s 1 11 = nI (nSt n) ∧ sL s 1 12 = nFt n ∧ sL s 1 13 = nFb n ∧ sI s 1 14 = nFk n ∧ sI s 1 15 = nFp n ∧ sI s 1 2 = nI (nTl n) ∧ sI s 1 6 = nI (nMk n)
def CT (s : mS) (T : Nat → Nat × Option Nat × (Nat → Int64)) : Prop := ∀ k, k < 4 → sI s (98 + 2 * k) 1 = nI (T k).1 ∧ sI s (98 + 2 * k) 2 = oI (T k).2.1 ∧ ∀ l, (T k).2.1 = some l → ∀ j, j < l → sL s (99 + 2 * k) j = (T k).2.2 j
abbrev cF (s : mS) : Nat := sP s 93 5
abbrev cM (s : mS) (i : Nat) : Nat := sP s 92 i
/-- a law's cells lie apart -/
def LwA (s : mS) (b : Nat) : Prop := b = 0 ∨ (124 < b ∧ b + 1 ≤ sZ s ∧ b + 1 ≠ cF s ∧ b ≠ cF s ∧ ∀ i, i < 3 → cM s i ≠ 0 → ¬ wA (cM s i) b ∧ ¬ wA (cM s i) (b + 1))
/-- marks, the planner's sets, laws: what is made later, and how it lies apart -/
def CM (s : mS) (nm : Nat) (M : Nat → wW) : Prop := 124 ≤ sZ s ∧ (∃ n, sH s (cF s) = (11, n) ∧ 1 ≤ n ∧ n ≤ 4096) ∧ (cF s = 95 ∨ (124 < cF s ∧ cF s ≤ sZ s ∧ ∀ i, i < 3 → cM s i ≠ 0 → ¬ wA (cM s i) (cF s))) ∧ LwA s (sP s 4 16) ∧ (∀ i, i < 3 → cM s i ≠ 0 → 124 < cM s i ∧ cM s i + 43 ≤ sZ s ∧ WoS s (cM s i)) ∧ (∀ i j, i < j → j < 3 → cM s j ≠ 0 → cM s i ≠ 0 ∧ cM s i + 43 < cM s j) ∧ (∀ i, i < nm → cM s i ≠ 0 ∧ CW s (cM s i) (M i) ∧ LwA s (sP s (cM s i) 16))
def CP (s : mS) (D : dD) : Prop := CS s ∧ CN s (dNn D) ∧ (∀ k, k < nTl (dNn D) → sI s 3 k = dTp D k) ∧ CT s (dTr D) ∧ CW s 4 (dW D) ∧ WoS s 48 ∧ CM s (nMk (dNn D)) (dM D)
def RN (s : mS) (n : dN) : Prop := sI s 113 0 = nI (nSt n) ∧ sL s 113 2 = nFt n ∧ sL s 113 3 = nFb n ∧ sI s 113 10 = nFk n ∧ sI s 113 11 = nFp n ∧ sI s 113 8 = nI (nTl n) ∧ sI s 113 28 = nI (nMk n)
def RTr (s : mS) (T : Nat → Nat × Option Nat × (Nat → Int64)) : Prop := ∀ k, k < 4 → sI s 114 k = nI (T k).1 ∧ sI s 115 k = oI (T k).2.1 ∧ ∀ l, (T k).2.1 = some l → ∀ j, j < l → sL s 116 (60 * k + j) = (T k).2.2 j
def RP (s : mS) (D : dD) : Prop := RX s (dW D) ∧ RN s (dNn D) ∧ (∀ k, k < nTl (dNn D) → sI s 117 k = dTp D k) ∧ RTr s (dTr D) ∧ (∀ i, i < nMk (dNn D) → RW (fun j => sI s 118 (860 * (i + 1) + j)) (dM D i))
/-- a byte -/
def isB (x : Int32) : Prop := x = x.toInt8.toInt32
def DOk (D : dD) : Prop := nSt (dNn D) < 12 ∧ (nTl (dNn D) ≤ 900 ∧ ∀ k, k < nTl (dNn D) → isB (dTp D k)) ∧ nMk (dNn D) ≤ 3 ∧ ∀ k, (dTr D k).1 ≤ 3 ∧ ∀ l, (dTr D k).2.1 = some l → l ≤ 60
/-- what a call of the class may change, what one of the reference may -/
abbrev rfA : Nat → Prop := fun b => 113 ≤ b ∧ b ≤ 124
def FC (s t : mS) : Prop := (∀ b, rfA b → sI t b = sI s b ∧ sL t b = sL s b ∧ sP t b = sP s b) ∧ (∀ b, b ≤ sZ s → sH t b = sH s b) ∧ sZ s ≤ sZ t ∧ sZ t ≤ sZ s + 50 ∧ sW s ≤ sW t ∧ sW t ≤ sW s + 5000
theorem FR.c {A : Nat → Prop} {s t : mS} (h : FR A s t) (hA : ∀ b, A b → ¬ rfA b) : FC s t := ⟨fun b hb => h.1 b (fun ha => hA b ha hb), fun b _ => by rw [h.2.1], by rw [h.2.2.1]; omega, by rw [h.2.2.1]; omega, by rw [h.2.2.2]; omega, by rw [h.2.2.2]; omega⟩
def Sim {α : Type} (fc fr : mM α) : Prop := ∀ (s t : mS) (D : dD), CP s D → RP t D → DOk D → ∃ (x : α) (s' t' : mS) (D' : dD), fc s = some (x, s') ∧ fr t = some (x, t') ∧ CP s' D' ∧ RP t' D' ∧ DOk D' ∧ FC s s' ∧ FR rfA t t'
theorem RX.mv {s t : mS} {W : wW} (h : RX s W) (hH : sH t = sH s) (hP : sP t = sP s) (h1 : sI t 118 = sI s 118) : RX t W := by
  obtain ⟨h2, h3⟩ := h
  refine ⟨?_, by rw [h1]; exact h3⟩
  unfold RT
  rw [hH, hP]
  exact h2
theorem WoS.mvP2 {s t : mS} {c : Nat} (h : WoS s c) (hH : ∀ b, wA c b → sH t b = sH s b) (hP : ∀ b, wA c b → ∀ i, i ≠ 16 → sP t b i = sP s b i) : WoS t c := by
  have hc : ∀ k, k < 44 → wA c (c + k) := fun k hk => ⟨by omega, by omega⟩
  have h0 : wA c c := ⟨by omega, by omega⟩
  obtain ⟨a1, a2, a3, a4, a5, a6, a7, a8, a9, b1, b2, b3, b4, b5, b6, b7⟩ := h
  refine ⟨by rw [hH _ h0]; exact a1, by rw [hP _ h0 _ (by decide)]; exact a2, by rw [hP _ h0 _ (by decide)]; exact a3, by rw [hP _ h0 _ (by decide)]; exact a4, by rw [hP _ h0 _ (by decide)]; exact a5, by rw [hP _ h0 _ (by decide)]; exact a6, by rw [hP _ h0 _ (by decide)]; exact a7, by rw [hP _ h0 _ (by decide)]; exact a8, by rw [hH _ (hc 1 (by omega))]; exact a9, by rw [hH _ (hc 2 (by omega))]; exact b1, by rw [hH _ (hc 3 (by omega))]; exact b2, by rw [hH _ (hc 4 (by omega))]; exact b3, by rw [hH _ (hc 5 (by omega))]; exact b4, by rw [hH _ (hc 6 (by omega))]; exact b5, by rw [hH _ (hc 7 (by omega))]; exact b6, fun r hr => ?_⟩
  obtain ⟨c1, c2, c3, c4, c5, c6⟩ := b7 r hr
  have g : ∀ k, k < 3 → wA c (c + 8 + 3 * r + k) := fun k hk => ⟨by omega, by omega⟩
  have g0 : wA c (c + 8 + 3 * r) := ⟨by omega, by omega⟩
  exact ⟨by rw [hP _ (hc 3 (by omega)) _ (by omega)]; exact c1, by rw [hH _ g0]; exact c2, by rw [hP _ g0 _ (by decide)]; exact c3, by rw [hP _ g0 _ (by decide)]; exact c4, by rw [hH _ (g 1 (by omega))]; exact c5, by rw [hH _ (g 2 (by omega))]; exact c6⟩
/-- a world that nothing touches -/
theorem CW.mv {s t : mS} {a : Nat} {W : wW} (h : CW s a W) (hH : ∀ b, wA a b → sH t b = sH s b) (hI : ∀ b, wA a b → sI t b = sI s b ∧ sP t b = sP s b) (hl : sP s a 16 ≠ 0 → sH t (sP s a 16) = sH s (sP s a 16) ∧ sH t (sP s a 16 + 1) = sH s (sP s a 16 + 1) ∧ sI t (sP s a 16) = sI s (sP s a 16) ∧ sI t (sP s a 16 + 1) = sI s (sP s a 16 + 1) ∧ sP t (sP s a 16) = sP s (sP s a 16)) : CW t a W := by
  obtain ⟨hS, ⟨f0, f1, f2, f3, f4, f5, f6, f7, f11, fp, ff, fr⟩, hw, hla⟩ := h
  have hc : ∀ k, k < 44 → wA a (a + k) := fun k hk => ⟨by omega, by omega⟩
  have h0 : wA a a := ⟨by omega, by omega⟩
  refine ⟨hS.mvP2 hH (fun b hb i _ => by rw [(hI b hb).2]), ⟨?_, ?_, ?_, ?_, ?_, ?_, ?_, ?_, ?_, fun p hp => ?_, fun q hq => ?_, fun r hr => ?_⟩, hw, ?_⟩
  · rw [(hI _ h0).1]; exact f0
  · rw [(hI _ h0).1]; exact f1
  · rw [(hI _ h0).1]; exact f2
  · rw [(hI _ h0).1]; exact f3
  · rw [(hI _ h0).1]; exact f4
  · rw [(hI _ h0).1]; exact f5
  · rw [(hI _ h0).1]; exact f6
  · rw [(hI _ h0).1]; exact f7
  · rw [(hI _ h0).1]; exact f11
  · rw [(hI _ (hc 1 (by omega))).1, (hI _ (hc 2 (by omega))).1]; exact fp p hp
  · rw [(hI _ (hc 4 (by omega))).1, (hI _ (hc 5 (by omega))).1, (hI _ (hc 6 (by omega))).1]; exact ff q hq
  · exact (fr r hr).mv (hI _ ⟨by omega, by omega⟩).1 (hI _ ⟨by omega, by omega⟩).1 (hI _ ⟨by omega, by omega⟩).1
  · rw [(hI _ h0).2]
    rcases hla with hla | ⟨l1, l2, l3, l4, l5, l6⟩
    · exact Or.inl hla
    · obtain ⟨g1, g2, g3, g4, g5⟩ := hl (by omega)
      refine Or.inr ⟨l1, by rw [g1]; exact l2, by rw [g5]; exact l3, by rw [g3]; exact l4, by rw [g2]; exact l5, fun j hj => by rw [g4]; exact l6 j hj⟩
/-- the class's object after its numbers, its worlds, its planner were written -/
theorem CP.upd {s t : mS} {D : dD} (h : CP s D) (n : dN) (W : wW) {A : Nat → Prop} (hF : FR A s t) (hA : ∀ b, A b → b = 1 ∨ (4 ≤ b ∧ b < 92) ∨ (93 ≤ b ∧ b < 98) ∨ b = cF s) (hP1 : ∀ b j, b ≤ 98 → j ≠ 16 → (b < 4 ∨ 92 ≤ b) → sP t b j = sP s b j) (h16 : sP t 4 16 = sP s 4 16) (hn : CN t n) (hm : nMk n = nMk (dNn D)) (hm3 : nMk n ≤ 3) (ht : nTl n = nTl (dNn D)) (hW : CW t 4 W) (h48 : WoS t 48) : CP t (n, dTp D, dTr D, W, dM D) := by
  obtain ⟨hS, hN, hTp, hTr, hc, hw, ⟨m1, ⟨mn, m2, m2'⟩, m3, m4, m5, m6, m7⟩⟩ := h
  have hH := hF.2.1
  have hF95 : cF s = 95 ∨ 124 < cF s := by
    rcases m3 with m3 | m3
    · exact Or.inl m3
    · exact Or.inr m3.1
  have hsame : ∀ b, b ≠ 1 → ¬ (4 ≤ b ∧ b < 92) → ¬ (93 ≤ b ∧ b < 98) → b ≠ cF s → sI t b = sI s b ∧ sL t b = sL s b ∧ sP t b = sP s b := fun b h1 h2 h3 h4 => hF.1 b (fun ha => by have := hA b ha; omega)
  have eF : cF t = cF s := hP1 93 5 (by decide) (by decide) (by decide)
  have eM : ∀ i, cM t i = cM s i := fun i => by
    show sP t 92 i = sP s 92 i
    rw [(hsame 92 (by decide) (by omega) (by omega) (by omega)).2.2]
  have eZ := hF.2.2.1
  have hL : ∀ b, LwA s b → LwA t b := by
    rintro b (hb | ⟨b1, b2, b3, b4, b5⟩)
    · exact Or.inl hb
    · refine Or.inr ⟨b1, by rw [eZ]; exact b2, by rw [eF]; exact b3, by rw [eF]; exact b4, fun i hi => ?_⟩
      rw [eM]
      exact b5 i hi
  have hPall : ∀ b j, 98 < b → b ≠ cF s → sP t b j = sP s b j := fun b j hb hf => by
    rw [(hsame b (by omega) (by omega) (by omega) hf).2.2]
  have hm16 : ∀ i, i < 3 → cM s i ≠ 0 → cM s i + 3 ≠ 0 ∧ ∀ b, wA (cM s i) b → sI t b = sI s b ∧ sP t b = sP s b := by
    intro i hi h0
    refine ⟨by omega, fun b hb => ?_⟩
    have h1 := (m5 i hi h0).1
    have hbf : b ≠ cF s := by
      rintro rfl
      rcases m3 with m3 | m3
      · have := hb.1; omega
      · exact m3.2.2 i hi h0 hb
    have hb1 := hb.1
    have := hsame b (by omega) (by omega) (by omega) hbf
    exact ⟨this.1, this.2.2⟩
  refine ⟨hS.mv (fun b _ => by rw [hH]) (fun b j hb h92 h93 h16' hw' => ?_), hn, fun k hk => ?_, fun k hk => ?_, hW, h48, ⟨by rw [eZ]; exact m1, ⟨mn, by rw [eF, hH]; exact m2, m2'⟩, ?_, by rw [h16]; exact hL _ m4, fun i hi h0 => ?_, fun i j hij hj h0 => ?_, fun i hi => ?_⟩⟩
  · by_cases hb98 : b ≤ 98
    · exact hP1 b j hb98 h16' hw'
    · exact hPall b j (by omega) (by omega)
  · have hk : k < nTl n := hk
    rw [ht] at hk
    rw [(hsame 3 (by decide) (by omega) (by omega) (by omega)).1]
    exact hTp k hk
  · obtain ⟨t1, t2, t3⟩ := hTr k hk
    have g1 := hsame (98 + 2 * k) (by omega) (by omega) (by omega) (by omega)
    have g2 := hsame (99 + 2 * k) (by omega) (by omega) (by omega) (by omega)
    rw [g1.1, g2.2.1]
    exact ⟨t1, t2, t3⟩
  · rw [eF]
    rcases m3 with m3 | ⟨m31, m32, m33⟩
    · exact Or.inl m3
    · refine Or.inr ⟨m31, by rw [eZ]; exact m32, fun i hi => ?_⟩
      rw [eM]
      exact m33 i hi
  · rw [eM] at h0 ⊢
    obtain ⟨k1, k2, k3⟩ := m5 i hi h0
    refine ⟨k1, by rw [eZ]; exact k2, ?_⟩
    have e := (hm16 i hi h0).2
    refine k3.mvP2 ?_ ?_
    · intro b _; rw [hH]
    · intro b hb j _; rw [(e b hb).2]
  · rw [eM] at h0
    obtain ⟨k1, k2⟩ := m6 i j hij hj h0
    exact ⟨by rw [eM]; exact k1, by rw [eM, eM]; exact k2⟩
  · have hi : i < nMk n := hi
    rw [hm] at hi
    obtain ⟨k1, k2, k3⟩ := m7 i hi
    have hi3 : i < 3 := by
      rcases Nat.lt_or_ge i 3 with h | h
      · exact h
      · exact absurd hi (by omega)
    have e := (hm16 i hi3 k1).2
    rw [eM]
    have q16 : sP t (cM s i) = sP s (cM s i) := (e _ ⟨by omega, by omega⟩).2
    refine ⟨k1, k2.mv (fun b _ => by rw [hH]) e (fun h0 => ?_), by rw [q16]; exact hL _ k3⟩
    rcases k3 with k3 | ⟨b1, b2, b3, b4, b5⟩
    · exact absurd k3 h0
    · have g1 := hsame (sP s (cM s i) 16) (by omega) (by omega) (by omega) b4
      have g2 := hsame (sP s (cM s i) 16 + 1) (by omega) (by omega) (by omega) b3
      exact ⟨by rw [hH], by rw [hH], g1.1, g2.1, g1.2.2⟩

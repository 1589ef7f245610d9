/-! WORLDS COPIED BY THE CLASS -/
theorem WoS.mvP {s t : mS} {c : Nat} (h : WoS s c) (hH : sH t = sH s) (hP : ∀ d i, i ≠ 16 → sP t d i = sP s d i) : WoS t c := by
  obtain ⟨a1, a2, a3, a4, a5, a6, a7, a8, a9, b1, b2, b3, b4, b5, b6, b7⟩ := h
  refine ⟨by rw [hH]; exact a1, by rw [hP _ _ (by decide)]; exact a2, by rw [hP _ _ (by decide)]; exact a3, by rw [hP _ _ (by decide)]; exact a4, by rw [hP _ _ (by decide)]; exact a5, by rw [hP _ _ (by decide)]; exact a6, by rw [hP _ _ (by decide)]; exact a7, by rw [hP _ _ (by decide)]; exact a8, by rw [hH]; exact a9, by rw [hH]; exact b1, by rw [hH]; exact b2, by rw [hH]; exact b3, by rw [hH]; exact b4, by rw [hH]; exact b5, by rw [hH]; exact b6, fun r hr => ?_⟩
  obtain ⟨c1, c2, c3, c4, c5, c6⟩ := b7 r hr
  exact ⟨by rw [hP _ _ (by omega)]; exact c1, by rw [hH]; exact c2, by rw [hP _ _ (by decide)]; exact c3, by rw [hP _ _ (by decide)]; exact c4, by rw [hH]; exact c5, by rw [hH]; exact c6⟩
theorem WoS.mv {s t : mS} {c : Nat} (h : WoS s c) (h2 : t.2 = s.2) : WoS t c := h.mvP (by show t.2.2.2.1 = s.2.2.2.1; rw [h2]) (fun d i _ => by show t.2.2.1 d i = s.2.2.1 d i; rw [h2])
theorem WoS.w {s : mS} {c a j : Nat} {x : Int32} (h : WoS s c) : WoS (wI s a j x) c := h.mv rfl
theorem WoS.cp {s : mS} {c a0 sp a dp n : Nat} (h : WoS s c) : WoS (cpI s a0 sp a dp n) c := h.mv rfl
theorem WoS.p {s : mS} {c a x : Nat} (h : WoS s c) : WoS (wP s a 16 x) c := h.mvP rfl (fun d i hi => by rw [sP_wP, if_neg (by omega)])
theorem RoS.w {s : mS} {y a j : Nat} {x : Int32} (h : RoS s y) : RoS (wI s a j x) y := h.mv rfl
theorem RoS.cp {s : mS} {y a0 sp a dp n : Nat} (h : RoS s y) : RoS (cpI s a0 sp a dp n) y := h.mv rfl
theorem sI_cpI_ne {s : mS} {a0 sp a dp n b i : Nat} (h : b ≠ a) : sI (cpI s a0 sp a dp n) b i = sI s b i := if_neg (fun e => h e.1)
theorem sI_cpI_eq {s : mS} {a0 a n i : Nat} (h : i < n) : sI (cpI s a0 0 a 0 n) a i = sI s a0 i := by
  show (if a = a ∧ 0 ≤ i ∧ i < 0 + n then sI s a0 (0 + (i - 0)) else _) = _
  rw [if_pos ⟨rfl, by omega, by omega⟩]
  congr 1
  omega
theorem FI.cp {A : Nat → Prop} {s : mS} {a0 sp a dp n : Nat} (ha : A a) : FI A s (cpI s a0 sp a dp n) := ⟨fun b hb => by
  funext i
  exact sI_cpI_ne (fun e => hb (by rw [e]; exact ha)), rfl⟩
theorem x_cp {s : mS} {a0 a n m : Nat} {α : Type} {k : mM α} (h1 : sH s a0 = (11, n)) (h2 : sH s a = (11, n)) (hm : m ≤ n) (hn : n < 2147483648) : bCpI a0 (nI 0) a (nI 0) (nI m) k s = k (cpI s a0 0 a 0 m) := by
  unfold bCpI
  rw [if_pos ?_, nI_clamp (by omega), nI_clamp (by omega)]
  refine ⟨by rw [h1], by rw [h2], nI_pos (by omega), nI_pos (by omega), nI_pos (by omega), ?_, ?_⟩
  · rw [nI_clamp (by omega), nI_clamp (by omega), h1]; show 0 + m ≤ n; omega
  · rw [nI_clamp (by omega), nI_clamp (by omega), h2]; show 0 + m ≤ n; omega
section RSS
variable {w : mS} {x : Nat} {α : Type}
theorem p_GI (h : RoS w x) {j : Nat} {f : Int32 → mM α} : bGI 3 x j f w = f (sI w x j) w := xGI h.1
theorem p_PI (h : RoS w x) {j : Nat} {v : Int32} {m : mM α} : bPI 3 x j v m w = m (wI w x j v) := xPI h.1
theorem p_PZ (h : RoS w x) {j : Nat} {b : Bool} {m : mM α} : bPZ 3 x j (nI b.toNat) m w = m (wI w x j (nI b.toNat)) := by rw [e_PZ, if_pos h.1]
theorem p_G6 (h : RoS w x) {f : Nat → mM α} : bGR 3 x 6 f w = f (x + 1) w := xGR h.1 h.2.1
theorem p_G7 (h : RoS w x) {f : Nat → mM α} : bGR 3 x 7 f w = f (x + 2) w := xGR h.1 h.2.2.1
theorem p_cp1 {y : Nat} (h1 : RoS w y) (h2 : RoS w x) {m : mM α} : bCpI (y + 1) (nI 0) (x + 1) (nI 0) (nI 8) m w = m (cpI w (y + 1) 0 (x + 1) 0 8) := x_cp (n := 8) h1.2.2.2.1 h2.2.2.2.1 (by omega) (by omega)
theorem p_cp2 {y : Nat} (h1 : RoS w y) (h2 : RoS w x) {m : mM α} : bCpI (y + 2) (nI 0) (x + 2) (nI 0) (nI 8) m w = m (cpI w (y + 2) 0 (x + 2) 0 8) := x_cp (n := 8) h1.2.2.2.2 h2.2.2.2.2 (by omega) (by omega)
end RSS
theorem t_copyFrom {s : mS} {x y : Nat} {ρ : rR} (hS : RoS s x) (hS2 : RoS s y) (hD : RoD s y ρ) (hxy : x + 2 < y ∨ y + 2 < x) (h8 : rN ρ ≤ 8) : ∃ t, fX3_copyFrom x y s = some ((), t) ∧ FI (rAt x) s t ∧ RoD t x ρ := by
  obtain ⟨d0, d1, d2, d3, d4, d5, d6⟩ := hD
  refine ⟨cpI (cpI (wI (wI (wI (wI (wI (wI s x 0 (oI (rO ρ))) x 1 (oI (rB ρ))) x 2 (nI (rN ρ))) x 3 (nI (rL ρ))) x 4 (nI (rH ρ).toNat)) x 5 (nI (rS ρ))) (y + 1) 0 (x + 1) 0 8) (y + 2) 0 (x + 2) 0 8, ?_, ?_, ?_⟩
  · unfold fX3_copyFrom
    simp (disch := first | omega | ((repeat (first | apply RoS.w | apply RoS.cp)); assumption)) only [p_GI, p_PI, p_PZ, p_G6, p_G7, p_cp1, p_cp2, sI_wI_ne, d0, d1, d2, d3, d4, d5, li_0, li_8, e_ret]
  · exact (((((((FI.w (A := rAt x) 0 _ (Or.inl rfl)).tr (FI.w (A := rAt x) 1 _ (Or.inl rfl))).tr (FI.w (A := rAt x) 2 _ (Or.inl rfl))).tr (FI.w (A := rAt x) 3 _ (Or.inl rfl))).tr (FI.w (A := rAt x) 4 _ (Or.inl rfl))).tr (FI.w (A := rAt x) 5 _ (Or.inl rfl))).tr (FI.cp (A := rAt x) (Or.inr (Or.inl rfl)))).tr (FI.cp (A := rAt x) (Or.inr (Or.inr rfl)))
  · refine ⟨?_, ?_, ?_, ?_, ?_, ?_, fun k hk => ?_⟩
    · simp (disch := omega) only [sI_cpI_ne, sI_wI_eq, sI_wI_ne]
    · simp (disch := omega) only [sI_cpI_ne, sI_wI_eq, sI_wI_ne]
    · simp (disch := omega) only [sI_cpI_ne, sI_wI_eq, sI_wI_ne]
    · simp (disch := omega) only [sI_cpI_ne, sI_wI_eq, sI_wI_ne]
    · simp (disch := omega) only [sI_cpI_ne, sI_wI_eq, sI_wI_ne]
    · simp (disch := omega) only [sI_cpI_ne, sI_wI_eq, sI_wI_ne]
    · simp (disch := omega) only [sI_cpI_ne, sI_cpI_eq, sI_wI_ne]
      exact d6 k hk
/-- the cells of a world -/
abbrev wA (a : Nat) : Nat → Prop := fun b => a ≤ b ∧ b < a + 44
/-- ints and references of the cells A are written -/
def FR (A : Nat → Prop) (s t : mS) : Prop := (∀ b, ¬ A b → sI t b = sI s b ∧ sL t b = sL s b ∧ sP t b = sP s b) ∧ sH t = sH s ∧ sZ t = sZ s ∧ sW t = sW s
theorem FR.rf {A : Nat → Prop} {s : mS} : FR A s s := ⟨fun _ _ => ⟨rfl, rfl, rfl⟩, rfl, rfl, rfl⟩
theorem FR.tr {A : Nat → Prop} {s t u : mS} (h1 : FR A s t) (h2 : FR A t u) : FR A s u := ⟨fun b hb => ⟨(h2.1 b hb).1.trans (h1.1 b hb).1, (h2.1 b hb).2.1.trans (h1.1 b hb).2.1, (h2.1 b hb).2.2.trans (h1.1 b hb).2.2⟩, h2.2.1.trans h1.2.1, h2.2.2.1.trans h1.2.2.1, h2.2.2.2.trans h1.2.2.2⟩
theorem FR.mo {A B : Nat → Prop} {s t : mS} (h : FR A s t) (hAB : ∀ b, A b → B b) : FR B s t := ⟨fun b hb => h.1 b (fun ha => hb (hAB b ha)), h.2⟩
theorem FI.fr {A : Nat → Prop} {s t : mS} (h : FI A s t) : FR A s t := ⟨fun b hb => ⟨h.1 b hb, by rw [h.L], by rw [h.P]⟩, h.H, h.Z, h.W⟩
theorem FR.p {A : Nat → Prop} {s : mS} {a x : Nat} (j : Nat) (ha : A a) : FR A s (wP s a j x) := ⟨fun b hb => ⟨rfl, rfl, by
  funext i
  rw [sP_wP, if_neg (fun e => hb (by rw [e.1]; exact ha))]⟩, rfl, rfl, rfl⟩
theorem FR.l {A : Nat → Prop} {s : mS} {a : Nat} {x : Int64} (j : Nat) (ha : A a) : FR A s (wL s a j x) := ⟨fun b hb => ⟨rfl, by
  funext i
  rw [sL_wL, if_neg (fun e => hb (by rw [e.1]; exact ha))], rfl⟩, rfl, rfl, rfl⟩
section WSS
variable {w : mS} {c d : Nat} {α : Type}
theorem w_GI (h : WoS w c) {j : Nat} {f : Int32 → mM α} : bGI 7 c j f w = f (sI w c j) w := xGI h.1
theorem w_PI (h : WoS w c) {j : Nat} {v : Int32} {m : mM α} : bPI 7 c j v m w = m (wI w c j v) := xPI h.1
theorem w_G8 (h : WoS w c) {f : Nat → mM α} : bGR 7 c 8 f w = f (c + 1) w := xGR h.1 h.2.1
theorem w_G9 (h : WoS w c) {f : Nat → mM α} : bGR 7 c 9 f w = f (c + 2) w := xGR h.1 h.2.2.1
theorem w_G10 (h : WoS w c) {f : Nat → mM α} : bGR 7 c 10 f w = f (c + 3) w := xGR h.1 h.2.2.2.1
theorem w_G12 (h : WoS w c) {f : Nat → mM α} : bGR 7 c 12 f w = f (c + 4) w := xGR h.1 h.2.2.2.2.1
theorem w_G13 (h : WoS w c) {f : Nat → mM α} : bGR 7 c 13 f w = f (c + 5) w := xGR h.1 h.2.2.2.2.2.1
theorem w_G14 (h : WoS w c) {f : Nat → mM α} : bGR 7 c 14 f w = f (c + 6) w := xGR h.1 h.2.2.2.2.2.2.1
theorem w_G15 (h : WoS w c) {f : Nat → mM α} : bGR 7 c 15 f w = f (c + 7) w := xGR h.1 h.2.2.2.2.2.2.2.1
theorem w_G16 (h : WoS w c) {f : Nat → mM α} : bGR 7 c 16 f w = f (sP w c 16) w := xGR h.1 rfl
theorem w_P16 (h : WoS w c) {x : Nat} {m : mM α} : bPR 7 c 16 x m w = m (wP w c 16 x) := xPR h.1
theorem w_cv (h : WoS w c) {β : Type} {F : mM β} {k : β → mM α} : bCallV 7 c F k w = bCall F k w := e_callV h.1
theorem w_ar (h : WoS w c) {f : Nat → mM α} {r : Nat} (hr : r < 12) : bAR 14 (c + 3) (nI r) f w = f (c + 8 + 3 * r) w := xAR h.2.2.2.2.2.2.2.2.2.2.1 hr (by decide) (h.2.2.2.2.2.2.2.2.2.2.2.2.2.2.2 r hr).1
theorem w_cp1 (h1 : WoS w c) (h2 : WoS w d) {m : mM α} : bCpI (c + 1) (nI 0) (d + 1) (nI 0) (nI 8) m w = m (cpI w (c + 1) 0 (d + 1) 0 8) := x_cp (n := 8) h1.2.2.2.2.2.2.2.2.1 h2.2.2.2.2.2.2.2.2.1 (by omega) (by omega)
theorem w_cp2 (h1 : WoS w c) (h2 : WoS w d) {m : mM α} : bCpI (c + 2) (nI 0) (d + 2) (nI 0) (nI 8) m w = m (cpI w (c + 2) 0 (d + 2) 0 8) := x_cp (n := 8) h1.2.2.2.2.2.2.2.2.2.1 h2.2.2.2.2.2.2.2.2.2.1 (by omega) (by omega)
theorem w_cp4 (h1 : WoS w c) (h2 : WoS w d) {m : mM α} : bCpI (c + 4) (nI 0) (d + 4) (nI 0) (nI 4) m w = m (cpI w (c + 4) 0 (d + 4) 0 4) := x_cp (n := 4) h1.2.2.2.2.2.2.2.2.2.2.2.1 h2.2.2.2.2.2.2.2.2.2.2.2.1 (by omega) (by omega)
theorem w_cp5 (h1 : WoS w c) (h2 : WoS w d) {m : mM α} : bCpI (c + 5) (nI 0) (d + 5) (nI 0) (nI 4) m w = m (cpI w (c + 5) 0 (d + 5) 0 4) := x_cp (n := 4) h1.2.2.2.2.2.2.2.2.2.2.2.2.1 h2.2.2.2.2.2.2.2.2.2.2.2.2.1 (by omega) (by omega)
theorem w_cp6 (h1 : WoS w c) (h2 : WoS w d) {m : mM α} : bCpI (c + 6) (nI 0) (d + 6) (nI 0) (nI 4) m w = m (cpI w (c + 6) 0 (d + 6) 0 4) := x_cp (n := 4) h1.2.2.2.2.2.2.2.2.2.2.2.2.2.1 h2.2.2.2.2.2.2.2.2.2.2.2.2.2.1 (by omega) (by omega)
end WSS
theorem LaD.mv {s t : mS} {b : Nat} {L : List (List (Nat × Nat × Nat) × Nat)} (h : LaD s b L) (hH : sH t = sH s) (h2 : b ≠ 0 → sI t b = sI s b ∧ sI t (b + 1) = sI s (b + 1) ∧ sP t b = sP s b) : LaD t b L := by
  rcases h with h | ⟨h1, h3⟩
  · exact Or.inl h
  · obtain ⟨e1, e2, e3⟩ := h2 (by omega)
    refine Or.inr ⟨h1, ?_⟩
    rw [hH, e1, e2, e3]
    exact h3
def cpH (s : mS) (a b : Nat) : mS := cpI (cpI (cpI (cpI (cpI (wP (wI (wI (wI (wI (wI (wI (wI (wI (wI s a 0 (sI s b 0)) a 1 (sI s b 1)) a 2 (sI s b 2)) a 3 (sI s b 3)) a 4 (sI s b 4)) a 5 (sI s b 5)) a 6 (sI s b 6)) a 7 (sI s b 7)) a 11 (sI s b 11)) a 16 (sP s b 16)) (b + 1) 0 (a + 1) 0 8) (b + 2) 0 (a + 2) 0 8) (b + 4) 0 (a + 4) 0 4) (b + 5) 0 (a + 5) 0 4) (b + 6) 0 (a + 6) 0 4
theorem cpH_fr (s : mS) (a b : Nat) : FR (wA a) s (cpH s a b) := by
  have hA : ∀ k, k < 44 → wA a (a + k) := fun k hk => ⟨by omega, by omega⟩
  have h0 : wA a a := ⟨by omega, by omega⟩
  unfold cpH
  exact ((((((((((((((FI.w _ _ h0).tr (FI.w _ _ h0)).tr (FI.w _ _ h0)).tr (FI.w _ _ h0)).tr (FI.w _ _ h0)).tr (FI.w _ _ h0)).tr (FI.w _ _ h0)).tr (FI.w _ _ h0)).tr (FI.w _ _ h0)).fr.tr (FR.p 16 h0)).tr (FI.cp (hA 1 (by omega))).fr).tr (FI.cp (hA 2 (by omega))).fr).tr (FI.cp (hA 4 (by omega))).fr).tr (FI.cp (hA 5 (by omega))).fr).tr (FI.cp (hA 6 (by omega))).fr
theorem c_copyFrom {s : mS} {a b : Nat} {W : wW} (hS : WoS s a) (h : CW s b W) (hab : a + 43 < b ∨ b + 43 < a) (hl : sP s b 16 ≠ 0 → ¬ wA a (sP s b 16) ∧ ¬ wA a (sP s b 16 + 1)) : ∃ t, fX7_copyFrom a b s = some ((), t) ∧ FR (wA a) s t ∧ CW t a W ∧ sP t a 16 = sP s b 16 := by
  have hB := h.1
  unfold fX7_copyFrom
  obtain ⟨iY, iW, iB, iS, iR, iRb, iD, iP, iPa, iDi, iF, iFd, iRo, iOw, iBo, iLa⟩ := h.wi
  have hS0 : WoS (cpH s a b) a := hS.mvP rfl (fun d i hi => if_neg (fun e => hi e.2))
  have hB0 : WoS (cpH s a b) b := hB.mvP rfl (fun d i hi => if_neg (fun e => hi e.2))
  have hFr := cpH_fr s a b
  have key := loop_s (fun n k => fX7_copyFrom_154 n a b (nI k)) (fun k u => FI (fun c => a + 7 < c ∧ c < a + 44) (cpH s a b) u ∧ ∀ r, r < k → RoD u (a + 8 + 3 * r) (wRo W r)) 12 (fun q => FI (fun c => a + 7 < c ∧ c < a + 44) (cpH s a b) q.2 ∧ ∀ r, r < 12 → RoD q.2 (a + 8 + 3 * r) (wRo W r)) ?_ ?_ fu 0 (cpH s a b) (by omega) (by unfold fu; omega) ⟨FI.rf, fun r hr => absurd hr (by omega)⟩
  · obtain ⟨⟨⟨⟩, t⟩, h3, h4, h5⟩ := key
    have hFt : FR (wA a) s t := hFr.tr (h4.fr.mo fun c hc => ⟨by omega, hc.2⟩)
    refine ⟨t, ?_, hFt, ?_, ?_⟩
    · simp (disch := first | omega | ((repeat (first | apply WoS.w | apply WoS.cp | apply WoS.p)); assumption)) only [w_GI, w_PI, w_G8, w_G9, w_G12, w_G13, w_G14, w_G16, w_P16, w_cp1, w_cp2, w_cp4, w_cp5, w_cp6, sI_wI_ne, sP_wI, li_0, li_4, li_8]
      exact h3
    · have hSt := hS0.mv h4.2
      obtain ⟨e0, e1, e2, e3, e4, e5, e6, e7, e11, ep, ef, er⟩ := h.2.1
      have g : ∀ c, a ≤ c → c ≤ a + 7 → sI t c = sI (cpH s a b) c := fun c h1 h2 => h4.1 c (by omega)
      have q : sP t a 16 = sP s b 16 := by
        rw [h4.P]
        show (if a = a ∧ 16 = 16 then sP s b 16 else _) = _
        rw [if_pos ⟨rfl, rfl⟩]
      refine ⟨hSt, ⟨?_, ?_, ?_, ?_, ?_, ?_, ?_, ?_, ?_, fun p hp => ?_, fun f hf => ?_, h5⟩, h.wi, ?_⟩
      · rw [g _ (by omega) (by omega)]; unfold cpH; simp (disch := omega) only [sI_cpI_ne, sI_wP, sI_wI_eq, sI_wI_ne]; exact e0
      · rw [g _ (by omega) (by omega)]; unfold cpH; simp (disch := omega) only [sI_cpI_ne, sI_wP, sI_wI_eq, sI_wI_ne]; exact e1
      · rw [g _ (by omega) (by omega)]; unfold cpH; simp (disch := omega) only [sI_cpI_ne, sI_wP, sI_wI_eq, sI_wI_ne]; exact e2
      · rw [g _ (by omega) (by omega)]; unfold cpH; simp (disch := omega) only [sI_cpI_ne, sI_wP, sI_wI_eq, sI_wI_ne]; exact e3
      · rw [g _ (by omega) (by omega)]; unfold cpH; simp (disch := omega) only [sI_cpI_ne, sI_wP, sI_wI_eq, sI_wI_ne]; exact e4
      · rw [g _ (by omega) (by omega)]; unfold cpH; simp (disch := omega) only [sI_cpI_ne, sI_wP, sI_wI_eq, sI_wI_ne]; exact e5
      · rw [g _ (by omega) (by omega)]; unfold cpH; simp (disch := omega) only [sI_cpI_ne, sI_wP, sI_wI_eq, sI_wI_ne]; exact e6
      · rw [g _ (by omega) (by omega)]; unfold cpH; simp (disch := omega) only [sI_cpI_ne, sI_wP, sI_wI_eq, sI_wI_ne]; exact e7
      · rw [g _ (by omega) (by omega)]; unfold cpH; simp (disch := omega) only [sI_cpI_ne, sI_wP, sI_wI_eq, sI_wI_ne]; exact e11
      · rw [g _ (by omega) (by omega), g _ (by omega) (by omega)]; unfold cpH; simp (disch := omega) only [sI_cpI_ne, sI_cpI_eq, sI_wP, sI_wI_eq, sI_wI_ne]; exact ep p hp
      · rw [g _ (by omega) (by omega), g _ (by omega) (by omega), g _ (by omega) (by omega)]; unfold cpH; simp (disch := omega) only [sI_cpI_ne, sI_cpI_eq, sI_wP, sI_wI_eq, sI_wI_ne]; exact ef f hf
      · rw [q]
        refine h.2.2.2.mv hFt.2.1 fun h0 => ?_
        obtain ⟨n1, n2⟩ := hl h0
        exact ⟨(hFt.1 _ n1).1, (hFt.1 _ n2).1, (hFt.1 _ n1).2.2⟩
    · rw [h4.P]
      show (if a = a ∧ 16 = 16 then sP s b 16 else _) = _
      rw [if_pos ⟨rfl, rfl⟩]
  · rintro n k u hk ⟨hF, hu⟩
    have hk' : ¬ 12 ≤ k := by omega
    have hSu := hS0.mv hF.2
    have hBu := hB0.mv hF.2
    have g : ∀ c, b ≤ c → c < b + 44 → sI u c = sI s c := fun c h1 h2 => by
      rw [hF.1 c (by omega), (hFr.1 c (by show ¬ (a ≤ c ∧ c < a + 44); omega)).1]
    have hRb : RoD u (b + 8 + 3 * k) (wRo W k) := (h.rd hk).mv (g _ (by omega) (by omega)) (g _ (by omega) (by omega)) (g _ (by omega) (by omega))
    obtain ⟨t, h1, h2, h3⟩ := t_copyFrom (hSu.2.2.2.2.2.2.2.2.2.2.2.2.2.2.2 k hk).2 (hBu.2.2.2.2.2.2.2.2.2.2.2.2.2.2.2 k hk).2 hRb (by omega) (h.ri k).1
    refine ⟨t, ⟨hF.tr (h2.mo fun c hc => ?_), fun r hr => ?_⟩, ?_⟩
    · have hc : c = a + 8 + 3 * k ∨ c = a + 8 + 3 * k + 1 ∨ c = a + 8 + 3 * k + 2 := hc
      exact ⟨by omega, by omega⟩
    · by_cases hrk : r = k
      · rw [hrk]; exact h3
      · exact (hu r (by omega)).fi h2 (by show ¬ (_ = _ ∨ _ = _ ∨ _ = _); omega) (by show ¬ (_ = _ ∨ _ = _ ∨ _ = _); omega) (by show ¬ (_ = _ ∨ _ = _ ∨ _ = _); omega)
    · show fX7_copyFrom_154 (n + 1) a b _ u = _
      rw [qX7_copyFrom_154]
      simp (disch := first | omega | ((repeat (first | apply WoS.w | apply WoS.cp | apply WoS.p)); assumption)) only [w_G10, w_ar, e_callV (hSu.2.2.2.2.2.2.2.2.2.2.2.2.2.2.2 k hk).2.1, h1, li_0, li_1, li_2, li_3, li_4, li_5, li_6, li_7, li_8, li_9, li_10, li_11, li_12, li_13, li_14, li_15, li_16, li_17, li_20, li_24, li_25, li_29, li_31, li_32, li_33, li_37, li_40, li_41, li_48, li_49, li_50, li_56, li_57, li_59, li_60, li_61, li_62, li_63, li_70, li_73, li_85, li_97, li_98, li_99, li_100, li_101, li_102, li_103, li_104, li_105, li_107, li_108, li_109, li_110, li_111, li_112, li_114, li_115, li_116, li_117, li_118, li_119, li_121, li_122, li_140, li_193, li_200, li_240, li_255, li_289, li_290, li_300, li_302, li_314, li_326, li_860, li_880, li_900, li_999, li_1024, li_2801, li_3440, li_3441, li_3442, li_3443, li_3444, li_3447, li_3448, li_3449, li_3457, li_3465, li_3469, li_3473, li_3477, li_3501, li_3513, li_3525, li_3537, li_3633, li_3730, li_3742, li_3754, li_3766, li_4095, li_4096, li_4300, li_9011, li_9999, li_10000, li_36864, li_65536, li_1000000, ll_0, ll_1, ll_100, ll_11, ll_16, ll_20, ll_3, ll_32, ll_50, ll_8, ll_96, ll_99, ll_9999, ne_m1, e_if, e_ret, e_rz0, e_rz1, e_rzb, e_call, bCallX_eq, nI_add, nI_mul, nI_succ1, le_i, lt_i, eq_i, m1_i, m1_le, m1_lt, m1_ge, m1_eq, ite_true, ite_false, if_true, if_false, hk']
  · rintro n u ⟨hF, hu⟩
    refine ⟨((), u), ?_, hF, hu⟩
    show fX7_copyFrom_154 (n + 1) a b _ u = _
    rw [qX7_copyFrom_154]
    simp (disch := omega) only [li_0, li_1, li_2, li_3, li_4, li_5, li_6, li_7, li_8, li_9, li_10, li_11, li_12, li_13, li_14, li_15, li_16, li_17, li_20, li_24, li_25, li_29, li_31, li_32, li_33, li_37, li_40, li_41, li_48, li_49, li_50, li_56, li_57, li_59, li_60, li_61, li_62, li_63, li_70, li_73, li_85, li_97, li_98, li_99, li_100, li_101, li_102, li_103, li_104, li_105, li_107, li_108, li_109, li_110, li_111, li_112, li_114, li_115, li_116, li_117, li_118, li_119, li_121, li_122, li_140, li_193, li_200, li_240, li_255, li_289, li_290, li_300, li_302, li_314, li_326, li_860, li_880, li_900, li_999, li_1024, li_2801, li_3440, li_3441, li_3442, li_3443, li_3444, li_3447, li_3448, li_3449, li_3457, li_3465, li_3469, li_3473, li_3477, li_3501, li_3513, li_3525, li_3537, li_3633, li_3730, li_3742, li_3754, li_3766, li_4095, li_4096, li_4300, li_9011, li_9999, li_10000, li_36864, li_65536, li_1000000, ll_0, ll_1, ll_100, ll_11, ll_16, ll_20, ll_3, ll_32, ll_50, ll_8, ll_96, ll_99, ll_9999, ne_m1, e_if, e_ret, e_rz0, e_rz1, e_rzb, e_call, bCallX_eq, nI_add, nI_mul, nI_succ1, le_i, lt_i, eq_i, m1_i, m1_le, m1_lt, m1_ge, m1_eq, ite_true, ite_false, if_true, if_false, Nat.le_refl]

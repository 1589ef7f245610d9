/-! NEW CELLS: a rope, a world -/
theorem sZ_wN (s : mS) (k n : Nat) : sZ (wN s k n) = sZ s + 1 := rfl
theorem sW_wN (s : mS) (k n : Nat) : sW (wN s k n) = sW s + n := rfl
theorem sI_wN (s : mS) (k n b i : Nat) : sI (wN s k n) b i = if b = sZ s + 1 then 0 else sI s b i := rfl
theorem sL_wN (s : mS) (k n b i : Nat) : sL (wN s k n) b i = if b = sZ s + 1 then 0 else sL s b i := rfl
theorem sP_wN (s : mS) (k n b i : Nat) : sP (wN s k n) b i = if b = sZ s + 1 then 0 else sP s b i := rfl
theorem sH_wN (s : mS) (k n b : Nat) : sH (wN s k n) b = if b = sZ s + 1 then (k, n) else sH s b := rfl
theorem i_new {k : Nat} {α : Type} {f : Nat → mM α} {s : mS} : bNew k f s = f (sZ s + 1) (wN s k (mN k)) := rfl
theorem i_na {k n : Nat} {α : Type} {f : Nat → mM α} {s : mS} (hn : n ≤ 67108864) : bNa k (nI n) f s = f (sZ s + 1) (wN s k n) := by
  unfold bNa
  rw [nI_clamp (by omega), if_pos ⟨nI_pos (by omega), by omega⟩]
theorem i_obj {a : Nat} {α : Type} {m : mM α} {s : mS} (h : (sH s a).1 < 10) : bObj a m s = m s := if_pos h
theorem i_sr {k a i x n : Nat} {α : Type} {m : mM α} {s : mS} (h : sH s a = (k, n)) (hi : i < n) (hn : n < 2147483648) (hx : (sH s x).1 = eKd k) : bSR k a (nI i) x m s = m (wP s a i x) := by
  unfold bSR
  rw [h, if_pos ⟨rfl, inB_nI hi hn, hx⟩, nI_clamp (by omega)]
/-- cells more, the old ones as they were -/
def Gw (s t : mS) (k w : Nat) : Prop := (∀ b, b ≤ sZ s → sI t b = sI s b ∧ sL t b = sL s b ∧ sP t b = sP s b ∧ sH t b = sH s b) ∧ sZ t = sZ s + k ∧ sW t = sW s + w
theorem Gw.rf {s : mS} : Gw s s 0 0 := ⟨fun _ _ => ⟨rfl, rfl, rfl, rfl⟩, rfl, rfl⟩
theorem Gw.tr {s t u : mS} {k l w x : Nat} (h1 : Gw s t k w) (h2 : Gw t u l x) : Gw s u (k + l) (w + x) := by
  obtain ⟨a1, a2, a3⟩ := h1
  obtain ⟨b1, b2, b3⟩ := h2
  refine ⟨fun b hb => ?_, by omega, by omega⟩
  obtain ⟨c1, c2, c3, c4⟩ := a1 b hb
  obtain ⟨d1, d2, d3, d4⟩ := b1 b (by omega)
  exact ⟨d1.trans c1, d2.trans c2, d3.trans c3, d4.trans c4⟩
theorem Gw.n (s : mS) (k n : Nat) : Gw s (wN s k n) 1 n := ⟨fun b hb => ⟨by funext i; rw [sI_wN, if_neg (by omega)], by funext i; rw [sL_wN, if_neg (by omega)], by funext i; rw [sP_wN, if_neg (by omega)], by rw [sH_wN, if_neg (by omega)]⟩, rfl, rfl⟩
theorem Gw.i {s t : mS} {k w a j : Nat} {x : Int32} (h : Gw s t k w) (ha : sZ s < a) : Gw s (wI t a j x) k w := ⟨fun b hb => ⟨(by funext i; exact sI_wI_ne (Or.inl (by omega)) : sI (wI t a j x) b = sI t b).trans (h.1 b hb).1, (h.1 b hb).2⟩, h.2⟩
theorem Gw.p {s t : mS} {k w a j x : Nat} (h : Gw s t k w) (ha : sZ s < a) : Gw s (wP t a j x) k w := ⟨fun b hb => ⟨(h.1 b hb).1, (h.1 b hb).2.1, (by funext i; rw [sP_wP, if_neg (by omega)] : sP (wP t a j x) b = sP t b).trans (h.1 b hb).2.2.1, (h.1 b hb).2.2.2⟩, h.2⟩
theorem Gw.l {s t : mS} {k w a j : Nat} {x : Int64} (h : Gw s t k w) (ha : sZ s < a) : Gw s (wL t a j x) k w := ⟨fun b hb => ⟨(h.1 b hb).1, (by funext i; rw [sL_wL, if_neg (by omega)] : sL (wL t a j x) b = sL t b).trans (h.1 b hb).2.1, (h.1 b hb).2.2⟩, h.2⟩
theorem hN {w : mS} {a k k' n : Nat} (h : (sH w a).1 = k) (ha : a ≤ sZ w) : (sH (wN w k' n) a).1 = k := by
  rw [sH_wN, if_neg (by omega)]
  exact h
theorem sHo {w : mS} {b k n : Nat} (h : b ≤ sZ w) : sH (wN w k n) b = sH w b := by rw [sH_wN, if_neg (by omega)]
def rpN (v : mS) : mS := wP (wN (wP (wN (wI (wI (wI (wI (wI (wI (wN v 3 8) (sZ v + 1) 0 mI) (sZ v + 1) 1 mI) (sZ v + 1) 2 (nI 0)) (sZ v + 1) 3 (nI 0)) (sZ v + 1) 4 (nI 0)) (sZ v + 1) 5 (nI 0)) 11 8) (sZ v + 1) 6 (sZ v + 1 + 1)) 11 8) (sZ v + 1) 7 (sZ v + 1 + 2)
theorem rpN_g (v : mS) : Gw v (rpN v) 3 24 := by
  have h1 : Gw v (wI (wI (wI (wI (wI (wI (wN v 3 8) (sZ v + 1) 0 mI) (sZ v + 1) 1 mI) (sZ v + 1) 2 (nI 0)) (sZ v + 1) 3 (nI 0)) (sZ v + 1) 4 (nI 0)) (sZ v + 1) 5 (nI 0)) 1 8 := ((((((Gw.n v 3 8).i (by omega)).i (by omega)).i (by omega)).i (by omega)).i (by omega)).i (by omega)
  have h2 := (h1.tr (Gw.n _ 11 8)).p (j := 6) (x := sZ v + 1 + 1) (show sZ v < sZ v + 1 by omega)
  exact (h2.tr (Gw.n _ 11 8)).p (show sZ v < sZ v + 1 by omega)
theorem rpN_S (v : mS) : RoS (rpN v) (sZ v + 1) := by
  unfold rpN
  refine ⟨?_, ?_, ?_, ?_, ?_⟩ <;> simp [sP_wP, sP_wN, sP_wI, sH_wN, sH_wP, sH_wI, sZ_wN, sZ_wI, sZ_wP]
theorem rpN_D (v : mS) : RoD (rpN v) (sZ v + 1) r0 := by
  unfold rpN
  refine ⟨?_, ?_, ?_, ?_, ?_, ?_, fun k hk => absurd hk (by show ¬ k < 0; omega)⟩ <;> simp [sI_wP, sI_wN, sI_wI, sZ_wN, sZ_wI, sZ_wP] <;> rfl
theorem c_ropeNew (v : mS) {α : Type} (K : Nat → mM α) : bNew 3 (fun x2 => bCallV 3 x2 (fX3_init x2) (fun _ => K x2)) v = K (sZ v + 1) (rpN v) := by
  have e : fX3_init (sZ v + 1) (wN v 3 8) = some ((), rpN v) := by
    unfold fX3_init
    have h0 : (sH (wN v 3 8) (sZ v + 1)).1 = 3 := by rw [sH_wN, if_pos rfl]
    refine (i_obj (by rw [h0]; decide)).trans ?_
    refine Eq.trans (xPI (by exact h0)) ?_
    refine Eq.trans (xPI (by exact h0)) ?_
    refine Eq.trans (xPI (by exact h0)) ?_
    refine Eq.trans (xPI (by exact h0)) ?_
    refine Eq.trans (xPZ (by exact h0) (Or.inl rfl)) ?_
    refine Eq.trans (xPI (by exact h0)) ?_
    have h1 := hN (k' := 11) (n := 8) (w := wI (wI (wI (wI (wI (wI (wN v 3 8) (sZ v + 1) 0 mI) (sZ v + 1) 1 mI) (sZ v + 1) 2 (nI 0)) (sZ v + 1) 3 (nI 0)) (sZ v + 1) 4 (nI 0)) (sZ v + 1) 5 (nI 0)) h0 (by show sZ v + 1 ≤ sZ v + 1; omega)
    refine Eq.trans (i_na (n := 8) (by decide)) ?_
    refine Eq.trans (xPR (by exact h1)) ?_
    have h2 := hN (k' := 11) (n := 8) (w := wP (wN (wI (wI (wI (wI (wI (wI (wN v 3 8) (sZ v + 1) 0 mI) (sZ v + 1) 1 mI) (sZ v + 1) 2 (nI 0)) (sZ v + 1) 3 (nI 0)) (sZ v + 1) 4 (nI 0)) (sZ v + 1) 5 (nI 0)) 11 8) (sZ v + 1) 6 (sZ v + 1 + 1)) h1 (by show sZ v + 1 ≤ sZ v + 1 + 1; omega)
    refine Eq.trans (i_na (n := 8) (by decide)) ?_
    refine Eq.trans (xPR (by exact h2)) ?_
    rfl
  rw [i_new, e_callV (by show (sH (wN v 3 8) (sZ v + 1)).1 = 3; rw [sH_wN, if_pos rfl])]
  show bCall (fX3_init (sZ v + 1)) _ (wN v 3 8) = _
  rw [x_call e]
def w0 : wW := (0, 0, 0, 0, 0, 0, 0, 0, fun _ => none, fun _ => none, 0, fun _ => (0, 0, 0), fun _ => r0, [])
theorem w0_ok : wOk w0 := by
  refine ⟨by decide, by decide, by decide, by decide, by decide, by decide, by decide, by decide, fun p q h => (by cases h), fun p q h => (by cases h), by decide, fun f => ⟨Nat.zero_le _, Nat.zero_le _, Nat.zero_le _⟩, fun r => r0_I, fun r p h => (by cases h), fun r p h => (by cases h), by decide, by decide, fun q h => (by cases h)⟩
def wd1 (s : mS) : mS := wI (wI (wI (wI (wI (wI (wI (wI (wN s 7 17) (sZ s + 1) 0 (nI 0)) (sZ s + 1) 1 (nI 0)) (sZ s + 1) 2 (nI 0)) (sZ s + 1) 3 (nI 0)) (sZ s + 1) 4 (nI 0)) (sZ s + 1) 5 (nI 0)) (sZ s + 1) 6 (nI 0)) (sZ s + 1) 7 (nI 0)
def wd2 (s : mS) : mS := wI (wP (wN (wP (wN (wP (wN (wd1 s) 11 8) (sZ s + 1) 8 (sZ s + 1 + 1)) 11 8) (sZ s + 1) 9 (sZ s + 1 + 2)) 14 12) (sZ s + 1) 10 (sZ s + 1 + 3)) (sZ s + 1) 11 (nI 0)
def wd3 (s : mS) : mS := wP (wP (wN (wP (wN (wP (wN (wP (wN (wd2 s) 11 4) (sZ s + 1) 12 (sZ s + 1 + 4)) 11 4) (sZ s + 1) 13 (sZ s + 1 + 5)) 11 4) (sZ s + 1) 14 (sZ s + 1 + 6)) 11 8) (sZ s + 1) 15 (sZ s + 1 + 7)) (sZ s + 1) 16 0
theorem wd1_g (s : mS) : Gw s (wd1 s) 1 17 := ((((((((Gw.n s 7 17).i (by omega)).i (by omega)).i (by omega)).i (by omega)).i (by omega)).i (by omega)).i (by omega)).i (by omega)
theorem wd2_g (s : mS) : Gw s (wd2 s) 4 45 := (((((((wd1_g s).tr (Gw.n _ 11 8)).p (show sZ s < sZ s + 1 by omega)).tr (Gw.n _ 11 8)).p (show sZ s < sZ s + 1 by omega)).tr (Gw.n _ 14 12)).p (show sZ s < sZ s + 1 by omega)).i (show sZ s < sZ s + 1 by omega)
theorem wd3_g (s : mS) : Gw s (wd3 s) 8 65 := (((((((((wd2_g s).tr (Gw.n _ 11 4)).p (show sZ s < sZ s + 1 by omega)).tr (Gw.n _ 11 4)).p (show sZ s < sZ s + 1 by omega)).tr (Gw.n _ 11 4)).p (show sZ s < sZ s + 1 by omega)).tr (Gw.n _ 11 8)).p (show sZ s < sZ s + 1 by omega)).p (show sZ s < sZ s + 1 by omega)
theorem wd1_z (s : mS) : sZ (wd1 s) = sZ s + 1 := rfl
theorem wd2_z (s : mS) : sZ (wd2 s) = sZ s + 1 + 1 + 1 + 1 := rfl
theorem wd3_z (s : mS) : sZ (wd3 s) = sZ s + 1 + 1 + 1 + 1 + 1 + 1 + 1 + 1 := rfl
theorem wd1_H (s : mS) : sH (wd1 s) (sZ s + 1) = (7, 17) := by
  show (if sZ s + 1 = sZ s + 1 then _ else _) = _
  rw [if_pos rfl]
theorem wd2_H (s : mS) : sH (wd2 s) (sZ s + 1) = (7, 17) :=
  (sHo (w := wP (wN (wP (wN (wd1 s) 11 8) (sZ s + 1) 8 (sZ s + 1 + 1)) 11 8) (sZ s + 1) 9 (sZ s + 1 + 2)) (k := 14) (n := 12) (by show sZ s + 1 ≤ sZ s + 1 + 1 + 1; omega)).trans ((sHo (w := wP (wN (wd1 s) 11 8) (sZ s + 1) 8 (sZ s + 1 + 1)) (k := 11) (n := 8) (by show sZ s + 1 ≤ sZ s + 1 + 1; omega)).trans ((sHo (w := wd1 s) (k := 11) (n := 8) (by show sZ s + 1 ≤ sZ s + 1; omega)).trans (wd1_H s)))
theorem wd3_I (s : mS) (j : Nat) : sI (wd3 s) (sZ s + 1) j = 0 := by
  unfold wd3 wd2 wd1
  simp only [sI_wP, sI_wN, sI_wI, sZ_wN, sZ_wP, sZ_wI]
  simp
  repeat' split
  all_goals rfl
set_option maxRecDepth 4000 in
theorem wd3_S (s : mS) : (sH (wd3 s) (sZ s + 1)).1 = 7 ∧ sP (wd3 s) (sZ s + 1) 8 = sZ s + 1 + 1 ∧ sP (wd3 s) (sZ s + 1) 9 = sZ s + 1 + 2 ∧ sP (wd3 s) (sZ s + 1) 10 = sZ s + 1 + 3 ∧ sP (wd3 s) (sZ s + 1) 12 = sZ s + 1 + 4 ∧ sP (wd3 s) (sZ s + 1) 13 = sZ s + 1 + 5 ∧ sP (wd3 s) (sZ s + 1) 14 = sZ s + 1 + 6 ∧ sP (wd3 s) (sZ s + 1) 15 = sZ s + 1 + 7 ∧ sH (wd3 s) (sZ s + 1 + 1) = (11, 8) ∧ sH (wd3 s) (sZ s + 1 + 2) = (11, 8) ∧ sH (wd3 s) (sZ s + 1 + 3) = (14, 12) ∧ sH (wd3 s) (sZ s + 1 + 4) = (11, 4) ∧ sH (wd3 s) (sZ s + 1 + 5) = (11, 4) ∧ sH (wd3 s) (sZ s + 1 + 6) = (11, 4) ∧ sH (wd3 s) (sZ s + 1 + 7) = (11, 8) ∧ sP (wd3 s) (sZ s + 1) 16 = 0 := by
  unfold wd3 wd2 wd1
  refine ⟨?_, ?_, ?_, ?_, ?_, ?_, ?_, ?_, ?_, ?_, ?_, ?_, ?_, ?_, ?_, ?_⟩ <;> simp [sP_wP, sP_wN, sP_wI, sH_wN, sH_wP, sH_wI, sZ_wN, sZ_wI, sZ_wP]
theorem c_world1 (s : mS) : fX7_init (sZ s + 1) (wN s 7 17) = fX7_init_110 fu (sZ s + 1) (nI 0) (wd3 s) := by
  unfold fX7_init
  have h0 : (sH (wN s 7 17) (sZ s + 1)).1 = 7 := by rw [sH_wN, if_pos rfl]
  have h1 : (sH (wd1 s) (sZ s + 1)).1 = 7 := by rw [wd1_H]
  have h2 : (sH (wd2 s) (sZ s + 1)).1 = 7 := by rw [wd2_H]
  refine (i_obj (by rw [h0]; decide)).trans ?_
  refine Eq.trans (xPI (by exact h0)) ?_
  refine Eq.trans (xPI (by exact h0)) ?_
  refine Eq.trans (xPI (by exact h0)) ?_
  refine Eq.trans (xPI (by exact h0)) ?_
  refine Eq.trans (xPI (by exact h0)) ?_
  refine Eq.trans (xPI (by exact h0)) ?_
  refine Eq.trans (xPI (by exact h0)) ?_
  refine Eq.trans (xPI (by exact h0)) ?_
  have a1 := hN (k' := 11) (n := 8) (w := wd1 s) h1 (by show sZ s + 1 ≤ sZ s + 1; omega)
  refine Eq.trans (i_na (n := 8) (s := wd1 s) (by decide)) ?_
  refine Eq.trans (xPR (by exact a1)) ?_
  have a2 := hN (k' := 11) (n := 8) (w := wP (wN (wd1 s) 11 8) (sZ s + 1) 8 (sZ s + 1 + 1)) a1 (by show sZ s + 1 ≤ sZ s + 1 + 1; omega)
  refine Eq.trans (i_na (n := 8) (by decide)) ?_
  refine Eq.trans (xPR (by exact a2)) ?_
  have a3 := hN (k' := 14) (n := 12) (w := wP (wN (wP (wN (wd1 s) 11 8) (sZ s + 1) 8 (sZ s + 1 + 1)) 11 8) (sZ s + 1) 9 (sZ s + 1 + 2)) a2 (by show sZ s + 1 ≤ sZ s + 1 + 1 + 1; omega)
  refine Eq.trans (i_na (n := 12) (by decide)) ?_
  refine Eq.trans (xPR (by exact a3)) ?_
  refine Eq.trans (xPI (by exact a3)) ?_
  have b1 := hN (k' := 11) (n := 4) (w := wd2 s) h2 (by show sZ s + 1 ≤ sZ s + 1 + 1 + 1 + 1; omega)
  refine Eq.trans (i_na (n := 4) (s := wd2 s) (by decide)) ?_
  refine Eq.trans (xPR (by exact b1)) ?_
  have b2 := hN (k' := 11) (n := 4) (w := wP (wN (wd2 s) 11 4) (sZ s + 1) 12 (sZ s + 1 + 4)) b1 (by show sZ s + 1 ≤ sZ s + 1 + 1 + 1 + 1 + 1; omega)
  refine Eq.trans (i_na (n := 4) (by decide)) ?_
  refine Eq.trans (xPR (by exact b2)) ?_
  have b3 := hN (k' := 11) (n := 4) (w := wP (wN (wP (wN (wd2 s) 11 4) (sZ s + 1) 12 (sZ s + 1 + 4)) 11 4) (sZ s + 1) 13 (sZ s + 1 + 5)) b2 (by show sZ s + 1 ≤ sZ s + 1 + 1 + 1 + 1 + 1 + 1; omega)
  refine Eq.trans (i_na (n := 4) (by decide)) ?_
  refine Eq.trans (xPR (by exact b3)) ?_
  have b4 := hN (k' := 11) (n := 8) (w := wP (wN (wP (wN (wP (wN (wd2 s) 11 4) (sZ s + 1) 12 (sZ s + 1 + 4)) 11 4) (sZ s + 1) 13 (sZ s + 1 + 5)) 11 4) (sZ s + 1) 14 (sZ s + 1 + 6)) b3 (by show sZ s + 1 ≤ sZ s + 1 + 1 + 1 + 1 + 1 + 1 + 1; omega)
  refine Eq.trans (i_na (n := 8) (by decide)) ?_
  refine Eq.trans (xPR (by exact b4)) ?_
  refine Eq.trans (xPR (by exact b4)) ?_
  rfl
theorem RoS.gw {s t : mS} {k w x : Nat} (h : RoS s x) (hG : Gw s t k w) (hx : x + 2 ≤ sZ s) : RoS t x := by
  obtain ⟨a, b, c, d, e⟩ := h
  refine ⟨by rw [(hG.1 x (by omega)).2.2.2]; exact a, by rw [(hG.1 x (by omega)).2.2.1]; exact b, by rw [(hG.1 x (by omega)).2.2.1]; exact c, by rw [(hG.1 (x + 1) (by omega)).2.2.2]; exact d, by rw [(hG.1 (x + 2) (by omega)).2.2.2]; exact e⟩
theorem c_worldNew (s : mS) : ∃ t, (∀ {α : Type} (K : Nat → mM α), bNew 7 (fun x7 => bCallV 7 x7 (fX7_init x7) (fun _ => K x7)) s = K (sZ s + 1) t) ∧ Gw s t 44 353 ∧ CW t (sZ s + 1) w0 ∧ sP t (sZ s + 1) 16 = 0 := by
  obtain ⟨f0, f1, f2, f3, f4, f5, f6, f7, f8, f9, g0, g1, g2, g3, g4, g5⟩ := wd3_S s
  obtain ⟨a, ha⟩ : ∃ a, a = sZ s + 1 := ⟨_, rfl⟩
  have hI0 := wd3_I s
  have hG3 := wd3_g s
  have hz3 : sZ (wd3 s) = a + 7 := by rw [hG3.2.1, ha]
  have e1 := c_world1 s
  rw [← ha] at f0 f1 f2 f3 f4 f5 f6 f7 f8 f9 g0 g1 g2 g3 g4 g5 hI0 e1
  have key := loop_s (fun n k => fX7_init_110 n a (nI k)) (fun k v => Gw s v (8 + 3 * k) (65 + 24 * k) ∧ (∀ b, b ≤ a + 7 → sI v b = sI (wd3 s) b ∧ sH v b = sH (wd3 s) b ∧ (b ≠ a + 3 → sP v b = sP (wd3 s) b)) ∧ ∀ r, r < k → sP v (a + 3) r = a + 8 + 3 * r ∧ RoS v (a + 8 + 3 * r) ∧ RoD v (a + 8 + 3 * r) r0) 12 (fun q => Gw s q.2 44 353 ∧ (∀ b, b ≤ a + 7 → sI q.2 b = sI (wd3 s) b ∧ sH q.2 b = sH (wd3 s) b ∧ (b ≠ a + 3 → sP q.2 b = sP (wd3 s) b)) ∧ ∀ r, r < 12 → sP q.2 (a + 3) r = a + 8 + 3 * r ∧ RoS q.2 (a + 8 + 3 * r) ∧ RoD q.2 (a + 8 + 3 * r) r0) ?_ ?_ fu 0 (wd3 s) (by omega) (by unfold fu; omega) ⟨hG3, fun _ _ => ⟨rfl, rfl, fun _ => rfl⟩, fun r hr => absurd hr (by omega)⟩
  · obtain ⟨⟨⟨⟩, t⟩, h1, u1, u2, h3⟩ := key
    have h3 : ∀ r, r < 12 → sP t (a + 3) r = a + 8 + 3 * r ∧ RoS t (a + 8 + 3 * r) ∧ RoD t (a + 8 + 3 * r) r0 := h3
    have u2 : ∀ b, b ≤ a + 7 → sI t b = sI (wd3 s) b ∧ sH t b = sH (wd3 s) b ∧ (b ≠ a + 3 → sP t b = sP (wd3 s) b) := u2
    have pa : sP t a = sP (wd3 s) a := (u2 a (by omega)).2.2 (by omega)
    have ia : ∀ j, sI t a j = nI 0 := fun j => by rw [(u2 a (by omega)).1, hI0]; rfl
    have hHs : ∀ b, b ≤ a + 7 → sH t b = sH (wd3 s) b := fun b hb => (u2 b hb).2.1
    rw [← ha]
    refine ⟨t, fun {α} K => ?_, u1, ⟨⟨?_, ?_, ?_, ?_, ?_, ?_, ?_, ?_, ?_, ?_, ?_, ?_, ?_, ?_, ?_, ?_⟩, ⟨?_, ?_, ?_, ?_, ?_, ?_, ?_, ?_, ?_, ?_, ?_, ?_⟩, w0_ok, ?_⟩, ?_⟩
    · rw [i_new, ← ha]
      have h0 : (sH (wN s 7 17) a).1 = 7 := by rw [sH_wN, if_pos ha]
      show bCallV 7 a (fX7_init a) _ (wN s 7 17) = _
      rw [e_callV h0, e_call, e1]
      have h1 : fX7_init_110 fu a (nI 0) (wd3 s) = some ((), t) := h1
      rw [h1]
    · rw [hHs _ (by omega)]; exact f0
    · rw [pa]; exact f1
    · rw [pa]; exact f2
    · rw [pa]; exact f3
    · rw [pa]; exact f4
    · rw [pa]; exact f5
    · rw [pa]; exact f6
    · rw [pa]; exact f7
    · rw [hHs _ (by omega)]; exact f8
    · rw [hHs _ (by omega)]; exact f9
    · rw [hHs _ (by omega)]; exact g0
    · rw [hHs _ (by omega)]; exact g1
    · rw [hHs _ (by omega)]; exact g2
    · rw [hHs _ (by omega)]; exact g3
    · rw [hHs _ (by omega)]; exact g4
    · exact fun r hr => ⟨(h3 r hr).1, (h3 r hr).2.1⟩
    · exact ia 0
    · exact ia 1
    · exact ia 2
    · exact ia 3
    · exact ia 4
    · exact ia 5
    · exact ia 6
    · exact ia 7
    · exact ia 11
    · exact fun p hp => absurd hp (by show ¬ p < 0; omega)
    · exact fun p hp => absurd hp (by show ¬ p < 0; omega)
    · exact fun r hr => (h3 r hr).2.2
    · exact Or.inl ⟨by rw [pa]; exact g5, rfl⟩
    · rw [pa]; exact g5
  · rintro n k v hk ⟨u1, u2, hv⟩
    have hz : sZ v = a + 7 + 3 * k := by have := u1.2.1; omega
    have hGr := rpN_g v
    have hx : sZ v + 1 = a + 8 + 3 * k := by omega
    have h7 : (sH v a).1 = 7 := by rw [(u2 a (by omega)).2.1]; exact f0
    have p10 : sP v a 10 = a + 3 := by rw [(u2 a (by omega)).2.2 (by omega)]; exact f3
    have h3 : sH (rpN v) (a + 3) = (14, 12) := by
      rw [(hGr.1 (a + 3) (by omega)).2.2.2, (u2 _ (by omega)).2.1]; exact g0
    have hS := rpN_S v
    have hD := rpN_D v
    rw [hx] at hS hD
    refine ⟨wP (rpN v) (a + 3) k (a + 8 + 3 * k), ⟨?_, fun b hb => ?_, fun r hr => ?_⟩, ?_⟩
    · have := (u1.tr hGr).p (a := a + 3) (j := k) (x := a + 8 + 3 * k) (by omega)
      rw [show 8 + 3 * (k + 1) = 8 + 3 * k + 3 by omega, show 65 + 24 * (k + 1) = 65 + 24 * k + 24 by omega]
      exact this
    · obtain ⟨q1, q2, q3⟩ := u2 b hb
      obtain ⟨p1, p2, p3, p4⟩ := hGr.1 b (by omega)
      refine ⟨p1.trans q1, p4.trans q2, fun hb3 => ?_⟩
      refine Eq.trans ?_ (p3.trans (q3 hb3))
      funext i
      rw [sP_wP, if_neg (by omega)]
    · by_cases hrk : r = k
      · subst hrk
        refine ⟨by rw [sP_wP, if_pos ⟨rfl, rfl⟩], ?_, ?_⟩
        · obtain ⟨s1, s2, s3, s4, s5⟩ := hS
          exact ⟨s1, by rw [sP_wP, if_neg (by omega)]; exact s2, by rw [sP_wP, if_neg (by omega)]; exact s3, s4, s5⟩
        · exact hD
      · obtain ⟨v1, v2, v3⟩ := hv r (by omega)
        have g := hGr.1
        refine ⟨?_, ?_, ?_⟩
        · rw [sP_wP, if_neg (by omega), (g (a + 3) (by omega)).2.2.1]; exact v1
        · obtain ⟨s1, s2, s3, s4, s5⟩ := v2.gw hGr (by omega)
          exact ⟨s1, by rw [sP_wP, if_neg (by omega)]; exact s2, by rw [sP_wP, if_neg (by omega)]; exact s3, s4, s5⟩
        · exact v3.mv (g _ (by omega)).1 (g _ (by omega)).1 (g _ (by omega)).1
    · show fX7_init_110 (n + 1) a (nI k) v = _
      rw [qX7_init_110, e_if, if_neg (by rw [li_12, le_i (by omega) (by omega)]; omega), xGR h7 p10, c_ropeNew, hx, i_sr h3 (by omega) (by decide) (by rw [hS.1]; rfl), nI_succ1]
  · rintro n v ⟨h1, h2⟩
    refine ⟨((), v), ?_, h1, h2⟩
    show fX7_init_110 (n + 1) a (nI 12) v = _
    rw [qX7_init_110, e_if, if_pos (by decide)]
    rfl

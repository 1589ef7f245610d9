/-! THE PART OF A ROPE -/
/-- how far the part of a rope is read -/
def KR (v0 v t0 t : mS) (C : Nat → Nat) (n r x y : Nat) (nt : tN) : Prop := (FI a48 v0 v ∧ (∀ j, j ≠ 4 → j ≠ 8 → j ≠ 9 → sI v 107 j = sI v0 107 j) ∧ (∀ b, wA 48 b → ¬ (56 + 3 * r ≤ b ∧ b ≤ 58 + 3 * r) → sI v b = sI v0 b) ∧ CNT v (n + 1) (addT nt n x y (8 + r))) ∧ FW t0 t ∧ (∀ i, ¬ (3537 + 8 * r ≤ i ∧ i < 3545 + 8 * r) → ¬ (3633 + 8 * r ≤ i ∧ i < 3641 + 8 * r) → sI t 118 i = sI t0 118 i) ∧ (∀ j, j ≠ 64 + r → sL t 120 j = sL t0 120 j) ∧ sL t 120 (64 + r) = lN (wd C x (y - x)) ∧ ∀ j, ¬ (12 ≤ j ∧ j ≤ 18) → sI t 113 j = sI t0 113 j
/-- the reference's pieces -/
def PC (t : mS) (r : Nat) (ps : List (Nat × Nat)) : Prop := ∀ k, k < ps.length → sI t 118 (3537 + 8 * r + k) = nI (pY ps k) ∧ sI t 118 (3633 + 8 * r + k) = nI (pA ps k)
def roR (t : mS) (r o l h s : Nat) : mS := wI (wI (wI (wI (wI t 118 (3477 + r) (nI o)) 118 (3501 + r) (nI h)) 118 (3513 + r) (nI s)) 118 (3525 + r) (nI l)) 113 21 (nI (r + 1))
/-- what the rest of a rope does -/
def RRes (v0 v t0 t : mS) (C : Nat → Nat) (N a n r x y o : Nat) (nt : tN) (fc : mM Int32) (fr : mM Unit) : Prop := ∃ v' t', fr t = some ((), t') ∧ KF v0 v' t0 t' ∧ ((∃ u ho sl ps a', fc v = fX6_readRope_145 107 v' ∧ t' = roR u r o ps.length (Bool.toNat ho) sl ∧ KR v0 v' t0 u C n r x y nt ∧ RoD v' (56 + 3 * r) (some o, none, ho, sl, ps) ∧ PC u r ps ∧ sl ≤ 15 ∧ (1 ≤ ps.length ∧ ps.length ≤ 4 ∧ ∀ k, k < ps.length → 1 ≤ pY ps k ∧ pY ps k ≤ 200 ∧ pA ps k ≤ 300) ∧ a ≤ a' ∧ CG v' C N a' ∧ RG u C N a') ∨ (fc v = some (nI 0, v') ∧ JE v' t'))
section ROPE
variable {v t v0 t0 : mS} {C : Nat → Nat} {N a n r x y o : Nat} {nt : tN} {W : wW} {wt : Bool}
theorem RRes.st {v1 t1 : mS} {a1 : Nat} {fc fc1 : mM Int32} {fr fr1 : mM Unit} (h : RRes v0 v1 t0 t1 C N a1 n r x y o nt fc1 fr1) (ec : fc v = fc1 v1) (er : fr t = fr1 t1) (ha : a ≤ a1) : RRes v0 v t0 t C N a n r x y o nt fc fr := by
  obtain ⟨v', t', h1, h2, h3⟩ := h
  refine ⟨v', t', er.trans h1, h2, ?_⟩
  rcases h3 with ⟨u, ho, sl, ps, a', q1, q2, q3, q4, q5, q6, q7, q8, q9⟩ | ⟨q1, q2⟩
  · exact Or.inl ⟨u, ho, sl, ps, a', ec.trans q1, q2, q3, q4, q5, q6, q7, Nat.le_trans ha q8, q9⟩
  · exact Or.inr ⟨ec.trans q1, q2⟩
theorem KR.fs2 {v' t' : mS} {A : Nat → Prop} (h : KR v0 v t0 t C n r x y nt) (hr : r < 12) (h1 : F6 A v v') (h2 : F9 i12 l22 t t') : KR v0 v' t0 t' C n r x y nt := by
  obtain ⟨⟨a1, a2, a3, a4⟩, b1, b2, b3, b4, b5⟩ := h
  have g : ∀ b, b ≠ 106 → sI v' b = sI v b := fun b hb => h1.1.1 b hb
  have q := (h2.1 118 (by decide)).1
  refine ⟨⟨a1.tr h1.fi, ?_, fun b hb h0 => (g b (by have := hb.2; omega)).trans (a3 b hb h0), ?_⟩, b1.tr h2.fw, ?_, ?_, ?_, fun j hj => (h2.I hj).trans (b5 j hj)⟩
  · rw [g 107 (by decide)]; exact a2
  · unfold CNT
    rw [g 107 (by decide), g 108 (by decide), g 109 (by decide), g 110 (by decide)]
    exact a4
  · rw [q]; exact b2
  · rw [(h2.1 120 (by decide)).2]; exact b3
  · rw [(h2.1 120 (by decide)).2]; exact b4
theorem KR.rp {v' : mS} (h : KR v0 v t0 t C n r x y nt) (hr : r < 12) (h1 : FI (rAt (56 + 3 * r)) v v') : KR v0 v' t0 t C n r x y nt := by
  obtain ⟨⟨a1, a2, a3, a4⟩, b⟩ := h
  have g : ∀ b, ¬ (56 + 3 * r ≤ b ∧ b ≤ 58 + 3 * r) → sI v' b = sI v b := fun b hb => h1.1 b (by show ¬ (b = _ ∨ b = _ ∨ b = _); omega)
  refine ⟨⟨a1.tr (h1.mo (fun b hb => Or.inr ?_)), ?_, fun b hb h0 => (g b h0).trans (a3 b hb h0), ?_⟩, b⟩
  · have hb : b = 56 + 3 * r ∨ b = 56 + 3 * r + 1 ∨ b = 56 + 3 * r + 2 := hb
    exact ⟨by omega, by omega⟩
  · rw [g 107 (by omega)]; exact a2
  · unfold CNT
    rw [g 107 (by omega), g 108 (by omega), g 109 (by omega), g 110 (by omega)]
    exact a4
theorem KR.pc {i : Nat} {z : Int32} (h : KR v0 v t0 t C n r x y nt) (hi : (3537 + 8 * r ≤ i ∧ i < 3545 + 8 * r) ∨ (3633 + 8 * r ≤ i ∧ i < 3641 + 8 * r)) : KR v0 v t0 (wI t 118 i z) C n r x y nt := by
  obtain ⟨a, b1, b2, b3, b4, b5⟩ := h
  refine ⟨a, b1.tr (FW.c (by omega)), fun j h1 h2 => ?_, b3, b4, fun j hj => ?_⟩
  · rw [sI_wI_ne (Or.inr (by omega))]; exact b2 j h1 h2
  · rw [sI_wI_ne (Or.inl (by decide))]; exact b5 j hj
theorem KR.kf (h : KR v0 v t0 t C n r x y nt) : KF v0 v t0 t := ⟨h.1.1, h.2.1⟩
theorem RoD.f6 {v' : mS} {A : Nat → Prop} {ρ : rR} (h : RoD v (56 + 3 * r) ρ) (hr : r < 12) (h1 : F6 A v v') : RoD v' (56 + 3 * r) ρ := h.mv (h1.1.1 _ (by show ¬ (_ = 106); omega)) (h1.1.1 _ (by show ¬ (_ = 106); omega)) (h1.1.1 _ (by show ¬ (_ = 106); omega))
theorem PC.f9 {t' : mS} {ps : List (Nat × Nat)} (h : PC t r ps) (h2 : F9 i12 l22 t t') : PC t' r ps := by
  unfold PC
  rw [(h2.1 118 (by decide)).1]
  exact h
theorem RoD.ho {X : Nat} {ρ : rR} (h : RoD v X ρ) : RoD (wI v X 4 (nI 1)) X (rO ρ, rB ρ, true, rS ρ, rP ρ) := by
  obtain ⟨d0, d1, d2, d3, d4, d5, d6⟩ := h
  refine ⟨?_, ?_, ?_, ?_, sI_wI_eq _ _ _ _, ?_, fun k hk => ?_⟩
  · rw [sI_wI_ne (Or.inr (by decide))]; exact d0
  · rw [sI_wI_ne (Or.inr (by decide))]; exact d1
  · rw [sI_wI_ne (Or.inr (by decide))]; exact d2
  · rw [sI_wI_ne (Or.inr (by decide))]; exact d3
  · rw [sI_wI_ne (Or.inr (by decide))]; exact d5
  · rw [sI_wI_ne (Or.inl (by omega)), sI_wI_ne (Or.inl (by omega))]; exact d6 k hk
theorem RoD.sl {X s : Nat} {ρ : rR} (h : RoD v X ρ) : RoD (wI v X 5 (nI s)) X (rO ρ, rB ρ, rH ρ, s, rP ρ) := by
  obtain ⟨d0, d1, d2, d3, d4, d5, d6⟩ := h
  refine ⟨?_, ?_, ?_, ?_, ?_, sI_wI_eq _ _ _ _, fun k hk => ?_⟩
  · rw [sI_wI_ne (Or.inr (by decide))]; exact d0
  · rw [sI_wI_ne (Or.inr (by decide))]; exact d1
  · rw [sI_wI_ne (Or.inr (by decide))]; exact d2
  · rw [sI_wI_ne (Or.inr (by decide))]; exact d3
  · rw [sI_wI_ne (Or.inr (by decide))]; exact d4
  · rw [sI_wI_ne (Or.inl (by omega)), sI_wI_ne (Or.inl (by omega))]; exact d6 k hk
theorem RoD.ow {X q : Nat} {ρ : rR} (h : RoD v X ρ) : RoD (wI v X 0 (nI q)) X (some q, rB ρ, rH ρ, rS ρ, rP ρ) := by
  obtain ⟨d0, d1, d2, d3, d4, d5, d6⟩ := h
  refine ⟨sI_wI_eq _ _ _ _, ?_, ?_, ?_, ?_, ?_, fun k hk => ?_⟩
  · rw [sI_wI_ne (Or.inr (by decide))]; exact d1
  · rw [sI_wI_ne (Or.inr (by decide))]; exact d2
  · rw [sI_wI_ne (Or.inr (by decide))]; exact d3
  · rw [sI_wI_ne (Or.inr (by decide))]; exact d4
  · rw [sI_wI_ne (Or.inr (by decide))]; exact d5
  · rw [sI_wI_ne (Or.inl (by omega)), sI_wI_ne (Or.inl (by omega))]; exact d6 k hk
theorem x_239E (h : BD t) (a b c d e : Int32) : fX9_readRope_239 113 a b c d e t = some ((), t) := by
  unfold fX9_readRope_239
  rw [xGI h.1.k, e_if, if_neg h.ne.1]
  rfl
theorem x_212E (h : BD t) (a b c d e : Int32) : fX9_readRope_212 113 a b c d e t = some ((), t) := by
  unfold fX9_readRope_212
  rw [xGI h.1.k, e_if, if_neg h.ne.2, x_239E h]
theorem x_185E (h : BD t) (a b c : Int32) : fX9_readRope_185 113 a b c t = some ((), t) := by
  unfold fX9_readRope_185
  rw [xGI h.1.k, e_if, if_neg h.ne.2, x_212E h]
theorem x_239G (g : RG t C N a) (hr : r < 6) (h21 : sI t 113 21 = nI r) {l h s : Nat} : fX9_readRope_239 113 (nI r) (nI o) (nI l) (nI h) (nI s) t = some ((), roR t r o l h s) := by
  have hT := g.1.1
  have hT1 : RT (wI t 118 (3477 + r) (nI o)) := hT.w
  have hT2 : RT (wI (wI t 118 (3477 + r) (nI o)) 118 (3501 + r) (nI h)) := hT1.w
  have hT3 : RT (wI (wI (wI t 118 (3477 + r) (nI o)) 118 (3501 + r) (nI h)) 118 (3513 + r) (nI s)) := hT2.w
  have hT4 : RT (wI (wI (wI (wI t 118 (3477 + r) (nI o)) 118 (3501 + r) (nI h)) 118 (3513 + r) (nI s)) 118 (3525 + r) (nI l)) := hT3.w
  unfold fX9_readRope_239
  rw [g.1.gi g.2.2.2, e_if, if_pos (by decide), rt_c hT, li_3477, nI_add, rt_cell hT (by omega), rt_c hT1, li_3501, nI_add, rt_cell hT1 (by omega), rt_c hT2, li_3513, nI_add, rt_cell hT2 (by omega), rt_c hT3, li_3525, nI_add, rt_cell hT3 (by omega), xGI hT4.k, sI_wI_ne (Or.inl (by decide)), sI_wI_ne (Or.inl (by decide)), sI_wI_ne (Or.inl (by decide)), sI_wI_ne (Or.inl (by decide)), h21, nI_succ1, xPI hT4.k]
  rfl
theorem roR_fw {l h s : Nat} : FW t (roR t r o l h s) := ((((FW.c (by omega)).tr (FW.c (by omega))).tr (FW.c (by omega))).tr (FW.c (by omega))).tr (FW.i ⟨by decide, by decide⟩)
theorem j_slips {ho : Bool} {ps : List (Nat × Nat)} (hK : KR v0 v t0 t C n r x y nt) (h : CG v C N a) (g : RG t C N a) (hw : WoS v 48) (hr : r < 6) (h21 : sI t 113 21 = nI r) (hD : RoD v (56 + 3 * r) (some o, none, ho, 0, ps)) (hP : PC t r ps) (hps : 1 ≤ ps.length ∧ ps.length ≤ 4 ∧ ∀ k, k < ps.length → 1 ≤ pY ps k ∧ pY ps k ≤ 200 ∧ pA ps k ≤ 300) : RRes v0 v t0 t C N a n r x y o nt (fX6_readRope_100 107 (56 + 3 * r)) (fX9_readRope_212 113 (nI r) (nI o) (nI ps.length) (nI ho.toNat) (nI 0)) := by
  have hS := h.1.1
  have hT := g.1.1
  have er : fX9_readRope_212 113 (nI r) (nI o) (nI ps.length) (nI ho.toNat) (nI 0) t = bIf (nI (wq C N a 30).toNat = 0) (fX9_readRope_239 113 (nI r) (nI o) (nI ps.length) (nI ho.toNat) (nI 0)) (bCallV 9 113 (fX9_next 113) (fun _ => bCallV 9 113 (fX9_count 113 (0 : Int32) (15 : Int32)) (fun x3 => fX9_readRope_239 113 (nI r) (nI o) (nI ps.length) (nI ho.toNat) x3))) t := by
    unfold fX9_readRope_212
    rw [g.1.gi g.2.2.2, e_if, if_pos (by decide), g.1.cv, x_call (x_isSlips hT), g.wbq (by decide) (by decide)]
  cases hq : wq C N a 30 with
  | false =>
    refine ⟨v, _, ?_, ⟨hK.1.1, hK.2.1.tr roR_fw⟩, Or.inl ⟨t, ho, 0, ps, a, ?_, rfl, hK, hD, hP, by decide, hps, Nat.le_refl _, h, g⟩⟩
    · rw [er, hq, e_if, if_pos (by decide)]
      exact x_239G g hr h21
    · unfold fX6_readRope_100
      rw [w_tk hS, e_callV hS.k106, x_call (c_isWord h (by decide)), hq, e_if, if_pos (by decide)]
  | true =>
    obtain ⟨v1, t1, e1, f1, p1, q1, c1, r1⟩ := j_next h g
    have hS1 := c1.1.1
    have hT1 := r1.1.1
    obtain ⟨v2, t2, s, f2, p2, q2, hx⟩ := j_num c1 r1 (lo := 0) (hi := 15) (by decide) (by decide)
    have hS2 : CS v2 := hS1.fi p2.1
    have hw2 : WoS v2 48 := (hw.mv p1.1.2).mv p2.1.2
    have K2 := (hK.fs2 (by omega) p1 q1).fs2 (by omega) p2 q2
    have er2 : fX9_readRope_212 113 (nI r) (nI o) (nI ps.length) (nI ho.toNat) (nI 0) t = fX9_readRope_239 113 (nI r) (nI o) (nI ps.length) (nI ho.toNat) (nI s) t2 := by
      rw [er, hq, e_if, if_neg (by decide), g.1.cv, x_call f1, r1.1.cv, li_0, li_15, x_call f2]
    have hn1 := nx_ge C N a
    have hn2 := nx_ge C N (nx C N a)
    rcases hx with ⟨k1, k2, k3, k4, c2, r2⟩ | ⟨k1, je⟩
    · have h212 : sI t2 113 21 = nI r := by rw [q2.I (by decide), q1.I (by decide)]; exact h21
      have hX : (sH v2 (56 + 3 * r)).1 = 3 := (hw2.2.2.2.2.2.2.2.2.2.2.2.2.2.2.2 r (by omega)).2.1
      have D2 : RoD v2 (56 + 3 * r) (some o, none, ho, 0, ps) := (hD.f6 (by omega) p1).f6 (by omega) p2
      have K3 := K2.rp (v' := wI v2 (56 + 3 * r) 5 (nI s)) (by omega) (FI.w _ _ (Or.inl rfl))
      refine ⟨wI v2 (56 + 3 * r) 5 (nI s), _, er2.trans (x_239G r2 hr h212), ⟨K3.1.1, K3.2.1.tr roR_fw⟩, Or.inl ⟨t2, ho, s, ps, _, ?_, rfl, K3, D2.sl, (hP.f9 q1).f9 q2, k4, hps, by omega, c2.w (by omega) (by omega), r2⟩⟩
      unfold fX6_readRope_100
      rw [w_tk hS, e_callV hS.k106, x_call (c_isWord h (by decide)), hq, e_if, if_neg (by decide), w_tk hS, e_callV hS.k106, x_call e1, w_tk hS1, e_callV hS1.k106, li_0, li_15, x_call k1, e_if, if_neg (by decide), w_tk hS2, xGIe hS2.k106 k2, xPI hX]
    · refine ⟨v2, t2, er2.trans (x_239E je.bd _ _ _ _ _), K2.kf, Or.inr ⟨?_, je⟩⟩
      unfold fX6_readRope_100
      rw [w_tk hS, e_callV hS.k106, x_call (c_isWord h (by decide)), hq, e_if, if_neg (by decide), w_tk hS, e_callV hS.k106, x_call e1, w_tk hS1, e_callV hS1.k106, li_0, li_15, x_call k1, e_if, if_pos (by decide)]
      rfl
/-- holy, slips -/
def cHo (X : Nat) : mM Int32 := bGR 6 107 0 (fun x13 => bCallV 4 x13 (fX4_isWord x13 29) (fun x14 => bIf (x14 = 0) (fX6_readRope_100 107 X) (bGR 6 107 0 (fun x15 => bCallV 4 x15 (fX4_next x15) (fun _ => bPZ 3 X 4 (1 : Int32) (fX6_readRope_100 107 X))))))
theorem j_holy {ps : List (Nat × Nat)} (hK : KR v0 v t0 t C n r x y nt) (h : CG v C N a) (g : RG t C N a) (hw : WoS v 48) (hr : r < 6) (h21 : sI t 113 21 = nI r) (hD : RoD v (56 + 3 * r) (some o, none, false, 0, ps)) (hP : PC t r ps) (hps : 1 ≤ ps.length ∧ ps.length ≤ 4 ∧ ∀ k, k < ps.length → 1 ≤ pY ps k ∧ pY ps k ≤ 200 ∧ pA ps k ≤ 300) : RRes v0 v t0 t C N a n r x y o nt (cHo (56 + 3 * r)) (fX9_readRope_185 113 (nI r) (nI o) (nI ps.length)) := by
  have hS := h.1.1
  have hT := g.1.1
  have er : fX9_readRope_185 113 (nI r) (nI o) (nI ps.length) t = bIf (nI (wq C N a 29).toNat = 0) (fX9_readRope_212 113 (nI r) (nI o) (nI ps.length) (nI 0) (nI 0)) (bCallV 9 113 (fX9_next 113) (fun _ => fX9_readRope_212 113 (nI r) (nI o) (nI ps.length) (nI 1) (nI 0))) t := by
    unfold fX9_readRope_185
    rw [g.1.gi g.2.2.2, e_if, if_pos (by decide), g.1.cv, x_call (x_isHoly hT), g.wbq (by decide) (by decide)]
    rfl
  cases hq : wq C N a 29 with
  | false =>
    refine (j_slips hK h g hw hr h21 hD hP hps).st ?_ ?_ (Nat.le_refl _)
    · unfold cHo
      rw [w_tk hS, e_callV hS.k106, x_call (c_isWord h (by decide)), hq, e_if, if_pos (by decide)]
    · rw [er, hq, e_if, if_pos (by decide)]
      rfl
  | true =>
    obtain ⟨v1, t1, e1, f1, p1, q1, c1, r1⟩ := j_next h g
    have hS1 := c1.1.1
    have hw1 : WoS v1 48 := hw.mv p1.1.2
    have K1 := hK.fs2 (by omega) p1 q1
    have hX : (sH v1 (56 + 3 * r)).1 = 3 := (hw1.2.2.2.2.2.2.2.2.2.2.2.2.2.2.2 r (by omega)).2.1
    have K2 := K1.rp (v' := wI v1 (56 + 3 * r) 4 (nI 1)) (by omega) (FI.w _ _ (Or.inl rfl))
    have D1 := (hD.f6 (by omega) p1).ho
    refine (j_slips (ho := true) K2 (c1.w (by omega) (by omega)) r1 hw1.w hr (by rw [q1.I (by decide)]; exact h21) D1 (hP.f9 q1) hps).st ?_ ?_ (nx_ge C N a)
    · unfold cHo
      rw [w_tk hS, e_callV hS.k106, x_call (c_isWord h (by decide)), hq, e_if, if_neg (by decide), w_tk hS, e_callV hS.k106, x_call e1, xPZ hX (Or.inr rfl)]
      rfl
    · rw [er, hq, e_if, if_neg (by decide), g.1.cv, x_call f1]
      rfl
end ROPE

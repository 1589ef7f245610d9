/-! THE PART OF A FLOOD -/
def flo (W : wW) (x y z : Nat) : wW := (wYr W, wWa W, wBo W, wSi W, wRa W, wRb W, wDr W, wPe W, wPa W, wDi W, wFl W + 1, (fun i => if i = wFl W then (x, y, z) else wFd W i), wRo W, wLa W)
/-- how far the part of a flood is read: of the reference only the tokens moved -/
def KL (v0 v t0 t : mS) (f : Nat) : Prop := (FI (fun b => b = 106 ∨ (52 ≤ b ∧ b ≤ 54)) v0 v ∧ ∀ b j, 52 ≤ b → b ≤ 54 → j ≠ f → sI v b j = sI v0 b j) ∧ F9 i12 l22 t0 t
def flR (t : mS) (f x y z : Nat) : mS := wI (wI (wI (wI t 118 (3465 + f) (nI x)) 118 (3469 + f) (nI y)) 118 (3473 + f) (nI z)) 118 3448 (nI (f + 1))
def fl4 (p x y z : Int32) : mM Unit := bGI 9 113 12 (fun x7 => bIf (x7 ≤ 0) (bGR 9 113 24 (fun x8 => bSI x8 ((3465 : Int32) + p) x (bGR 9 113 24 (fun x9 => bSI x9 ((3469 : Int32) + p) y (bGR 9 113 24 (fun x10 => bSI x10 ((3473 : Int32) + p) z (bGR 9 113 24 (fun x11 => bAI 11 x11 (3448 : Int32) (fun x12 => bSI x11 (3448 : Int32) (x12 + (1 : Int32)) (bRet ())))))))))) (bRet ()))
def fl3 (p x y : Int32) : mM Unit := bCallV 9 113 (fX9_count 113 (1 : Int32) (999 : Int32)) (fun z => fl4 p x y z)
def fl2 (p x y : Int32) : mM Unit := bCallV 9 113 (fX9_isBy 113) (fun x5 => bCallV 9 113 (fX9_must 113 x5) (fun _ => fl3 p x y))
def fl1 (p x : Int32) : mM Unit := bCallV 9 113 (fX9_count 113 x (200 : Int32)) (fun y => fl2 p x y)
def fl0 (p x : Int32) : mM Unit := bCallV 9 113 (fX9_isTo 113) (fun x3 => bCallV 9 113 (fX9_must 113 x3) (fun _ => fl1 p x))
def cl5 (p : Int32) : mM Int32 := bGR 6 107 1 (fun x28 => bPI 7 x28 11 (p + (1 : Int32)) (bGR 6 107 0 (fun x29 => bCallV 4 x29 (fX4_takeSign x29 (59 : Int32)) (fun x30 => bRetZ x30))))
def cl4 (p : Int32) : mM Int32 := bGR 6 107 0 (fun x22 => bCallV 4 x22 (fX4_takeNumber x22 (1 : Int32) (999 : Int32)) (fun x23 => bIf (x23 = 0) (bRetZ (0 : Int32)) (bGR 6 107 1 (fun x24 => bGR 7 x24 14 (fun x25 => bGR 6 107 0 (fun x26 => bGI 4 x26 6 (fun x27 => bSI x25 p x27 (cl5 p))))))))
def cl3 (p : Int32) : mM Int32 := bGR 6 107 0 (fun x20 => bCallV 4 x20 (fX4_takeWord x20 26) (fun x21 => bIf (x21 = 0) (bRetZ (0 : Int32)) (cl4 p)))
def cl2 (p : Int32) : mM Int32 := bGR 6 107 0 (fun x12 => bGR 6 107 0 (fun x13 => bGI 4 x13 6 (fun x14 => bCallV 4 x12 (fX4_takeNumber x12 x14 (200 : Int32)) (fun x15 => bIf (x15 = 0) (bRetZ (0 : Int32)) (bGR 6 107 1 (fun x16 => bGR 7 x16 13 (fun x17 => bGR 6 107 0 (fun x18 => bGI 4 x18 6 (fun x19 => bSI x17 p x19 (cl3 p))))))))))
def cl1 (p : Int32) : mM Int32 := bGR 6 107 0 (fun x10 => bCallV 4 x10 (fX4_takeWord x10 33) (fun x11 => bIf (x11 = 0) (bRetZ (0 : Int32)) (cl2 p)))
/-- what the rest of a flood does -/
def FRes (v0 v t0 t : mS) (C : Nat → Nat) (N a f x : Nat) (fc : mM Int32) (fr : mM Unit) : Prop := ∃ v' t', fr t = some ((), t') ∧ KF v0 v' t0 t' ∧ ((∃ y z u a', fc v = cl5 (nI f) v' ∧ t' = flR u f x y z ∧ KL v0 v' t0 u f ∧ sI v' 52 f = nI x ∧ sI v' 53 f = nI y ∧ sI v' 54 f = nI z ∧ y ≤ 200 ∧ z ≤ 999 ∧ a ≤ a' ∧ CG v' C N a' ∧ RG u C N a') ∨ (fc v = some (nI 0, v') ∧ JE v' t'))
section FLOOD
variable {v t v0 t0 : mS} {C : Nat → Nat} {N a n nr f x y : Nat} {nt : tN} {W : wW} {wt : Bool}
theorem FRes.st {v1 t1 : mS} {a1 : Nat} {fc fc1 : mM Int32} {fr fr1 : mM Unit} (h : FRes v0 v1 t0 t1 C N a1 f x fc1 fr1) (ec : fc v = fc1 v1) (er : fr t = fr1 t1) (ha : a ≤ a1) : FRes v0 v t0 t C N a f x fc fr := by
  obtain ⟨v', t', h1, h2, h3⟩ := h
  refine ⟨v', t', er.trans h1, h2, ?_⟩
  rcases h3 with ⟨y, z, u, a', q1, q2, q3, q4, q5, q6, q7, q8, q9, q0⟩ | ⟨q1, q2⟩
  · exact Or.inl ⟨y, z, u, a', ec.trans q1, q2, q3, q4, q5, q6, q7, q8, Nat.le_trans ha q9, q0⟩
  · exact Or.inr ⟨ec.trans q1, q2⟩
theorem KL.fs2 {v' t' : mS} {A : Nat → Prop} (h : KL v0 v t0 t f) (h1 : F6 A v v') (h2 : F9 i12 l22 t t') : KL v0 v' t0 t' f := by
  obtain ⟨⟨a1, a2⟩, b1⟩ := h
  exact ⟨⟨a1.tr (h1.1.mo (fun b hb => Or.inl hb)), fun b j q1 q2 q3 => by rw [h1.1.1 b (by show ¬ (b = 106); omega)]; exact a2 b j q1 q2 q3⟩, b1.tr h2⟩
theorem KL.w (h : KL v0 v t0 t f) {b : Nat} {i : Int32} (hb : 52 ≤ b ∧ b ≤ 54) : KL v0 (wI v b f i) t0 t f := by
  obtain ⟨⟨a1, a2⟩, b1⟩ := h
  exact ⟨⟨a1.tr (FI.w _ _ (Or.inr hb)), fun b' j q1 q2 q3 => by rw [sI_wI_ne (Or.inr q3)]; exact a2 b' j q1 q2 q3⟩, b1⟩
theorem KL.kf (h : KL v0 v t0 t f) : KF v0 v t0 t := ⟨h.1.1.mo (fun b hb => by
  rcases hb with hb | hb
  · exact Or.inl ⟨by omega, by omega⟩
  · exact Or.inr ⟨by omega, by omega⟩), h.2.fw⟩
theorem tw6 (h : CG v C N a) {z : Nat} (hz : z < 34) {v' : mS} (e : fX4_takeWord 106 z v = some (nI 1, v')) (hb : wq C N a z = true) : sI v' 106 6 = sI v 106 6 := by
  have hS := h.1.1
  obtain ⟨w, y1, y2, y3⟩ := c_adv h
  have h1 : fX4_takeWord 106 z v = some (nI 1, w) := by
    unfold fX4_takeWord
    rw [e_callV hS.k106, x_call (c_isWord h hz), hb, e_if, if_neg (by decide), e_callV hS.k106, x_call y1]
    rfl
  rw [h1] at e
  cases e
  exact y2.2 6 (by decide)
theorem fl4E (h : BD t) (p x y z : Int32) : fl4 p x y z t = some ((), t) := by
  unfold fl4
  rw [xGI h.1.k, e_if, if_neg h.ne.1]
  rfl
theorem fl3E (h : BD t) (p x y : Int32) : fl3 p x y t = some ((), t) := by
  unfold fl3
  rw [e_callV h.1.k, x_call (x_countE h _ _), fl4E h]
theorem fl2E (h : BD t) (p x y : Int32) : fl2 p x y t = some ((), t) := by
  unfold fl2
  rw [e_callV h.1.k, x_call (x_isBy h.1), e_callV h.1.k, x_call (x_mustE h _), fl3E h]
theorem fl1E (h : BD t) (p x : Int32) : fl1 p x t = some ((), t) := by
  unfold fl1
  rw [e_callV h.1.k, x_call (x_countE h _ _), fl2E h]
theorem fl0E (h : BD t) (p x : Int32) : fl0 p x t = some ((), t) := by
  unfold fl0
  rw [e_callV h.1.k, x_call (x_isTo h.1), e_callV h.1.k, x_call (x_mustE h _), fl1E h]
/-- a word between the numbers -/
theorem j_fw {z : Nat} {k : mM Int32} {m : mM Unit} {isW : mM Int32} (hK : KL v0 v t0 t f) (h : CG v C N a) (g : RG t C N a) (hz : z < 34) (hz8 : z ≠ 18) (hW : isW t = some (nI (wb t (encW z)).toNat, t)) (hE : ∀ u, BD u → m u = some ((), u)) (hn : ∀ v1 t1, CG v1 C N (nx C N a) → RG t1 C N (nx C N a) → F6 j28 v v1 → F9 i12 l22 t t1 → sI v1 106 6 = sI v 106 6 → FRes v0 v1 t0 t1 C N (nx C N a) f x k m) : FRes v0 v t0 t C N a f x (bGR 6 107 0 (fun x20 => bCallV 4 x20 (fX4_takeWord x20 z) (fun x21 => bIf (x21 = 0) (bRetZ (0 : Int32)) k))) (bCallV 9 113 isW (fun x5 => bCallV 9 113 (fX9_must 113 x5) (fun _ => m))) := by
  have hS := h.1.1
  obtain ⟨v1, t1, e1, p1, q1, hx⟩ := j_word h g hz (b := wq C N a z) rfl
  have hr : (bCallV 9 113 isW (fun x5 => bCallV 9 113 (fX9_must 113 x5) (fun _ => m))) t = m t1 := by
    rw [g.1.cv, x_call hW, g.wbq hz hz8, g.1.cv, x_call e1]
  rcases hx with ⟨k1, k2, c1, r1⟩ | ⟨k1, k2, je⟩
  · refine (hn v1 t1 c1 r1 p1 q1 (tw6 h hz k1 k2)).st ?_ hr (nx_ge C N a)
    rw [w_tk hS, e_callV hS.k106, x_call k1, e_if, if_neg (by decide)]
  · refine ⟨v1, t1, hr.trans (hE _ je.bd), (hK.fs2 p1 q1).kf, Or.inr ⟨?_, je⟩⟩
    rw [w_tk hS, e_callV hS.k106, x_call k1, e_if, if_pos (by decide)]
    rfl
theorem fl4_ok (g : RG t C N a) (hf : f < 4) (h48 : sI t 118 3448 = nI f) {z : Nat} : fl4 (nI f) (nI x) (nI y) (nI z) t = some ((), flR t f x y z) := by
  have hT := g.1.1
  have hT1 : RT (wI t 118 (3465 + f) (nI x)) := hT.w
  have hT2 : RT (wI (wI t 118 (3465 + f) (nI x)) 118 (3469 + f) (nI y)) := hT1.w
  have hT3 : RT (wI (wI (wI t 118 (3465 + f) (nI x)) 118 (3469 + f) (nI y)) 118 (3473 + f) (nI z)) := hT2.w
  unfold fl4
  rw [g.1.gi g.2.2.2, e_if, if_pos (by decide), rt_c hT, li_3465, nI_add, rt_cell hT (by omega), rt_c hT1, li_3469, nI_add, rt_cell hT1 (by omega), rt_c hT2, li_3473, nI_add, rt_cell hT2 (by omega), rt_c hT3, li_3448, rt_n hT3 (by decide), sI_wI_ne (Or.inr (by omega)), sI_wI_ne (Or.inr (by omega)), sI_wI_ne (Or.inr (by omega)), h48, li_1, nI_add, rt_cell hT3 (by decide)]
  rfl
theorem j_fl3 (hK : KL v0 v t0 t f) (h : CG v C N a) (g : RG t C N a) (hw : WoS v 48) (hf : f < 4) (h48 : sI t 118 3448 = nI f) (h52 : sI v 52 f = nI x) (h53 : sI v 53 f = nI y) (hy : y ≤ 200) : FRes v0 v t0 t C N a f x (cl4 (nI f)) (fl3 (nI f) (nI x) (nI y)) := by
  have hS := h.1.1
  obtain ⟨v1, t1, z, e1, p1, q1, hx⟩ := j_num h g (lo := 1) (hi := 999) (by decide) (by decide)
  have K1 := hK.fs2 p1 q1
  have hw1 : WoS v1 48 := hw.mv p1.1.2
  have hS1 : CS v1 := hS.fi p1.1
  have h481 : sI t1 118 3448 = nI f := by rw [(q1.1 118 (by decide)).1]; exact h48
  have hr : fl3 (nI f) (nI x) (nI y) t = fl4 (nI f) (nI x) (nI y) (nI z) t1 := by
    unfold fl3
    rw [g.1.cv, li_1, li_999, x_call e1]
  rcases hx with ⟨k1, k2, k3, k4, c1, r1⟩ | ⟨k1, je⟩
  · have K2 := K1.w (b := 54) (i := nI z) ⟨by decide, by decide⟩
    refine ⟨wI v1 54 f (nI z), flR t1 f x y z, hr.trans (fl4_ok r1 hf h481), ?_, Or.inl ⟨y, z, t1, _, ?_, rfl, K2, ?_, ?_, sI_wI_eq _ _ _ _, hy, k4, nx_ge C N a, c1.w (by decide) (by decide), r1⟩⟩
    · obtain ⟨f1, f2⟩ := K2.kf
      exact ⟨f1, f2.tr ((((FW.c (by omega)).tr (FW.c (by omega))).tr (FW.c (by omega))).tr (FW.c (by decide)))⟩
    · unfold cl4
      rw [w_tk hS, e_callV hS.k106, li_1, li_999, x_call k1, e_if, if_neg (by decide), w_th hS1, xGR hw1.1 (show sP v1 48 14 = 54 from hw1.2.2.2.2.2.2.1), w_tk hS1, xGIe hS1.k106 k2, xSI (show sH v1 54 = (11, 4) from hw1.2.2.2.2.2.2.2.2.2.2.2.2.2.1) hf (by decide)]
    · rw [sI_wI_ne (Or.inl (by decide)), p1.1.1 52 (by decide)]; exact h52
    · rw [sI_wI_ne (Or.inl (by decide)), p1.1.1 53 (by decide)]; exact h53
  · refine ⟨v1, t1, hr.trans (fl4E je.bd _ _ _ _), K1.kf, Or.inr ⟨?_, je⟩⟩
    unfold cl4
    rw [w_tk hS, e_callV hS.k106, li_1, li_999, x_call k1, e_if, if_pos (by decide)]
    rfl
theorem j_fl1 (hK : KL v0 v t0 t f) (h : CG v C N a) (g : RG t C N a) (hw : WoS v 48) (hf : f < 4) (h48 : sI t 118 3448 = nI f) (h52 : sI v 52 f = nI x) (h6 : sI v 106 6 = nI x) (hx2 : x ≤ 200) : FRes v0 v t0 t C N a f x (cl2 (nI f)) (fl1 (nI f) (nI x)) := by
  have hS := h.1.1
  obtain ⟨v1, t1, y, e1, p1, q1, hx⟩ := j_num h g (lo := x) (hi := 200) (by omega) (by decide)
  have K1 := hK.fs2 p1 q1
  have hw1 : WoS v1 48 := hw.mv p1.1.2
  have hS1 : CS v1 := hS.fi p1.1
  have h481 : sI t1 118 3448 = nI f := by rw [(q1.1 118 (by decide)).1]; exact h48
  have hr : fl1 (nI f) (nI x) t = fl2 (nI f) (nI x) (nI y) t1 := by
    unfold fl1
    rw [g.1.cv, li_200, x_call e1]
  rcases hx with ⟨k1, k2, k3, k4, c1, r1⟩ | ⟨k1, je⟩
  · have K2 := K1.w (b := 53) (i := nI y) ⟨by decide, by decide⟩
    have hc : cl2 (nI f) v = cl3 (nI f) (wI v1 53 f (nI y)) := by
      unfold cl2
      rw [w_tk hS, w_tk hS, xGIe hS.k106 h6, e_callV hS.k106, li_200, x_call k1, e_if, if_neg (by decide), w_th hS1, xGR hw1.1 (show sP v1 48 13 = 53 from hw1.2.2.2.2.2.1), w_tk hS1, xGIe hS1.k106 k2, xSI (show sH v1 53 = (11, 4) from hw1.2.2.2.2.2.2.2.2.2.2.2.2.1) hf (by decide)]
    have c2 : CG (wI v1 53 f (nI y)) C N (nx C N a) := c1.w (by decide) (by decide)
    refine FRes.st (v1 := wI v1 53 f (nI y)) (t1 := t1) (a1 := nx C N a) (fc1 := cl3 (nI f)) (fr1 := fl2 (nI f) (nI x) (nI y)) ?_ hc hr (nx_ge C N a)
    refine j_fw K2 c2 r1 (by decide) (by decide) (x_isBy r1.1.1) (fun u hu => fl3E hu _ _ _) (fun v3 t3 c3 r3 p3 q3 _ => ?_)
    refine j_fl3 (K2.fs2 p3 q3) c3 r3 (hw1.w.mv p3.1.2) hf ?_ ?_ ?_ k4
    · rw [(q3.1 118 (by decide)).1]; exact h481
    · rw [p3.1.1 52 (by decide), sI_wI_ne (Or.inl (by decide)), p1.1.1 52 (by decide)]; exact h52
    · rw [p3.1.1 53 (by decide), sI_wI_eq]
  · refine ⟨v1, t1, hr.trans (fl2E je.bd _ _ _), K1.kf, Or.inr ⟨?_, je⟩⟩
    unfold cl2
    rw [w_tk hS, w_tk hS, xGIe hS.k106 h6, e_callV hS.k106, li_200, x_call k1, e_if, if_pos (by decide)]
    rfl
end FLOOD

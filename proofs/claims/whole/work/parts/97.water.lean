/-! THE PART OF WATER -/
theorem CG.o {v v' : mS} {C : Nat → Nat} {N a : Nat} (h : CG v C N a) (h2 : v'.2 = v.2) (h6 : sI v' 106 = sI v 106) (h3 : sI v' 3 = sI v 3) : CG v' C N a := by
  obtain ⟨⟨t1, t2, t3, t4⟩, ⟨k1, k2, k3, k4, k5⟩, haN, f7, f8⟩ := h
  have hH : sH v' = sH v := by show v'.2.2.2.1 = v.2.2.2.1; rw [h2]
  have hP : sP v' = sP v := by show v'.2.2.1 = v.2.2.1; rw [h2]
  refine ⟨⟨t1.mv (fun _ _ => by rw [hH]) (fun _ _ _ _ _ _ _ => by rw [hP]), by rw [h6]; exact t2, t3, by rw [h3]; exact t4⟩, ⟨by rw [h6]; exact k1, by rw [h6]; exact k2, by rw [h6]; exact k3, by rw [h6]; exact k4, by rw [h6]; exact k5⟩, haN, by rw [h6]; exact f7, by rw [h6]; exact f8⟩
theorem RG.o {t t' : mS} {C : Nat → Nat} {N a : Nat} (h : RG t C N a) (hT : RT t') (h3 : ∀ j, 9 ≤ j → j ≤ 18 → sI t' 113 j = sI t 113 j) (hL : sL t' 113 22 = sL t 113 22) (h7 : sI t' 117 = sI t 117) : RG t' C N a := by
  obtain ⟨⟨t1, t2, t3, t4⟩, ⟨k1, k2, k3, k4, k5, k6⟩, haN, h0⟩ := h
  refine ⟨⟨hT, by rw [h3 9 (by omega) (by omega)]; exact t2, t3, by rw [h7]; exact t4⟩, ⟨?_, ?_, ?_, ?_, ?_, ?_⟩, haN, by rw [h3 12 (by omega) (by omega)]; exact h0⟩
  · rw [h3 15 (by omega) (by omega)]; exact k1
  · rw [h3 14 (by omega) (by omega)]; exact k2
  · rw [h3 16 (by omega) (by omega)]; exact k3
  · rw [h3 17 (by omega) (by omega)]; exact k4
  · rw [h3 17 (by omega) (by omega)]; exact k5
  · rw [h3 18 (by omega) (by omega), hL]; exact k6
theorem RG.c {t : mS} {C : Nat → Nat} {N a i : Nat} {x : Int32} (h : RG t C N a) : RG (wI t 118 i x) C N a := h.o h.1.1.w (fun j _ _ => sI_wI_ne (Or.inl (by decide))) rfl (by funext j; exact sI_wI_ne (Or.inl (by decide)))
theorem RG.i {t : mS} {C : Nat → Nat} {N a j : Nat} {x : Int32} (h : RG t C N a) (hj : 18 < j) : RG (wI t 113 j x) C N a := h.o h.1.1.w (fun i h1 h2 => sI_wI_ne (Or.inr (by omega))) rfl (by funext j; exact sI_wI_ne (Or.inl (by decide)))
theorem CG.w {v : mS} {C : Nat → Nat} {N a b j : Nat} {x : Int32} (h : CG v C N a) (h6 : b ≠ 106) (h3 : b ≠ 3) : CG (wI v b j x) C N a := h.o rfl (by funext i; exact sI_wI_ne (Or.inl (Ne.symm h6))) (by funext i; exact sI_wI_ne (Or.inl (Ne.symm h3)))
theorem BD.cc {t : mS} {i : Nat} {x : Int32} (h : BD t) : BD (wI t 118 i x) := ⟨h.1.w, h.2⟩
theorem JE.c {v t : mS} {i : Nat} {x : Int32} (h : JE v t) (hi : 3440 ≤ i) : JE v (wI t 118 i x) := h.mt2 (FW.c hi) (sI_wI_ne (Or.inl (by decide))) (sI_wI_ne (Or.inl (by decide)))
/-- how far the part of water is read -/
def KW (v0 v t0 t : mS) (w b s r rb : Nat) : Prop := (FI (fun c => c = 106 ∨ c = 107 ∨ c = 48) v0 v ∧ (∀ j, j ≠ 2 → sI v 107 j = sI v0 107 j) ∧ sI v 107 2 = nI 1 ∧ (∀ j, j = 0 ∨ 5 < j → sI v 48 j = sI v0 48 j) ∧ sI v 48 1 = nI w ∧ sI v 48 2 = nI b ∧ sI v 48 3 = nI s ∧ sI v 48 4 = nI r ∧ sI v 48 5 = nI rb) ∧ FW t0 t ∧ (∀ i, 3445 ≤ i → sI t 118 i = sI t0 118 i) ∧ sL t 120 = sL t0 120 ∧ sI t 113 23 = nI 1 ∧ sI t 113 21 = sI t0 113 21 ∧ sI t 118 3440 = nI w ∧ sI t 118 3441 = nI b ∧ sI t 118 3442 = nI s ∧ sI t 118 3443 = nI r ∧ sI t 118 3444 = nI rb
section WAT
variable {v0 v t0 t : mS} {C : Nat → Nat} {N a w b s r rb : Nat}
theorem KW.f {v' t' : mS} {A : Nat → Prop} (h : KW v0 v t0 t w b s r rb) (h1 : F6 A v v') (h2 : F9 i12 l22 t t') : KW v0 v' t0 t' w b s r rb := by
  obtain ⟨⟨a1, a2, a3, a4, a5, a6, a7, a8, a9⟩, b1, b2, b3, b4, b5, b6, b7, b8, b9, b0⟩ := h
  have g : ∀ b, b ≠ 106 → sI v' b = sI v b := fun b hb => h1.1.1 b hb
  have q := (h2.1 118 (by decide)).1
  refine ⟨⟨a1.tr (h1.1.mo (fun b hb => Or.inl hb)), ?_, ?_, ?_, ?_, ?_, ?_, ?_, ?_⟩, b1.tr h2.fw, ?_, ?_, ?_, ?_, ?_, ?_, ?_, ?_, ?_⟩
  · rw [g 107 (by decide)]; exact a2
  · rw [g 107 (by decide)]; exact a3
  · rw [g 48 (by decide)]; exact a4
  · rw [g 48 (by decide)]; exact a5
  · rw [g 48 (by decide)]; exact a6
  · rw [g 48 (by decide)]; exact a7
  · rw [g 48 (by decide)]; exact a8
  · rw [g 48 (by decide)]; exact a9
  · rw [q]; exact b2
  · rw [(h2.1 120 (by decide)).2]; exact b3
  · rw [h2.I (by decide)]; exact b4
  · rw [h2.I (by decide)]; exact b5
  · rw [q]; exact b6
  · rw [q]; exact b7
  · rw [q]; exact b8
  · rw [q]; exact b9
  · rw [q]; exact b0
/-- a number comes to both -/
theorem KW.put (h : KW v0 v t0 t w b s r rb) (k x : Nat) (hk : k < 5) : KW v0 (wI v 48 (k + 1) (nI x)) t0 (wI t 118 (3440 + k) (nI x)) (if k = 0 then x else w) (if k = 1 then x else b) (if k = 2 then x else s) (if k = 3 then x else r) (if k = 4 then x else rb) := by
  obtain ⟨⟨a1, a2, a3, a4, a5, a6, a7, a8, a9⟩, b1, b2, b3, b4, b5, b6, b7, b8, b9, b0⟩ := h
  refine ⟨⟨a1.tr (FI.w _ _ (Or.inr (Or.inr rfl))), fun j hj => ?_, ?_, fun j hj => ?_, ?_, ?_, ?_, ?_, ?_⟩, b1.tr (FW.c (by omega)), fun i hi => ?_, b3, ?_, ?_, ?_, ?_, ?_, ?_, ?_⟩
  · rw [sI_wI_ne (Or.inl (by decide))]; exact a2 j hj
  · rw [sI_wI_ne (Or.inl (by decide))]; exact a3
  · rw [sI_wI_ne (Or.inr (by omega))]; exact a4 j hj
  · by_cases h0 : k = 0
    · subst h0; rw [if_pos rfl, sI_wI_eq]
    · rw [if_neg h0, sI_wI_ne (Or.inr (by omega))]; exact a5
  · by_cases h0 : k = 1
    · subst h0; rw [if_pos rfl, sI_wI_eq]
    · rw [if_neg h0, sI_wI_ne (Or.inr (by omega))]; exact a6
  · by_cases h0 : k = 2
    · subst h0; rw [if_pos rfl, sI_wI_eq]
    · rw [if_neg h0, sI_wI_ne (Or.inr (by omega))]; exact a7
  · by_cases h0 : k = 3
    · subst h0; rw [if_pos rfl, sI_wI_eq]
    · rw [if_neg h0, sI_wI_ne (Or.inr (by omega))]; exact a8
  · by_cases h0 : k = 4
    · subst h0; rw [if_pos rfl, sI_wI_eq]
    · rw [if_neg h0, sI_wI_ne (Or.inr (by omega))]; exact a9
  · rw [sI_wI_ne (Or.inr (by omega))]; exact b2 i hi
  · rw [sI_wI_ne (Or.inl (by decide))]; exact b4
  · rw [sI_wI_ne (Or.inl (by decide))]; exact b5
  · by_cases h0 : k = 0
    · subst h0; rw [if_pos rfl, sI_wI_eq]
    · rw [if_neg h0, sI_wI_ne (Or.inr (by omega))]; exact b6
  · by_cases h0 : k = 1
    · subst h0; rw [if_pos rfl, sI_wI_eq]
    · rw [if_neg h0, sI_wI_ne (Or.inr (by omega))]; exact b7
  · by_cases h0 : k = 2
    · subst h0; rw [if_pos rfl, sI_wI_eq]
    · rw [if_neg h0, sI_wI_ne (Or.inr (by omega))]; exact b8
  · by_cases h0 : k = 3
    · subst h0; rw [if_pos rfl, sI_wI_eq]
    · rw [if_neg h0, sI_wI_ne (Or.inr (by omega))]; exact b9
  · by_cases h0 : k = 4
    · subst h0; rw [if_pos rfl, sI_wI_eq]
    · rw [if_neg h0, sI_wI_ne (Or.inr (by omega))]; exact b0
/-- frames alone -/
def KF (v0 v t0 t : mS) : Prop := FI a48 v0 v ∧ FW t0 t
theorem KW.kf (h : KW v0 v t0 t w b s r rb) : KF v0 v t0 t := ⟨h.1.1.mo (fun c hc => by rcases hc with h | h | h <;> subst h <;> first | exact Or.inl ⟨by decide, by decide⟩ | exact Or.inr ⟨by decide, by decide⟩), h.2.1⟩
theorem KF.f {v' t' : mS} {A : Nat → Prop} (h : KF v0 v t0 t) (h1 : F6 A v v') (h2 : FW t t') : KF v0 v' t0 t' := ⟨h.1.tr h1.fi, h.2.tr h2⟩
theorem w48 (hw : WoS v 48) {j : Nat} {x : Int32} {m : mM Int32} : bPI 7 48 j x m v = m (wI v 48 j x) := xPI hw.1
/-- rain, if it is told: the class goes on with what stands behind it, the reference returns -/
theorem j_rain (hK : KW v0 v t0 t w b s r rb) (h : CG v C N a) (g : RG t C N a) (hw : WoS v 48) (hr : r ≤ 16) (hrb : rb ≤ 99) : ∃ v' t', fX9_readWater_106 113 t = some ((), t') ∧ KF v0 v' t0 t' ∧ ((∃ r' rb' a', fX6_readWater_132 107 v = fX6_readWater_153 107 v' ∧ KW v0 v' t0 t' w b s r' rb' ∧ r' ≤ 16 ∧ rb' ≤ 99 ∧ a ≤ a' ∧ CG v' C N a' ∧ RG t' C N a') ∨ (fX6_readWater_132 107 v = some (nI 0, v') ∧ JE v' t')) := by
  have hS := h.1.1
  have haN := h.2.2.1
  unfold fX6_readWater_132 fX9_readWater_106
  rw [w_tk hS, e_callV hS.k106, x_call (c_isWord h (by decide)), g.1.gi g.2.2.2, e_if, if_pos (by decide), g.1.cv, x_call (x_isRain g.1.1), g.wbq (by decide) (by decide), e_if, e_if]
  cases hq : wq C N a 25 with
  | false =>
    refine ⟨v, t, ?_, hK.kf, Or.inl ⟨r, rb, a, ?_, hK, hr, hrb, Nat.le_refl _, h, g⟩⟩
    · rw [if_pos (by decide)]; rfl
    · rw [if_pos (by decide)]
  | true =>
    have hlt : a < N := (kd_1 (wq_iff.mp hq).1).1
    have hnx := nx_gt C hlt
    rw [if_neg (by decide), if_neg (by decide)]
    obtain ⟨v1, t1, e1, f1, p1, q1, c1, r1⟩ := j_next h g
    have hS1 := c1.1.1
    have K1 := hK.f p1 q1
    have hw1 : WoS v1 48 := hw.mv p1.1.2
    obtain ⟨v2, t2, x, f2, p2, q2, hx⟩ := j_num c1 r1 (lo := 0) (hi := 16) (by decide) (by decide)
    have hT2 := r1.1.1.f9 q2
    have K2 := K1.f p2 q2
    have hw2 : WoS v2 48 := hw1.mv p2.1.2
    have hS2 : CS v2 := hS1.fi p2.1
    have hn1 : a ≤ nx C N a := by omega
    have hn2 : nx C N a ≤ nx C N (nx C N a) := Nat.le_trans (ed_ge C N _) (sk_ge C N _)
    have hn3 : nx C N (nx C N a) ≤ nx C N (nx C N (nx C N a)) := Nat.le_trans (ed_ge C N _) (sk_ge C N _)
    have hn4 : nx C N (nx C N (nx C N a)) ≤ nx C N (nx C N (nx C N (nx C N a))) := Nat.le_trans (ed_ge C N _) (sk_ge C N _)
    have hT3 : RT (wI t2 118 3443 (nI x)) := hT2.w
    have hbeg : (bCallV 9 113 (fX9_next 113) (fun _ => bGR 9 113 24 (fun x3 => bCallV 9 113 (fX9_count 113 (0 : Int32) (16 : Int32)) (fun x4 => bSI x3 (3443 : Int32) x4 (bCallV 9 113 (fX9_isBy 113) (fun x5 => bCallV 9 113 (fX9_must 113 x5) (fun _ => bGR 9 113 24 (fun x6 => bCallV 9 113 (fX9_count 113 (0 : Int32) (99 : Int32)) (fun x7 => bSI x6 (3444 : Int32) x7 (bRet ())))))))))) t = (bCall (fX9_isBy 113) (fun x5 => bCallV 9 113 (fX9_must 113 x5) (fun _ => bGR 9 113 24 (fun x6 => bCallV 9 113 (fX9_count 113 (0 : Int32) (99 : Int32)) (fun x7 => bSI x6 (3444 : Int32) x7 (bRet ())))))) (wI t2 118 3443 (nI x)) := by
      rw [g.1.cv, x_call f1, rt_c r1.1.1, r1.1.cv, li_0, li_16, x_call f2, li_3443, rt_cell hT2 (by decide), e_callV hT3.k]
    rw [hbeg]
    rcases hx with ⟨k1, k2, k3, k4, c2, r2⟩ | ⟨k1, je⟩
    · have K3 := K2.put 3 x (by decide)
      simp only [show ¬ (3 = 0) by decide, show ¬ (3 = 1) by decide, show ¬ (3 = 2) by decide, show ¬ (3 = 4) by decide, if_false, if_true] at K3
      have c3 : CG (wI v2 48 (3 + 1) (nI x)) C N (nx C N (nx C N a)) := c2.w (by decide) (by decide)
      have r3 : RG (wI t2 118 (3440 + 3) (nI x)) C N (nx C N (nx C N a)) := r2.c
      have hw3 : WoS (wI v2 48 (3 + 1) (nI x)) 48 := hw2.w
      have hS3 := c3.1.1
      obtain ⟨v4, t4, f4, p4, q4, hy⟩ := j_word c3 r3 (z := 26) (by decide) rfl
      have hT4 := r3.1.1.f9 q4
      have hS4 : CS v4 := hS3.fi p4.1
      have K4 := K3.f p4 q4
      have hw4 : WoS v4 48 := hw3.mv p4.1.2
      rw [x_call (x_isBy r3.1.1), r3.wbq (by decide) (by decide), r3.1.cv, x_call f4, rt_c hT4, e_callV hT4.k, li_0, li_99]
      have hcl : fX6_readRain 107 v = (bCall (fX4_takeWord 106 26) (fun x8 => bIf (x8 = 0) (bRetZ (0 : Int32)) (bGR 6 107 0 (fun x9 => bCallV 4 x9 (fX4_takeNumber x9 (0 : Int32) (99 : Int32)) (fun x10 => bIf (x10 = 0) (bRetZ (0 : Int32)) (bGR 6 107 1 (fun x11 => bGR 6 107 0 (fun x12 => bGI 4 x12 6 (fun x13 => bPI 7 x11 5 x13 (bRetZ (1 : Int32))))))))))) (wI v2 48 (3 + 1) (nI x)) := by
        unfold fX6_readRain
        rw [w_tk hS, e_callV hS.k106, x_call e1, w_tk hS1, e_callV hS1.k106, li_0, li_16, x_call k1, e_if, if_neg (by decide), w_th hS2, w_tk hS2, xGIe hS2.k106 k2, w48 hw2]
        rw [w_tk hS3, e_callV hS3.k106]
      rcases hy with ⟨m1, m2, c4, r4⟩ | ⟨m1, m2, je⟩
      · obtain ⟨v5, t5, y, f5, p5, q5, hz⟩ := j_num c4 r4 (lo := 0) (hi := 99) (by decide) (by decide)
        have hT5 := hT4.f9 q5
        have hS5 : CS v5 := hS4.fi p5.1
        have K5 := K4.f p5 q5
        have hw5 : WoS v5 48 := hw4.mv p5.1.2
        rw [x_call f5, li_3444, rt_cell hT5 (by decide)]
        rcases hz with ⟨o1, o2, o3, o4, c5, r5⟩ | ⟨o1, je⟩
        · have K6 := K5.put 4 y (by decide)
          simp only [show ¬ (4 = 0) by decide, show ¬ (4 = 1) by decide, show ¬ (4 = 2) by decide, show ¬ (4 = 3) by decide, if_false, if_true] at K6
          refine ⟨_, _, rfl, K6.kf, Or.inl ⟨x, y, _, ?_, K6, k4, o4, by omega, c5.w (by decide) (by decide), r5.c⟩⟩
          have hrr : fX6_readRain 107 v = some (nI 1, wI v5 48 (4 + 1) (nI y)) := by
            rw [hcl, x_call m1, e_if, if_neg (by decide), w_tk hS4, e_callV hS4.k106, li_0, li_99, x_call o1, e_if, if_neg (by decide), w_th hS5, w_tk hS5, xGIe hS5.k106 o2, w48 hw5]
            rfl
          rw [e_callV hS.k107, x_call hrr, e_if, if_neg (by decide)]
        · refine ⟨v5, _, rfl, K5.kf.f (F6.rf (A := j28)) (FW.c (by decide)), Or.inr ⟨?_, je.c (by decide)⟩⟩
          have hrr : fX6_readRain 107 v = some (nI 0, v5) := by
            rw [hcl, x_call m1, e_if, if_neg (by decide), w_tk hS4, e_callV hS4.k106, li_0, li_99, x_call o1, e_if, if_pos (by decide)]
            rfl
          rw [e_callV hS.k107, x_call hrr, e_if, if_pos (by decide)]
          rfl
      · rw [x_call (x_countE je.bd _ _), li_3444, rt_cell hT4 (by decide)]
        refine ⟨v4, _, rfl, K4.kf.f (F6.rf (A := j28)) (FW.c (by decide)), Or.inr ⟨?_, je.c (by decide)⟩⟩
        have hrr : fX6_readRain 107 v = some (nI 0, v4) := by
          rw [hcl, x_call m1, e_if, if_pos (by decide)]
          rfl
        rw [e_callV hS.k107, x_call hrr, e_if, if_pos (by decide)]
        rfl
    · have hb := je.bd.cc (i := 3443) (x := nI x)
      rw [x_call (x_isBy hb.1), e_callV hb.1.k, x_call (x_mustE hb _), rt_c hb.1, e_callV hb.1.k, x_call (x_countE hb _ _), li_3444, rt_cell hb.1 (by decide)]
      refine ⟨v2, _, rfl, (K2.kf.f (F6.rf (A := j28)) (FW.c (i := 3443) (x := nI x) (by decide))).f (F6.rf (A := j28)) (FW.c (by decide)), Or.inr ⟨?_, (je.c (by decide)).c (by decide)⟩⟩
      have hrr : fX6_readRain 107 v = some (nI 0, v2) := by
        unfold fX6_readRain
        rw [w_tk hS, e_callV hS.k106, x_call e1, w_tk hS1, e_callV hS1.k106, li_0, li_16, x_call k1, e_if, if_pos (by decide)]
        rfl
      rw [e_callV hS.k107, x_call hrr, e_if, if_pos (by decide)]
      rfl
end WAT

/-! LOOKING AHEAD -/
def HA (s s1 : mS) : Prop := FR (wA 48) s s1 ∧ WoS s1 48
theorem HA.tr {s t u : mS} (h1 : HA s t) (h2 : HA t u) : HA s u := ⟨h1.1.tr h2.1, h2.2⟩
theorem CP.h48 {s : mS} {D : dD} (h : CP s D) : WoS s 48 := h.2.2.2.2.2.1
theorem CP.law {s : mS} {D : dD} (h : CP s D) : LwA s (sP s 4 16) := h.2.2.2.2.2.2.2.2.2.1
theorem CP.rf {s : mS} {D : dD} (h : CP s D) : HA s s := ⟨FR.rf, h.h48⟩
theorem HA.o {s s1 : mS} (h : HA s s1) {b : Nat} (hb : b < 48 ∨ 92 ≤ b) : sI s1 b = sI s b ∧ sL s1 b = sL s b ∧ sP s1 b = sP s b := h.1.1 b (by rintro ⟨h1, h2⟩; omega)
theorem HA.cs {s s1 : mS} (h : HA s s1) (hS : CS s) : CS s1 := hS.mv (fun _ _ => by rw [h.1.2.1]) (fun b _ _ _ _ _ hb => by rw [(h.o (b := b) (by omega)).2.2])
theorem HA.cw {s s1 : mS} {W : wW} (h : HA s s1) (hw : CW s 4 W) (hl : LwA s (sP s 4 16)) : CW s1 4 W := by
  refine hw.mv (fun b _ => by rw [h.1.2.1]) (fun b hb => ?_) (fun h0 => ?_)
  · have := h.o (b := b) (by have := hb.2; omega)
    exact ⟨this.1, this.2.2⟩
  · have h1 : 124 < sP s 4 16 := by
      rcases hl with hl | hl
      · exact absurd hl h0
      · exact hl.1
    have g1 := h.o (b := sP s 4 16) (by omega)
    have g2 := h.o (b := sP s 4 16 + 1) (by omega)
    exact ⟨by rw [h.1.2.1], by rw [h.1.2.1], g1.1, g2.1, g1.2.2⟩
theorem CP.ah {s s1 : mS} {D : dD} (hC : CP s D) (hD : DOk D) (h : HA s s1) : CP s1 D := by
  have g1 := h.o (b := 1) (by omega)
  refine hC.upd D.1 (dW D) (A := wA 48) h.1 (fun b hb => Or.inr (Or.inl ⟨by have := hb.1; omega, by have := hb.2; omega⟩)) (fun b j _ _ hb => by rw [(h.o (b := b) (by omega)).2.2]) (by rw [(h.o (b := 4) (by omega)).2.2]) (hC.2.1.mv g1.1 g1.2.1) rfl hD.2.2.1 rfl (h.cw hC.2.2.2.2.1 hC.law) h.2
theorem c_seed {s : mS} {a d : Nat} {W : wW} (h : CW s a W) (ha : a + 44 ≤ 124) (hd : d < 65536) : CW (wI s a 6 (nI d)) a (wNum W (wYr W) (wWa W) (wBo W) d) := by
  obtain ⟨f0, f1, f2, f3, f4, f5, f6, f7, f11, fp, ff, fr⟩ := h.2.1
  refine h.num ha (FI.w (A := fun c => c = a) _ _ rfl) ?_ ?_ ?_ (sI_wI_eq _ _ _ _) (fun j _ _ _ h6 => sI_wI_ne (Or.inr h6)) h.wi.1 h.wi.2.1 h.wi.2.2.1 hd
  · rw [sI_wI_ne (Or.inr (by decide))]; exact f0
  · rw [sI_wI_ne (Or.inr (by decide))]; exact f1
  · rw [sI_wI_ne (Or.inr (by decide))]; exact f2
theorem x_seed {s : mS} {d : Nat} {W : wW} (u : RX s W) (hd : d < 65536) : RX (wI s 118 6 (nI d)) (wNum W (wYr W) (wWa W) (wBo W) d) := by
  obtain ⟨f0, f1, f2, f3, f4, f5, f6, f7, f8, fp, ff, fr⟩ := u.2
  refine u.num (W := W) rfl ?_ ?_ ?_ (sI_wI_eq _ _ _ _) (fun j _ _ _ h6 => sI_wI_ne (Or.inr h6)) u.wi.1 u.wi.2.1 u.wi.2.2.1 hd
  · rw [sI_wI_ne (Or.inr (by decide))]; exact f5
  · rw [sI_wI_ne (Or.inr (by decide))]; exact f0
  · rw [sI_wI_ne (Or.inr (by decide))]; exact f1
/-- another seed -/
def wSe (W : wW) (d : Nat) : wW := wNum W (wYr W) (wWa W) (wBo W) d
theorem wSe_dr (W : wW) : wSe W (wDr W) = W := rfl
/-- the class's copy -/
theorem c_cp48 {s : mS} {D : dD} (hC : CP s D) : ∃ t, fX7_copyFrom 48 4 s = some ((), t) ∧ HA s t ∧ CW t 48 (dW D) := by
  obtain ⟨t, e1, e2, e3, -⟩ := c_copyFrom hC.h48 hC.2.2.2.2.1 (by omega) (fun h0 => by
    rcases hC.law with hl | hl
    · exact absurd hl h0
    · exact ⟨fun hb => by have := hb.2; omega, fun hb => by have := hb.2; omega⟩)
  exact ⟨t, e1, ⟨e2, e3.1⟩, e3⟩
theorem HA.fi {s t u : mS} (h : HA s t) (hF : FI (wA 48) t u) : HA s u := ⟨h.1.tr hF.fr, h.2.mv hF.2⟩
theorem c_ahead {s : mS} {D : dD} (hC : CP s D) {n d : Nat} (hn : n ≤ 200) (hd : d < 65536) : ∃ s1, fX8_lookAhead 1 (nI n) (nI d) s = some ((), s1) ∧ HA s s1 ∧ CW s1 48 (wQ (wSe (dW D) d) n) := by
  obtain ⟨t, e1, e2, e3⟩ := c_cp48 hC
  have hS := hC.1
  have hSt := e2.cs hS
  have hw := c_seed e3 (by decide) hd
  have hF0 : FI (wA 48) t (wI t 48 6 (nI d)) := FI.w _ _ ⟨by decide, by decide⟩
  have e4 := e2.fi hF0
  have key := loop_s (fun m k => fX8_lookAhead_21 m 1 (nI n) (nI k)) (fun k v => HA s v ∧ CW v 48 (wQ (wSe (dW D) d) k)) n (fun q => HA s q.2 ∧ CW q.2 48 (wQ (wSe (dW D) d) n)) ?_ ?_ fu 0 (wI t 48 6 (nI d)) (by omega) (by unfold fu; omega) ⟨e4, hw⟩
  · obtain ⟨⟨⟨⟩, v⟩, k1, k2, k3⟩ := key
    refine ⟨v, ?_, k2, k3⟩
    unfold fX8_lookAhead
    rw [k_then hS, k_now hS, x_callV (show (sH s 48).1 = 7 from hC.h48.1) e1]
    rw [k_then hSt, xPI e3.k]
    exact k1
  · rintro m k v hk ⟨hF, hv⟩
    obtain ⟨w, g1, g2, g3⟩ := c_passYear hv (by decide)
    have hSv := hF.cs hS
    refine ⟨w, ⟨hF.fi g2, g3⟩, ?_⟩
    show fX8_lookAhead_21 (m + 1) 1 _ _ v = _
    rw [qX8_lookAhead_21]
    simp (disch := omega) only [li_0, li_1, li_2, li_3, li_4, li_5, li_6, li_7, li_8, li_9, li_10, li_11, li_12, li_13, li_14, li_15, li_16, li_17, li_20, li_24, li_25, li_29, li_31, li_32, li_33, li_37, li_40, li_41, li_48, li_49, li_50, li_56, li_57, li_59, li_60, li_61, li_62, li_63, li_70, li_73, li_85, li_97, li_98, li_99, li_100, li_101, li_102, li_103, li_104, li_105, li_107, li_108, li_109, li_110, li_111, li_112, li_114, li_115, li_116, li_117, li_118, li_119, li_121, li_122, li_140, li_193, li_200, li_240, li_255, li_289, li_290, li_300, li_302, li_314, li_326, li_860, li_880, li_900, li_999, li_1024, li_2801, li_3440, li_3441, li_3442, li_3443, li_3444, li_3447, li_3448, li_3449, li_3457, li_3465, li_3469, li_3473, li_3477, li_3501, li_3513, li_3525, li_3537, li_3633, li_3730, li_3742, li_3754, li_3766, li_4095, li_4096, li_4300, li_9011, li_9999, li_10000, li_36864, li_65536, li_1000000, ll_0, ll_1, ll_100, ll_11, ll_16, ll_20, ll_3, ll_32, ll_50, ll_8, ll_96, ll_99, ll_9999, ne_m1, e_if, e_ret, e_rz0, e_rz1, e_rzb, e_call, bCallX_eq, nI_add, nI_mul, nI_succ1, le_i, lt_i, eq_i, m1_i, m1_le, m1_lt, m1_ge, m1_eq, ite_true, ite_false, if_true, if_false, show ¬ n ≤ k by omega, k_then hSv, e_callV hv.k, g1]
  · rintro m v ⟨hF, hv⟩
    refine ⟨((), v), ?_, hF, hv⟩
    show fX8_lookAhead_21 (m + 1) 1 _ _ v = _
    rw [qX8_lookAhead_21]
    simp (disch := omega) only [li_0, li_1, li_2, li_3, li_4, li_5, li_6, li_7, li_8, li_9, li_10, li_11, li_12, li_13, li_14, li_15, li_16, li_17, li_20, li_24, li_25, li_29, li_31, li_32, li_33, li_37, li_40, li_41, li_48, li_49, li_50, li_56, li_57, li_59, li_60, li_61, li_62, li_63, li_70, li_73, li_85, li_97, li_98, li_99, li_100, li_101, li_102, li_103, li_104, li_105, li_107, li_108, li_109, li_110, li_111, li_112, li_114, li_115, li_116, li_117, li_118, li_119, li_121, li_122, li_140, li_193, li_200, li_240, li_255, li_289, li_290, li_300, li_302, li_314, li_326, li_860, li_880, li_900, li_999, li_1024, li_2801, li_3440, li_3441, li_3442, li_3443, li_3444, li_3447, li_3448, li_3449, li_3457, li_3465, li_3469, li_3473, li_3477, li_3501, li_3513, li_3525, li_3537, li_3633, li_3730, li_3742, li_3754, li_3766, li_4095, li_4096, li_4300, li_9011, li_9999, li_10000, li_36864, li_65536, li_1000000, ll_0, ll_1, ll_100, ll_11, ll_16, ll_20, ll_3, ll_32, ll_50, ll_8, ll_96, ll_99, ll_9999, ne_m1, e_if, e_ret, e_rz0, e_rz1, e_rzb, e_call, bCallX_eq, nI_add, nI_mul, nI_succ1, le_i, lt_i, eq_i, m1_i, m1_le, m1_lt, m1_ge, m1_eq, ite_true, ite_false, if_true, if_false, Nat.le_refl]
/-- the reference keeps its world in 119 -/
abbrev a3 : Nat → Prop := fun b => b = 118 ∨ b = 119 ∨ b = 121
def HK (s t : mS) : Prop := FI a3 s t ∧ (∀ i, 860 ≤ i → sI t 118 i = sI s 118 i) ∧ ∀ i, i < 860 → sI t 119 i = sI s 118 i
def HR (s t : mS) : Prop := FI a3 s t ∧ sI t 118 = sI s 118
theorem HR.rf {s : mS} : HR s s := ⟨FI.rf, rfl⟩
theorem HK.fm {s t u : mS} (h : HK s t) (hF : FM t u) : HK s u := by
  refine ⟨h.1.tr (hF.1.mo ?_), fun i hi => (hF.2 i hi).trans (h.2.1 i hi), fun i hi => ?_⟩
  · rintro b (rfl | rfl)
    · exact Or.inl rfl
    · exact Or.inr (Or.inr rfl)
  · rw [hF.1.1 119 (by show ¬ (_ ∨ _); omega)]
    exact h.2.2 i hi
theorem x_keep2 {s : mS} {W : wW} (u : RX s W) : ∃ t, fX9_keep 113 s = some ((), t) ∧ HK s t ∧ RX t W := by
  obtain ⟨t, e1, e2, e3⟩ := x_keep u.1
  exact ⟨t, e1, ⟨e2.mo (fun b hb => Or.inr (Or.inl hb)), fun i _ => by rw [e2.1 118 (by decide)], e3⟩, u.st e2.2 (e2.1 118 (by decide))⟩
theorem x_take2 {s t : mS} (h : HK s t) (hT : RT t) : ∃ v, fX9_takeAgain 113 t = some ((), v) ∧ HR s v ∧ HK s v := by
  obtain ⟨v, e1, e2, e3, e4⟩ := x_takeAgain hT
  have e5 : FI a3 s v := h.1.tr (e2.mo (fun b hb => Or.inl hb))
  refine ⟨v, e1, ⟨e5, ?_⟩, e5, fun i hi => (e4 i hi).trans (h.2.1 i hi), fun i hi => ?_⟩
  · funext i
    rcases Nat.lt_or_ge i 860 with hi | hi
    · rw [e3 i hi]; exact h.2.2 i hi
    · rw [e4 i hi]; exact h.2.1 i hi
  · rw [e2.1 119 (by decide)]; exact h.2.2 i hi
theorem HR.rx {s t : mS} {W : wW} (h : HR s t) (u : RX s W) : RX t W := u.st h.1.2 h.2
theorem RP.hr {s t : mS} {D : dD} (hR : RP s D) (hD : DOk D) (h : HR s t) : RP t D := by
  have g : ∀ b, b ≠ 118 → b ≠ 119 → b ≠ 121 → sI t b = sI s b := fun b h1 h2 h3 => h.1.1 b (by show ¬ (_ ∨ _ ∨ _); omega)
  refine hR.upd D.1 (dW D) (hR.2.1.mv (g 113 (by decide) (by decide) (by decide)) (by rw [h.1.L])) rfl rfl hD.2.2.1 (h.rx hR.1) (g _ (by decide) (by decide) (by decide)) (g _ (by decide) (by decide) (by decide)) (g _ (by decide) (by decide) (by decide)) (by rw [h.1.L]) (fun i _ _ => by rw [h.2])
theorem HR.r {s t : mS} (h : HR s t) : FR rfA s t := (h.1.mo (B := rfA) (by rintro b (rfl | rfl | rfl) <;> exact ⟨by decide, by decide⟩)).fr
theorem HA.c {s s1 : mS} (h : HA s s1) : FC s s1 := h.1.c fun b hb hr => by
  have h1 : 113 ≤ b := hr.1
  have := hb.2
  omega
theorem FC.tr1 {s t : mS} (h : FC s t) (j : Nat) (x : Int32) : FC s (wI t 1 j x) := by
  obtain ⟨h1, h2, h3⟩ := h
  refine ⟨fun b hb => ?_, h2, h3⟩
  have hb1 : 113 ≤ b := hb.1
  obtain ⟨g1, g2, g3⟩ := h1 b hb
  refine ⟨?_, g2, g3⟩
  rw [← g1]
  funext i
  exact sI_wI_ne (Or.inl (by omega))
theorem FC.l1 {s t : mS} (h : FC s t) (j : Nat) (x : Int64) : FC s (wL t 1 j x) := by
  obtain ⟨h1, h2, h3⟩ := h
  refine ⟨fun b hb => ?_, h2, h3⟩
  have hb1 : 113 ≤ b := hb.1
  obtain ⟨g1, g2, g3⟩ := h1 b hb
  refine ⟨g1, ?_, g3⟩
  rw [← g2]
  funext i
  rw [sL_wL, if_neg (by omega)]
theorem Sim.ah {α : Type} {fc fr : mM α} (h : ∀ (s t : mS) (D : dD), CP s D → RP t D → DOk D → ∃ (x : α) (k : Nat) (s1 t1 : mS), k < 12 ∧ HA s s1 ∧ HR (q0 t) t1 ∧ fc s = some (x, wI s1 1 11 (nI k)) ∧ (fr t = some (x, wI t1 113 0 (nI k)) ∨ (k = 0 ∧ fr t = some (x, t1)))) : Sim fc fr := by
  intro s t D hC hR hD
  obtain ⟨x, k, s1, t1, hk, hA, hH, h1, h2⟩ := h s t D hC hR hD
  have hD0 : DOk (dSt D 0) := dSt_ok hD (by decide)
  have hC1 := (hC.ah hD hA).st hD k
  have hR1 := (hR.q0 hD).hr hD0 hH
  rcases h2 with h2 | ⟨rfl, h2⟩
  · exact ⟨x, _, _, dSt D k, h1, h2, hC1, hR1.st hD0 k, dSt_ok hD hk, hA.c.tr1 _ _, ((fr_q0 t).tr hH.r).tr (fr113 0 _)⟩
  · exact ⟨x, _, _, dSt D 0, h1, h2, hC1, hR1, hD0, hA.c.tr1 _ _, (fr_q0 t).tr hH.r⟩
theorem x_goYears {s t : mS} {W : wW} (h : HK s t) (u : RX t W) {n : Nat} (hn : wYr W + n ≤ 200) : ∃ v, fX9_goAhead_6 fu 113 (nI n) (nI 0) t = some ((), v) ∧ HK s v ∧ RX v (wQ W n) := by
  have key := loop_s (fun m k => fX9_goAhead_6 m 113 (nI n) (nI k)) (fun k v => HK s v ∧ RX v (wQ W k)) n (fun q => HK s q.2 ∧ RX q.2 (wQ W n)) ?_ ?_ fu 0 t (by omega) (by unfold fu; omega) ⟨h, u⟩
  · obtain ⟨⟨⟨⟩, v⟩, e1, e2, e3⟩ := key
    exact ⟨v, e1, e2, e3⟩
  · rintro m k v hk ⟨hF, hv⟩
    have hy : wYr (wQ W k) < 200 := by rw [wQ_yr k (by omega)]; omega
    obtain ⟨w, e1, e2, e3⟩ := x_oneYear hv hy
    have e3 : RX w (wQ W (k + 1)) := by
      rw [wQ_s]
      unfold wPs
      rw [if_pos hy]
      exact e3
    refine ⟨w, ⟨hF.fm e2, e3⟩, ?_⟩
    show fX9_goAhead_6 (m + 1) 113 _ _ v = _
    rw [qX9_goAhead_6]
    simp (disch := omega) only [li_0, li_1, li_2, li_3, li_4, li_5, li_6, li_7, li_8, li_9, li_10, li_11, li_12, li_13, li_14, li_15, li_16, li_17, li_20, li_24, li_25, li_29, li_31, li_32, li_33, li_37, li_40, li_41, li_48, li_49, li_50, li_56, li_57, li_59, li_60, li_61, li_62, li_63, li_70, li_73, li_85, li_97, li_98, li_99, li_100, li_101, li_102, li_103, li_104, li_105, li_107, li_108, li_109, li_110, li_111, li_112, li_114, li_115, li_116, li_117, li_118, li_119, li_121, li_122, li_140, li_193, li_200, li_240, li_255, li_289, li_290, li_300, li_302, li_314, li_326, li_860, li_880, li_900, li_999, li_1024, li_2801, li_3440, li_3441, li_3442, li_3443, li_3444, li_3447, li_3448, li_3449, li_3457, li_3465, li_3469, li_3473, li_3477, li_3501, li_3513, li_3525, li_3537, li_3633, li_3730, li_3742, li_3754, li_3766, li_4095, li_4096, li_4300, li_9011, li_9999, li_10000, li_36864, li_65536, li_1000000, ll_0, ll_1, ll_100, ll_11, ll_16, ll_20, ll_3, ll_32, ll_50, ll_8, ll_96, ll_99, ll_9999, ne_m1, e_if, e_ret, e_rz0, e_rz1, e_rzb, e_call, bCallX_eq, nI_add, nI_mul, nI_succ1, le_i, lt_i, eq_i, m1_i, m1_le, m1_lt, m1_ge, m1_eq, ite_true, ite_false, if_true, if_false, show ¬ n ≤ k by omega, e_callV hv.k, e1]
  · rintro m v ⟨hF, hv⟩
    refine ⟨((), v), ?_, hF, hv⟩
    show fX9_goAhead_6 (m + 1) 113 _ _ v = _
    rw [qX9_goAhead_6]
    simp (disch := omega) only [li_0, li_1, li_2, li_3, li_4, li_5, li_6, li_7, li_8, li_9, li_10, li_11, li_12, li_13, li_14, li_15, li_16, li_17, li_20, li_24, li_25, li_29, li_31, li_32, li_33, li_37, li_40, li_41, li_48, li_49, li_50, li_56, li_57, li_59, li_60, li_61, li_62, li_63, li_70, li_73, li_85, li_97, li_98, li_99, li_100, li_101, li_102, li_103, li_104, li_105, li_107, li_108, li_109, li_110, li_111, li_112, li_114, li_115, li_116, li_117, li_118, li_119, li_121, li_122, li_140, li_193, li_200, li_240, li_255, li_289, li_290, li_300, li_302, li_314, li_326, li_860, li_880, li_900, li_999, li_1024, li_2801, li_3440, li_3441, li_3442, li_3443, li_3444, li_3447, li_3448, li_3449, li_3457, li_3465, li_3469, li_3473, li_3477, li_3501, li_3513, li_3525, li_3537, li_3633, li_3730, li_3742, li_3754, li_3766, li_4095, li_4096, li_4300, li_9011, li_9999, li_10000, li_36864, li_65536, li_1000000, ll_0, ll_1, ll_100, ll_11, ll_16, ll_20, ll_3, ll_32, ll_50, ll_8, ll_96, ll_99, ll_9999, ne_m1, e_if, e_ret, e_rz0, e_rz1, e_rzb, e_call, bCallX_eq, nI_add, nI_mul, nI_succ1, le_i, lt_i, eq_i, m1_i, m1_le, m1_lt, m1_ge, m1_eq, ite_true, ite_false, if_true, if_false, Nat.le_refl]
theorem x_ahead {s : mS} {W : wW} (u : RX s W) {n : Nat} (hn : wYr W + n ≤ 200) : ∃ v, fX9_goAhead 113 (nI n) s = some ((), v) ∧ HK s v ∧ RX v (wQ W n) := by
  obtain ⟨t, e1, e2, e3⟩ := x_keep2 u
  obtain ⟨v, f1, f2, f3⟩ := x_goYears e2 e3 hn
  refine ⟨v, ?_, f2, f3⟩
  unfold fX9_goAhead
  rw [x_callV u.k e1]
  exact f1
/-- years ahead that may be asked for -/
def ahOk (W : wW) (n : Nat) : Prop := n ≤ 100 ∧ wYr W + n ≤ 200
def noAh (W : wW) (x : Int32) : Prop := x < 0 ∨ ∃ n, n < 2147483648 ∧ ¬ ahOk W n ∧ x = nI n
theorem yrs (W : wW) (x : Int32) : (∃ n, ahOk W n ∧ x = nI n) ∨ noAh W x := by
  rcases arg x with h | ⟨n, h1, h2⟩
  · exact Or.inr (Or.inl h)
  · by_cases h3 : ahOk W n
    · exact Or.inl ⟨n, h3, h2⟩
    · exact Or.inr (Or.inr ⟨n, h1, h3, h2⟩)
section AH
variable {s : mS} {W : wW}
theorem k_left (hS : CS s) (h : CW s 4 W) : fX8_yearsLeft 1 s = some (nI (min 100 (200 - wYr W)), s) := by
  have := h.wi.1
  unfold fX8_yearsLeft
  simp (disch := omega) only [k_now hS, g_yr h, li_0, li_1, li_2, li_3, li_4, li_5, li_6, li_7, li_8, li_9, li_10, li_11, li_12, li_13, li_14, li_15, li_16, li_17, li_20, li_24, li_25, li_29, li_31, li_32, li_33, li_37, li_40, li_41, li_48, li_49, li_50, li_56, li_57, li_59, li_60, li_61, li_62, li_63, li_70, li_73, li_85, li_97, li_98, li_99, li_100, li_101, li_102, li_103, li_104, li_105, li_107, li_108, li_109, li_110, li_111, li_112, li_114, li_115, li_116, li_117, li_118, li_119, li_121, li_122, li_140, li_193, li_200, li_240, li_255, li_289, li_290, li_300, li_302, li_314, li_326, li_860, li_880, li_900, li_999, li_1024, li_2801, li_3440, li_3441, li_3442, li_3443, li_3444, li_3447, li_3448, li_3449, li_3457, li_3465, li_3469, li_3473, li_3477, li_3501, li_3513, li_3525, li_3537, li_3633, li_3730, li_3742, li_3754, li_3766, li_4095, li_4096, li_4300, li_9011, li_9999, li_10000, li_36864, li_65536, li_1000000, ll_0, ll_1, ll_100, ll_11, ll_16, ll_20, ll_3, ll_32, ll_50, ll_8, ll_96, ll_99, ll_9999, ne_m1, e_if, e_ret, e_rz0, e_rz1, e_rzb, e_call, bCallX_eq, nI_add, nI_mul, nI_succ1, le_i, lt_i, eq_i, m1_i, m1_le, m1_lt, m1_ge, m1_eq, ite_true, ite_false, if_true, if_false, sub_i, jMin_i]
theorem k_isAhead (hS : CS s) (h : CW s 4 W) {n : Nat} (hn : ahOk W n) : fX8_isAhead 1 (nI n) s = some (nI 1, s) := by
  have := h.wi.1
  have h1 := hn.1
  have h2 := hn.2
  unfold fX8_isAhead
  simp (disch := omega) only [k_cv hS, k_left hS h, li_0, li_1, li_2, li_3, li_4, li_5, li_6, li_7, li_8, li_9, li_10, li_11, li_12, li_13, li_14, li_15, li_16, li_17, li_20, li_24, li_25, li_29, li_31, li_32, li_33, li_37, li_40, li_41, li_48, li_49, li_50, li_56, li_57, li_59, li_60, li_61, li_62, li_63, li_70, li_73, li_85, li_97, li_98, li_99, li_100, li_101, li_102, li_103, li_104, li_105, li_107, li_108, li_109, li_110, li_111, li_112, li_114, li_115, li_116, li_117, li_118, li_119, li_121, li_122, li_140, li_193, li_200, li_240, li_255, li_289, li_290, li_300, li_302, li_314, li_326, li_860, li_880, li_900, li_999, li_1024, li_2801, li_3440, li_3441, li_3442, li_3443, li_3444, li_3447, li_3448, li_3449, li_3457, li_3465, li_3469, li_3473, li_3477, li_3501, li_3513, li_3525, li_3537, li_3633, li_3730, li_3742, li_3754, li_3766, li_4095, li_4096, li_4300, li_9011, li_9999, li_10000, li_36864, li_65536, li_1000000, ll_0, ll_1, ll_100, ll_11, ll_16, ll_20, ll_3, ll_32, ll_50, ll_8, ll_96, ll_99, ll_9999, ne_m1, e_if, e_ret, e_rz0, e_rz1, e_rzb, e_call, bCallX_eq, nI_add, nI_mul, nI_succ1, le_i, lt_i, eq_i, m1_i, m1_le, m1_lt, m1_ge, m1_eq, ite_true, ite_false, if_true, if_false, Nat.not_lt_zero, show ¬ min 100 (200 - wYr W) < n by omega]
theorem k_noAhead (hS : CS s) (h : CW s 4 W) {x : Int32} (hx : noAh W x) : fX8_isAhead 1 x s = some (nI 0, s) := by
  have := h.wi.1
  unfold fX8_isAhead
  rcases hx with hx | ⟨n, h1, h2, rfl⟩
  · simp (disch := omega) only [li_0, li_1, li_2, li_3, li_4, li_5, li_6, li_7, li_8, li_9, li_10, li_11, li_12, li_13, li_14, li_15, li_16, li_17, li_20, li_24, li_25, li_29, li_31, li_32, li_33, li_37, li_40, li_41, li_48, li_49, li_50, li_56, li_57, li_59, li_60, li_61, li_62, li_63, li_70, li_73, li_85, li_97, li_98, li_99, li_100, li_101, li_102, li_103, li_104, li_105, li_107, li_108, li_109, li_110, li_111, li_112, li_114, li_115, li_116, li_117, li_118, li_119, li_121, li_122, li_140, li_193, li_200, li_240, li_255, li_289, li_290, li_300, li_302, li_314, li_326, li_860, li_880, li_900, li_999, li_1024, li_2801, li_3440, li_3441, li_3442, li_3443, li_3444, li_3447, li_3448, li_3449, li_3457, li_3465, li_3469, li_3473, li_3477, li_3501, li_3513, li_3525, li_3537, li_3633, li_3730, li_3742, li_3754, li_3766, li_4095, li_4096, li_4300, li_9011, li_9999, li_10000, li_36864, li_65536, li_1000000, ll_0, ll_1, ll_100, ll_11, ll_16, ll_20, ll_3, ll_32, ll_50, ll_8, ll_96, ll_99, ll_9999, ne_m1, e_if, e_ret, e_rz0, e_rz1, e_rzb, e_call, bCallX_eq, nI_add, nI_mul, nI_succ1, le_i, lt_i, eq_i, m1_i, m1_le, m1_lt, m1_ge, m1_eq, ite_true, ite_false, if_true, if_false, neg_lt hx]
  · have h3 : min 100 (200 - wYr W) < n := by unfold ahOk at h2; omega
    simp (disch := omega) only [k_cv hS, k_left hS h, li_0, li_1, li_2, li_3, li_4, li_5, li_6, li_7, li_8, li_9, li_10, li_11, li_12, li_13, li_14, li_15, li_16, li_17, li_20, li_24, li_25, li_29, li_31, li_32, li_33, li_37, li_40, li_41, li_48, li_49, li_50, li_56, li_57, li_59, li_60, li_61, li_62, li_63, li_70, li_73, li_85, li_97, li_98, li_99, li_100, li_101, li_102, li_103, li_104, li_105, li_107, li_108, li_109, li_110, li_111, li_112, li_114, li_115, li_116, li_117, li_118, li_119, li_121, li_122, li_140, li_193, li_200, li_240, li_255, li_289, li_290, li_300, li_302, li_314, li_326, li_860, li_880, li_900, li_999, li_1024, li_2801, li_3440, li_3441, li_3442, li_3443, li_3444, li_3447, li_3448, li_3449, li_3457, li_3465, li_3469, li_3473, li_3477, li_3501, li_3513, li_3525, li_3537, li_3633, li_3730, li_3742, li_3754, li_3766, li_4095, li_4096, li_4300, li_9011, li_9999, li_10000, li_36864, li_65536, li_1000000, ll_0, ll_1, ll_100, ll_11, ll_16, ll_20, ll_3, ll_32, ll_50, ll_8, ll_96, ll_99, ll_9999, ne_m1, e_if, e_ret, e_rz0, e_rz1, e_rzb, e_call, bCallX_eq, nI_add, nI_mul, nI_succ1, le_i, lt_i, eq_i, m1_i, m1_le, m1_lt, m1_ge, m1_eq, ite_true, ite_false, if_true, if_false, Nat.not_lt_zero, h3]
theorem q_isAhead (u : RX s W) {n : Nat} (hn : ahOk W n) : fX9_isAhead 113 (nI n) s = some (nI 1, s) := by
  have := u.wi.1
  have h1 := hn.1
  have h2 := hn.2
  unfold fX9_isAhead
  simp (disch := omega) only [r_c u, r_wa u, r_bo u, r_si u, r_ra u, r_rb u, r_yr u, r_dr u, r_pe u, r_fl u, r_pa u, r_di u, r_fr u, r_to u, r_by u, e_callV u.k, q_refuse u.1, q_no u.1, n10, li_0, li_1, li_2, li_3, li_4, li_5, li_6, li_7, li_8, li_9, li_10, li_11, li_12, li_13, li_14, li_15, li_16, li_17, li_20, li_24, li_25, li_29, li_31, li_32, li_33, li_37, li_40, li_41, li_48, li_49, li_50, li_56, li_57, li_59, li_60, li_61, li_62, li_63, li_70, li_73, li_85, li_97, li_98, li_99, li_100, li_101, li_102, li_103, li_104, li_105, li_107, li_108, li_109, li_110, li_111, li_112, li_114, li_115, li_116, li_117, li_118, li_119, li_121, li_122, li_140, li_193, li_200, li_240, li_255, li_289, li_290, li_300, li_302, li_314, li_326, li_860, li_880, li_900, li_999, li_1024, li_2801, li_3440, li_3441, li_3442, li_3443, li_3444, li_3447, li_3448, li_3449, li_3457, li_3465, li_3469, li_3473, li_3477, li_3501, li_3513, li_3525, li_3537, li_3633, li_3730, li_3742, li_3754, li_3766, li_4095, li_4096, li_4300, li_9011, li_9999, li_10000, li_36864, li_65536, li_1000000, ll_0, ll_1, ll_100, ll_11, ll_16, ll_20, ll_3, ll_32, ll_50, ll_8, ll_96, ll_99, ll_9999, ne_m1, e_if, e_ret, e_rz0, e_rz1, e_rzb, e_call, bCallX_eq, nI_add, nI_mul, nI_succ1, le_i, lt_i, eq_i, m1_i, m1_le, m1_lt, m1_ge, m1_eq, ite_true, ite_false, if_true, if_false, l_i, x_in, show (0 ≤ n ∧ n ≤ 100) = True from eq_true ⟨Nat.zero_le _, h1⟩, decide_true, Bool.toNat_true, show ¬ 200 < wYr W + n by omega]
theorem q_noAhead (u : RX s W) {x : Int32} (hx : noAh W x) : fX9_isAhead 113 x s = some (nI 0, s) := by
  have := u.wi.1
  unfold fX9_isAhead
  rcases hx with hx | ⟨n, h1, h2, rfl⟩
  · simp (disch := first | assumption | omega) only [r_c u, r_wa u, r_bo u, r_si u, r_ra u, r_rb u, r_yr u, r_dr u, r_pe u, r_fl u, r_pa u, r_di u, r_fr u, r_to u, r_by u, e_callV u.k, q_refuse u.1, q_no u.1, n10, li_0, li_1, li_2, li_3, li_4, li_5, li_6, li_7, li_8, li_9, li_10, li_11, li_12, li_13, li_14, li_15, li_16, li_17, li_20, li_24, li_25, li_29, li_31, li_32, li_33, li_37, li_40, li_41, li_48, li_49, li_50, li_56, li_57, li_59, li_60, li_61, li_62, li_63, li_70, li_73, li_85, li_97, li_98, li_99, li_100, li_101, li_102, li_103, li_104, li_105, li_107, li_108, li_109, li_110, li_111, li_112, li_114, li_115, li_116, li_117, li_118, li_119, li_121, li_122, li_140, li_193, li_200, li_240, li_255, li_289, li_290, li_300, li_302, li_314, li_326, li_860, li_880, li_900, li_999, li_1024, li_2801, li_3440, li_3441, li_3442, li_3443, li_3444, li_3447, li_3448, li_3449, li_3457, li_3465, li_3469, li_3473, li_3477, li_3501, li_3513, li_3525, li_3537, li_3633, li_3730, li_3742, li_3754, li_3766, li_4095, li_4096, li_4300, li_9011, li_9999, li_10000, li_36864, li_65536, li_1000000, ll_0, ll_1, ll_100, ll_11, ll_16, ll_20, ll_3, ll_32, ll_50, ll_8, ll_96, ll_99, ll_9999, ne_m1, e_if, e_ret, e_rz0, e_rz1, e_rzb, e_call, bCallX_eq, nI_add, nI_mul, nI_succ1, le_i, lt_i, eq_i, m1_i, m1_le, m1_lt, m1_ge, m1_eq, ite_true, ite_false, if_true, if_false, x_neg]
  · by_cases h3 : n ≤ 100
    · have h4 : 200 < wYr W + n := by unfold ahOk at h2; omega
      simp (disch := omega) only [r_c u, r_wa u, r_bo u, r_si u, r_ra u, r_rb u, r_yr u, r_dr u, r_pe u, r_fl u, r_pa u, r_di u, r_fr u, r_to u, r_by u, e_callV u.k, q_refuse u.1, q_no u.1, n10, li_0, li_1, li_2, li_3, li_4, li_5, li_6, li_7, li_8, li_9, li_10, li_11, li_12, li_13, li_14, li_15, li_16, li_17, li_20, li_24, li_25, li_29, li_31, li_32, li_33, li_37, li_40, li_41, li_48, li_49, li_50, li_56, li_57, li_59, li_60, li_61, li_62, li_63, li_70, li_73, li_85, li_97, li_98, li_99, li_100, li_101, li_102, li_103, li_104, li_105, li_107, li_108, li_109, li_110, li_111, li_112, li_114, li_115, li_116, li_117, li_118, li_119, li_121, li_122, li_140, li_193, li_200, li_240, li_255, li_289, li_290, li_300, li_302, li_314, li_326, li_860, li_880, li_900, li_999, li_1024, li_2801, li_3440, li_3441, li_3442, li_3443, li_3444, li_3447, li_3448, li_3449, li_3457, li_3465, li_3469, li_3473, li_3477, li_3501, li_3513, li_3525, li_3537, li_3633, li_3730, li_3742, li_3754, li_3766, li_4095, li_4096, li_4300, li_9011, li_9999, li_10000, li_36864, li_65536, li_1000000, ll_0, ll_1, ll_100, ll_11, ll_16, ll_20, ll_3, ll_32, ll_50, ll_8, ll_96, ll_99, ll_9999, ne_m1, e_if, e_ret, e_rz0, e_rz1, e_rzb, e_call, bCallX_eq, nI_add, nI_mul, nI_succ1, le_i, lt_i, eq_i, m1_i, m1_le, m1_lt, m1_ge, m1_eq, ite_true, ite_false, if_true, if_false, l_i, x_in, show (0 ≤ n ∧ n ≤ 100) = True from eq_true ⟨Nat.zero_le _, h3⟩, decide_true, Bool.toNat_true, h4]
    · simp (disch := omega) only [r_c u, r_wa u, r_bo u, r_si u, r_ra u, r_rb u, r_yr u, r_dr u, r_pe u, r_fl u, r_pa u, r_di u, r_fr u, r_to u, r_by u, e_callV u.k, q_refuse u.1, q_no u.1, n10, li_0, li_1, li_2, li_3, li_4, li_5, li_6, li_7, li_8, li_9, li_10, li_11, li_12, li_13, li_14, li_15, li_16, li_17, li_20, li_24, li_25, li_29, li_31, li_32, li_33, li_37, li_40, li_41, li_48, li_49, li_50, li_56, li_57, li_59, li_60, li_61, li_62, li_63, li_70, li_73, li_85, li_97, li_98, li_99, li_100, li_101, li_102, li_103, li_104, li_105, li_107, li_108, li_109, li_110, li_111, li_112, li_114, li_115, li_116, li_117, li_118, li_119, li_121, li_122, li_140, li_193, li_200, li_240, li_255, li_289, li_290, li_300, li_302, li_314, li_326, li_860, li_880, li_900, li_999, li_1024, li_2801, li_3440, li_3441, li_3442, li_3443, li_3444, li_3447, li_3448, li_3449, li_3457, li_3465, li_3469, li_3473, li_3477, li_3501, li_3513, li_3525, li_3537, li_3633, li_3730, li_3742, li_3754, li_3766, li_4095, li_4096, li_4300, li_9011, li_9999, li_10000, li_36864, li_65536, li_1000000, ll_0, ll_1, ll_100, ll_11, ll_16, ll_20, ll_3, ll_32, ll_50, ll_8, ll_96, ll_99, ll_9999, ne_m1, e_if, e_ret, e_rz0, e_rz1, e_rzb, e_call, bCallX_eq, nI_add, nI_mul, nI_succ1, le_i, lt_i, eq_i, m1_i, m1_le, m1_lt, m1_ge, m1_eq, ite_true, ite_false, if_true, if_false, l_i, x_in, show (0 ≤ n ∧ n ≤ 100) = False from eq_false (by omega), decide_false, Bool.toNat_false]
end AH

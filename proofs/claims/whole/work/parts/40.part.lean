/-! A ROPE IN TWO, BY THE REFERENCE -/
theorem w2 (s : mS) (a j : Nat) (x : Int32) : (wI s a j x).2 = s.2 := rfl
theorem RT.mv {s t : mS} (h : RT s) (h2 : t.2 = s.2) : RT t := by
  have e1 : sH t = sH s := by show t.2.2.2.1 = s.2.2.2.1; rw [h2]
  have e2 : sP t = sP s := by show t.2.2.1 = s.2.2.1; rw [h2]
  unfold RT
  rw [e1, e2]
  exact h
theorem RT.c {s : mS} (h : RT s) : sH s 118 = (11, 4300) := h.2.2.2.2.2.2.2.2.2.2.2.2.2.2.2.2.1
theorem RT.w {s : mS} {a j : Nat} {x : Int32} (h : RT s) : RT (wI s a j x) := h.mv rfl
section RTS
variable {w : mS} {α : Type}
theorem rt_cv (hT : RT w) {β : Type} {F : mM β} {k : β → mM α} : bCallV 9 113 F k w = bCall F k w := e_callV hT.k
theorem rt_c (hT : RT w) {f : Nat → mM α} : bGR 9 113 24 f w = f 118 w := xGR hT.k hT.2.2.2.2.2.1
theorem rt_n (hT : RT w) {f : Int32 → mM α} {i : Nat} (hi : i < 4300) : bAI 11 118 (nI i) f w = f (sI w 118 i) w := xAI hT.c hi (by decide)
theorem rt_w (hT : RT w) {m : mM α} {i : Nat} {x : Int32} (hi : i < 4300) : bSI 118 (nI i) x m w = m (wI w 118 i x) := xSI hT.c hi (by decide)
end RTS
abbrev at118 : Nat → Prop := fun b => b = 118
theorem RX.ropes {s t : mS} {W : wW} {f : Nat → rR} (h : RX s W) (hF : t.2 = s.2) (hl : ∀ i, i < 37 ∨ 289 ≤ i → sI t 118 i = sI s 118 i) (hr : ∀ r, r < 12 → RoR (sI t 118) r (f r)) (hok : wOk (wSetRo W f)) : RX t (wSetRo W f) := by
  obtain ⟨hT, e0, e1, e2, e3, e4, e5, e6, e7, e8, ep, ef, er, ew, el⟩ := h
  refine ⟨hT.mv hF, ?_, ?_, ?_, ?_, ?_, ?_, ?_, ?_, ?_, fun p hp => ?_, fun q hq => ?_, hr, hok, ?_⟩
  · rw [hl _ (by omega)]; exact e0
  · rw [hl _ (by omega)]; exact e1
  · rw [hl _ (by omega)]; exact e2
  · rw [hl _ (by omega)]; exact e3
  · rw [hl _ (by omega)]; exact e4
  · rw [hl _ (by omega)]; exact e5
  · rw [hl _ (by omega)]; exact e6
  · rw [hl _ (by omega)]; exact e7
  · rw [hl _ (by omega)]; exact e8
  · have := ew.2.2.2.2.2.2.2.1
    have hp : p < wPe W := hp
    rw [hl _ (by omega), hl _ (by omega)]; exact ep p hp
  · have := ew.2.2.2.2.2.2.2.2.2.2.1
    have hq : q < wFl W := hq
    rw [hl _ (by omega), hl _ (by omega), hl _ (by omega)]; exact ef q hq
  · obtain ⟨l1, l2, l3⟩ := el
    refine ⟨by rw [hl _ (by omega)]; exact l1, fun k hk => ?_, fun j hj => ?_⟩
    · rw [hl _ (by omega), hl _ (by omega), hl _ (by omega)]; exact l2 k hk
    · rw [hl _ (by omega), hl _ (by omega), hl _ (by omega)]; exact l3 j hj
theorem RoR.mv {c d : Nat → Int32} {r : Nat} {ρ : rR} (h : RoR c r ρ) (hI : rN ρ ≤ 8) (h1 : ∀ i, (i = 85 + r ∨ i = 37 + r ∨ i = 49 + r ∨ i = 61 + r ∨ i = 73 + r ∨ (97 + 8 * r ≤ i ∧ i < 105 + 8 * r) ∨ (193 + 8 * r ≤ i ∧ i < 201 + 8 * r)) → d i = c i) : RoR d r ρ := by
  obtain ⟨a1, a2⟩ := h
  refine ⟨by rw [h1 _ (by omega)]; exact a1, fun h0 => ?_⟩
  obtain ⟨b1, b2, b3, b4, b5⟩ := a2 h0
  refine ⟨by rw [h1 _ (by omega)]; exact b1, by rw [h1 _ (by omega)]; exact b2, by rw [h1 _ (by omega)]; exact b3, by rw [h1 _ (by omega)]; exact b4, fun k hk => ?_⟩
  rw [h1 _ (by omega), h1 _ (by omega)]
  exact b5 k hk
theorem wFr_gone {W : wW} (h : wFr W < 12) : rT (wRo W (wFr W)) = false := by
  have h2 : (!rT (wRo W (wFr W))) = true := fs_yes (fun r => !rT (wRo W r)) 12 h
  simpa using h2
theorem x_freeRope {s : mS} {W : wW} (h : RX s W) : fX9_freeRope 113 s = some (nI (wFr W), s) := by
  unfold fX9_freeRope
  refine loop_x (fun m k => fX9_freeRope_2 m 113 (nI k) s) (fun r => !rT (wRo W r)) (fun k => some (nI k, s)) 12 ?_ ?_ ?_ fu (by unfold fu; omega)
  · intro m k hk hx
    have hk' : ¬ 12 ≤ k := by omega
    have hx : rT (wRo W k) = false := by simpa using hx
    have i1 := (h.ri k).1
    have hx : rN (wRo W k) ≤ 0 := by simpa [rT] using hx
    show fX9_freeRope_2 (m + 1) 113 _ s = _
    rw [qX9_freeRope_2]
    simp (disch := omega) only [r_c h, r_wa h, r_bo h, r_si h, r_ra h, r_rb h, r_yr h, r_dr h, r_pe h, r_fl h, r_pa h, r_di h, r_fr h, r_to h, r_by h, e_callV h.k, r_sz h hk, li_0, li_1, li_2, li_3, li_4, li_5, li_6, li_7, li_8, li_9, li_10, li_11, li_12, li_13, li_14, li_15, li_16, li_17, li_20, li_24, li_25, li_29, li_31, li_32, li_33, li_37, li_40, li_41, li_48, li_49, li_50, li_56, li_57, li_59, li_60, li_61, li_62, li_63, li_70, li_73, li_85, li_97, li_98, li_99, li_100, li_101, li_102, li_103, li_104, li_105, li_107, li_108, li_109, li_110, li_111, li_112, li_114, li_115, li_116, li_117, li_118, li_119, li_121, li_122, li_140, li_193, li_200, li_240, li_255, li_289, li_290, li_300, li_302, li_314, li_326, li_860, li_880, li_900, li_999, li_1024, li_2801, li_3440, li_3441, li_3442, li_3443, li_3444, li_3447, li_3448, li_3449, li_3457, li_3465, li_3469, li_3473, li_3477, li_3501, li_3513, li_3525, li_3537, li_3633, li_3730, li_3742, li_3754, li_3766, li_4095, li_4096, li_4300, li_9011, li_9999, li_10000, li_36864, li_65536, li_1000000, ll_0, ll_1, ll_100, ll_11, ll_16, ll_20, ll_3, ll_32, ll_50, ll_8, ll_96, ll_99, ll_9999, ne_m1, e_if, e_ret, e_rz0, e_rz1, e_rzb, e_call, bCallX_eq, nI_add, nI_mul, nI_succ1, le_i, lt_i, eq_i, m1_i, m1_le, m1_lt, m1_ge, m1_eq, ite_true, ite_false, if_true, if_false, hk', hx]
  · intro m k hk hx
    have hk' : ¬ 12 ≤ k := by omega
    have i1 := (h.ri k).1
    have hx : rT (wRo W k) = true := by simpa using hx
    have hx := rT_p hx
    have hx' : ¬ rN (wRo W k) ≤ 0 := by omega
    show fX9_freeRope_2 (m + 1) 113 _ s = _
    rw [qX9_freeRope_2]
    simp (disch := omega) only [r_c h, r_wa h, r_bo h, r_si h, r_ra h, r_rb h, r_yr h, r_dr h, r_pe h, r_fl h, r_pa h, r_di h, r_fr h, r_to h, r_by h, e_callV h.k, r_sz h hk, li_0, li_1, li_2, li_3, li_4, li_5, li_6, li_7, li_8, li_9, li_10, li_11, li_12, li_13, li_14, li_15, li_16, li_17, li_20, li_24, li_25, li_29, li_31, li_32, li_33, li_37, li_40, li_41, li_48, li_49, li_50, li_56, li_57, li_59, li_60, li_61, li_62, li_63, li_70, li_73, li_85, li_97, li_98, li_99, li_100, li_101, li_102, li_103, li_104, li_105, li_107, li_108, li_109, li_110, li_111, li_112, li_114, li_115, li_116, li_117, li_118, li_119, li_121, li_122, li_140, li_193, li_200, li_240, li_255, li_289, li_290, li_300, li_302, li_314, li_326, li_860, li_880, li_900, li_999, li_1024, li_2801, li_3440, li_3441, li_3442, li_3443, li_3444, li_3447, li_3448, li_3449, li_3457, li_3465, li_3469, li_3473, li_3477, li_3501, li_3513, li_3525, li_3537, li_3633, li_3730, li_3742, li_3754, li_3766, li_4095, li_4096, li_4300, li_9011, li_9999, li_10000, li_36864, li_65536, li_1000000, ll_0, ll_1, ll_100, ll_11, ll_16, ll_20, ll_3, ll_32, ll_50, ll_8, ll_96, ll_99, ll_9999, ne_m1, e_if, e_ret, e_rz0, e_rz1, e_rzb, e_call, bCallX_eq, nI_add, nI_mul, nI_succ1, le_i, lt_i, eq_i, m1_i, m1_le, m1_lt, m1_ge, m1_eq, ite_true, ite_false, if_true, if_false, hk', hx']
  · intro m
    show fX9_freeRope_2 (m + 1) 113 _ s = _
    rw [qX9_freeRope_2]
    simp (disch := omega) only [li_0, li_1, li_2, li_3, li_4, li_5, li_6, li_7, li_8, li_9, li_10, li_11, li_12, li_13, li_14, li_15, li_16, li_17, li_20, li_24, li_25, li_29, li_31, li_32, li_33, li_37, li_40, li_41, li_48, li_49, li_50, li_56, li_57, li_59, li_60, li_61, li_62, li_63, li_70, li_73, li_85, li_97, li_98, li_99, li_100, li_101, li_102, li_103, li_104, li_105, li_107, li_108, li_109, li_110, li_111, li_112, li_114, li_115, li_116, li_117, li_118, li_119, li_121, li_122, li_140, li_193, li_200, li_240, li_255, li_289, li_290, li_300, li_302, li_314, li_326, li_860, li_880, li_900, li_999, li_1024, li_2801, li_3440, li_3441, li_3442, li_3443, li_3444, li_3447, li_3448, li_3449, li_3457, li_3465, li_3469, li_3473, li_3477, li_3501, li_3513, li_3525, li_3537, li_3633, li_3730, li_3742, li_3754, li_3766, li_4095, li_4096, li_4300, li_9011, li_9999, li_10000, li_36864, li_65536, li_1000000, ll_0, ll_1, ll_100, ll_11, ll_16, ll_20, ll_3, ll_32, ll_50, ll_8, ll_96, ll_99, ll_9999, ne_m1, e_if, e_ret, e_rz0, e_rz1, e_rzb, e_call, bCallX_eq, nI_add, nI_mul, nI_succ1, le_i, lt_i, eq_i, m1_i, m1_le, m1_lt, m1_ge, m1_eq, ite_true, ite_false, if_true, if_false, Nat.le_refl]
/-- the places that a split writes -/
def pfA (r q i : Nat) : Prop := i = 37 + q ∨ i = 49 + q ∨ i = 61 + q ∨ i = 73 + q ∨ (97 + 8 * q ≤ i ∧ i < 105 + 8 * q) ∨ (193 + 8 * q ≤ i ∧ i < 201 + 8 * q) ∨ (97 + 8 * r ≤ i ∧ i < 105 + 8 * r)
def PfI (s : mS) (r q κ : Nat) (ρ : rR) (k : Nat) (u : mS) : Prop := FI at118 s u ∧ (∀ i, ¬ pfA r q i → sI u 118 i = sI s 118 i) ∧ sI u 118 (37 + q) = oI (rO ρ) ∧ sI u 118 (49 + q) = mI ∧ sI u 118 (61 + q) = nI 0 ∧ sI u 118 (73 + q) = nI (rS ρ) ∧ (∀ j, k ≤ j → j < 8 → sI u 118 (97 + 8 * r + j) = sI s 118 (97 + 8 * r + j)) ∧ (∀ j, j < (sK κ (rP ρ) k).length → sI u 118 (97 + 8 * r + j) = nI (tk κ (rP ρ) j)) ∧ (∀ j, j < (sR κ (rP ρ) k).length → sI u 118 (97 + 8 * q + j) = nI (pY (sR κ (rP ρ) k) j) ∧ sI u 118 (193 + 8 * q + j) = nI (pA (sR κ (rP ρ) k) j))
theorem x_partFrom {s : mS} {W : wW} {r q κ : Nat} (h : RX s W) (hr : r < 12) (h0 : 0 < rN (wRo W r)) (hq : q = wFr W) (hq12 : q < 12) (hκ : κ < 2147483648) : ∃ t, fX9_partFrom 113 (nI r) (nI κ) s = some (nI q, t) ∧ FI at118 s t ∧ (∀ i, i < 37 ∨ 289 ≤ i → sI t 118 i = sI s 118 i) ∧ (∀ p, p < 12 → RoR (sI t 118) p (up (up (wRo W) r (rO (wRo W r), rB (wRo W r), rH (wRo W r), rS (wRo W r), sK κ (rP (wRo W r)) (rN (wRo W r)))) q (rO (wRo W r), none, false, rS (wRo W r), sR κ (rP (wRo W r)) (rN (wRo W r))) p)) := by
  have hT := h.1
  have hqr : q ≠ r := by
    intro e
    have h1 := wFr_gone (W := W) (by omega)
    rw [← hq, e] at h1
    unfold rT at h1
    simp only [decide_eq_false_iff_not] at h1
    exact h1 h0
  have hI := h.ri r
  have i1 := hI.1
  have hp : ∀ j, j < (rP (wRo W r)).length → 1 ≤ pY (rP (wRo W r)) j := fun j hj => (hI.2.1 j hj).1
  have hb := rL_b hI
  have hro := (h.ro hr).2 h0
  obtain ⟨d0, d1, d2, d3, d6⟩ := hro
  have dN := (h.ro hr).1
  unfold fX9_partFrom
  rw [e_callV h.k, x_call (x_freeRope h), ← hq]
  have key := loop_s (fun n k => fX9_partFrom_73 n 113 (nI r) (nI q) (nI (κ - qS (rP (wRo W r)) k)) (nI (sK κ (rP (wRo W r)) k).length) (nI (sR κ (rP (wRo W r)) k).length) (nI k)) (PfI s r q κ (wRo W r)) (rN (wRo W r)) (fun z => z.1 = nI q ∧ FI at118 s z.2 ∧ (∀ i, i < 37 ∨ 289 ≤ i → sI z.2 118 i = sI s 118 i) ∧ (∀ p, p < 12 → RoR (sI z.2 118) p (up (up (wRo W) r (rO (wRo W r), rB (wRo W r), rH (wRo W r), rS (wRo W r), sK κ (rP (wRo W r)) (rN (wRo W r)))) q (rO (wRo W r), none, false, rS (wRo W r), sR κ (rP (wRo W r)) (rN (wRo W r))) p))) ?_ ?_ fu 0 (wI (wI (wI (wI s 118 (37 + q) (oI (rO (wRo W r)))) 118 (49 + q) mI) 118 (61 + q) (nI 0)) 118 (73 + q) (nI (rS (wRo W r)))) (by omega) (by unfold fu; omega) ?_
  · obtain ⟨⟨z, t⟩, h3, h4, h5⟩ := key
    have h4 : z = nI q := h4
    subst h4
    refine ⟨t, ?_, h5⟩
    simp (disch := first | omega | ((repeat (apply RT.w)); assumption)) only [rt_c, rt_n, rt_w, li_0, li_1, li_2, li_3, li_4, li_5, li_6, li_7, li_8, li_9, li_10, li_11, li_12, li_13, li_14, li_15, li_16, li_17, li_20, li_24, li_25, li_29, li_31, li_32, li_33, li_37, li_40, li_41, li_48, li_49, li_50, li_56, li_57, li_59, li_60, li_61, li_62, li_63, li_70, li_73, li_85, li_97, li_98, li_99, li_100, li_101, li_102, li_103, li_104, li_105, li_107, li_108, li_109, li_110, li_111, li_112, li_114, li_115, li_116, li_117, li_118, li_119, li_121, li_122, li_140, li_193, li_200, li_240, li_255, li_289, li_290, li_300, li_302, li_314, li_326, li_860, li_880, li_900, li_999, li_1024, li_2801, li_3440, li_3441, li_3442, li_3443, li_3444, li_3447, li_3448, li_3449, li_3457, li_3465, li_3469, li_3473, li_3477, li_3501, li_3513, li_3525, li_3537, li_3633, li_3730, li_3742, li_3754, li_3766, li_4095, li_4096, li_4300, li_9011, li_9999, li_10000, li_36864, li_65536, li_1000000, ll_0, ll_1, ll_100, ll_11, ll_16, ll_20, ll_3, ll_32, ll_50, ll_8, ll_96, ll_99, ll_9999, ne_m1, e_if, e_ret, e_rz0, e_rz1, e_rzb, e_call, bCallX_eq, nI_add, nI_mul, nI_succ1, le_i, lt_i, eq_i, m1_i, m1_le, m1_lt, m1_ge, m1_eq, ite_true, ite_false, if_true, if_false, d0, d3, sI_wI_ne]
    exact h3
  · rintro n k u hk ⟨hF, ho, p0, p1, p2, p3, hk1, hk2, hk3⟩
    have hk : k < rN (wRo W r) := hk
    have hk' : ¬ rN (wRo W r) ≤ k := by omega
    have hTu := hT.mv hF.2
    have iy := hI.2.1 k hk
    have iq := qS_b hI k (by omega)
    have iqs := qS_s (rP (wRo W r)) k
    have lk := sK_le κ (rP (wRo W r)) k
    have lr := sR_le κ (rP (wRo W r)) k
    have eY : sI u 118 (97 + 8 * r + k) = nI (pY (rP (wRo W r)) k) := by rw [hk1 k (Nat.le_refl _) (by omega)]; exact (d6 k hk).1
    have eA : sI u 118 (193 + 8 * r + k) = nI (pA (rP (wRo W r)) k) := by rw [ho _ (by unfold pfA; omega)]; exact (d6 k hk).2
    have eN : sI u 118 (85 + r) = nI (rN (wRo W r)) := by rw [ho _ (by unfold pfA; omega)]; exact dN
    have et : min (κ - qS (rP (wRo W r)) k) (pY (rP (wRo W r)) k) = tk κ (rP (wRo W r)) k := by unfold tk; omega
    have el : κ - qS (rP (wRo W r)) k - tk κ (rP (wRo W r)) k = κ - qS (rP (wRo W r)) (k + 1) := by unfold tk; omega
    have etk : tk κ (rP (wRo W r)) k ≤ pY (rP (wRo W r)) k ∧ tk κ (rP (wRo W r)) k ≤ κ - qS (rP (wRo W r)) k := by unfold tk; omega
    have hadd : ∃ u1, FI at118 u u1 ∧ (∀ i, ¬ ((97 + 8 * q ≤ i ∧ i < 105 + 8 * q) ∨ (193 + 8 * q ≤ i ∧ i < 201 + 8 * q)) → sI u1 118 i = sI u 118 i) ∧ (∀ j, j < (sR κ (rP (wRo W r)) (k + 1)).length → sI u1 118 (97 + 8 * q + j) = nI (pY (sR κ (rP (wRo W r)) (k + 1)) j) ∧ sI u1 118 (193 + 8 * q + j) = nI (pA (sR κ (rP (wRo W r)) (k + 1)) j)) ∧ fX9_partFrom_73 (n + 1) 113 (nI r) (nI q) (nI (κ - qS (rP (wRo W r)) k)) (nI (sK κ (rP (wRo W r)) k).length) (nI (sR κ (rP (wRo W r)) k).length) (nI k) u = fX9_partFrom_182 (fX9_partFrom_73 n) 113 (nI r) (nI q) (nI (κ - qS (rP (wRo W r)) (k + 1))) (nI (sK κ (rP (wRo W r)) k).length) (nI (sR κ (rP (wRo W r)) (k + 1)).length) (nI k) (nI (tk κ (rP (wRo W r)) k)) u1 := by
      rw [qX9_partFrom_73]
      by_cases hc : tk κ (rP (wRo W r)) k < pY (rP (wRo W r)) k
      · have eR : sR κ (rP (wRo W r)) (k + 1) = sR κ (rP (wRo W r)) k ++ [(pY (rP (wRo W r)) k - tk κ (rP (wRo W r)) k, pA (rP (wRo W r)) k)] := by
          show (if _ then _ else _) = _
          rw [if_pos hc]
        refine ⟨wI (wI u 118 (97 + 8 * q + (sR κ (rP (wRo W r)) k).length) (nI (pY (rP (wRo W r)) k - tk κ (rP (wRo W r)) k))) 118 (193 + 8 * q + (sR κ (rP (wRo W r)) k).length) (nI (pA (rP (wRo W r)) k)), (FI.w (A := at118) _ _ rfl).tr (FI.w (A := at118) _ _ rfl), fun i hi => ?_, fun j hj => ?_, ?_⟩
        · rw [sI_wI_ne (Or.inr (by omega)), sI_wI_ne (Or.inr (by omega))]
        · rw [eR, snoc_len] at hj
          rw [eR]
          by_cases hj2 : j < (sR κ (rP (wRo W r)) k).length
          · rw [pY_app hj2, pA_app hj2]
            rw [sI_wI_ne (Or.inr (by omega)), sI_wI_ne (Or.inr (by omega)), sI_wI_ne (Or.inr (by omega)), sI_wI_ne (Or.inr (by omega))]
            exact hk3 j hj2
          · have e : j = (sR κ (rP (wRo W r)) k).length := by omega
            subst e
            rw [pY_app2 (Nat.le_refl _), pA_app2 (Nat.le_refl _), Nat.sub_self, sI_wI_ne (Or.inr (by omega)), sI_wI_eq, sI_wI_eq]
            exact ⟨rfl, rfl⟩
        · simp (disch := first | omega | ((repeat (apply RT.w)); assumption)) only [rt_c, rt_n, rt_w, li_0, li_1, li_2, li_3, li_4, li_5, li_6, li_7, li_8, li_9, li_10, li_11, li_12, li_13, li_14, li_15, li_16, li_17, li_20, li_24, li_25, li_29, li_31, li_32, li_33, li_37, li_40, li_41, li_48, li_49, li_50, li_56, li_57, li_59, li_60, li_61, li_62, li_63, li_70, li_73, li_85, li_97, li_98, li_99, li_100, li_101, li_102, li_103, li_104, li_105, li_107, li_108, li_109, li_110, li_111, li_112, li_114, li_115, li_116, li_117, li_118, li_119, li_121, li_122, li_140, li_193, li_200, li_240, li_255, li_289, li_290, li_300, li_302, li_314, li_326, li_860, li_880, li_900, li_999, li_1024, li_2801, li_3440, li_3441, li_3442, li_3443, li_3444, li_3447, li_3448, li_3449, li_3457, li_3465, li_3469, li_3473, li_3477, li_3501, li_3513, li_3525, li_3537, li_3633, li_3730, li_3742, li_3754, li_3766, li_4095, li_4096, li_4300, li_9011, li_9999, li_10000, li_36864, li_65536, li_1000000, ll_0, ll_1, ll_100, ll_11, ll_16, ll_20, ll_3, ll_32, ll_50, ll_8, ll_96, ll_99, ll_9999, ne_m1, e_if, e_ret, e_rz0, e_rz1, e_rzb, e_call, bCallX_eq, nI_add, nI_mul, nI_succ1, le_i, lt_i, eq_i, m1_i, m1_le, m1_lt, m1_ge, m1_eq, ite_true, ite_false, if_true, if_false, eN, eY, eA, hk', jMin_i, et, sub_i, el, eR, snoc_len, sI_wI_ne]
          rw [if_neg (by omega)]
      · have eR : sR κ (rP (wRo W r)) (k + 1) = sR κ (rP (wRo W r)) k := by
          show (if _ then _ else _) = _
          rw [if_neg hc]
        refine ⟨u, FI.rf, fun _ _ => rfl, fun j hj => ?_, ?_⟩
        · rw [eR] at hj ⊢; exact hk3 j hj
        · simp (disch := first | omega | ((repeat (apply RT.w)); assumption)) only [rt_c, rt_n, rt_w, li_0, li_1, li_2, li_3, li_4, li_5, li_6, li_7, li_8, li_9, li_10, li_11, li_12, li_13, li_14, li_15, li_16, li_17, li_20, li_24, li_25, li_29, li_31, li_32, li_33, li_37, li_40, li_41, li_48, li_49, li_50, li_56, li_57, li_59, li_60, li_61, li_62, li_63, li_70, li_73, li_85, li_97, li_98, li_99, li_100, li_101, li_102, li_103, li_104, li_105, li_107, li_108, li_109, li_110, li_111, li_112, li_114, li_115, li_116, li_117, li_118, li_119, li_121, li_122, li_140, li_193, li_200, li_240, li_255, li_289, li_290, li_300, li_302, li_314, li_326, li_860, li_880, li_900, li_999, li_1024, li_2801, li_3440, li_3441, li_3442, li_3443, li_3444, li_3447, li_3448, li_3449, li_3457, li_3465, li_3469, li_3473, li_3477, li_3501, li_3513, li_3525, li_3537, li_3633, li_3730, li_3742, li_3754, li_3766, li_4095, li_4096, li_4300, li_9011, li_9999, li_10000, li_36864, li_65536, li_1000000, ll_0, ll_1, ll_100, ll_11, ll_16, ll_20, ll_3, ll_32, ll_50, ll_8, ll_96, ll_99, ll_9999, ne_m1, e_if, e_ret, e_rz0, e_rz1, e_rzb, e_call, bCallX_eq, nI_add, nI_mul, nI_succ1, le_i, lt_i, eq_i, m1_i, m1_le, m1_lt, m1_ge, m1_eq, ite_true, ite_false, if_true, if_false, eN, eY, hk', jMin_i, et, sub_i, el, eR]
          rw [if_pos (by omega)]
    obtain ⟨u1, g1, g2, g3, g4⟩ := hadd
    have hTu1 := hTu.mv g1.2
    have ho1 : ∀ i, ¬ pfA r q i → sI u1 118 i = sI s 118 i := fun i hi => by
      rw [g2 i (by unfold pfA at hi; omega)]; exact ho i hi
    have hr1 : ∀ j, j < 8 → sI u1 118 (97 + 8 * r + j) = sI u 118 (97 + 8 * r + j) := fun j hj => g2 _ (by omega)
    by_cases hc : 0 < tk κ (rP (wRo W r)) k
    · have e9 : (sK κ (rP (wRo W r)) k).length = k := sK_full hp k (Nat.le_of_lt hk) (by
        have := qS_mo (rP (wRo W r)) (j := k - 1) k (by omega)
        unfold tk at hc
        right; omega)
      have eK : sK κ (rP (wRo W r)) (k + 1) = sK κ (rP (wRo W r)) k ++ [(tk κ (rP (wRo W r)) k, pA (rP (wRo W r)) k)] := by
        show (if _ then _ else _) = _
        rw [if_pos hc]
      refine ⟨wI u1 118 (97 + 8 * r + k) (nI (tk κ (rP (wRo W r)) k)), ⟨(hF.tr g1).tr (FI.w (A := at118) _ _ rfl), fun i hi => ?_, ?_, ?_, ?_, ?_, fun j hj hj8 => ?_, fun j hj => ?_, fun j hj => ?_⟩, ?_⟩
      · rw [sI_wI_ne (Or.inr (by unfold pfA at hi; omega))]; exact ho1 i hi
      · rw [sI_wI_ne (Or.inr (by omega)), g2 _ (by omega)]; exact p0
      · rw [sI_wI_ne (Or.inr (by omega)), g2 _ (by omega)]; exact p1
      · rw [sI_wI_ne (Or.inr (by omega)), g2 _ (by omega)]; exact p2
      · rw [sI_wI_ne (Or.inr (by omega)), g2 _ (by omega)]; exact p3
      · rw [sI_wI_ne (Or.inr (by omega)), hr1 j hj8]; exact hk1 j (by omega) hj8
      · rw [eK, snoc_len] at hj
        by_cases hj2 : j = k
        · subst hj2; rw [sI_wI_eq]
        · rw [sI_wI_ne (Or.inr (by omega)), hr1 j (by omega)]; exact hk2 j (by omega)
      · have l8 := sR_le κ (rP (wRo W r)) (k + 1)
        rw [sI_wI_ne (Or.inr (by omega)), sI_wI_ne (Or.inr (by omega))]
        exact g3 j hj
      · refine g4.trans ?_
        unfold fX9_partFrom_182
        simp (disch := first | omega | ((repeat (apply RT.w)); assumption)) only [rt_c, rt_n, rt_w, li_0, li_1, li_2, li_3, li_4, li_5, li_6, li_7, li_8, li_9, li_10, li_11, li_12, li_13, li_14, li_15, li_16, li_17, li_20, li_24, li_25, li_29, li_31, li_32, li_33, li_37, li_40, li_41, li_48, li_49, li_50, li_56, li_57, li_59, li_60, li_61, li_62, li_63, li_70, li_73, li_85, li_97, li_98, li_99, li_100, li_101, li_102, li_103, li_104, li_105, li_107, li_108, li_109, li_110, li_111, li_112, li_114, li_115, li_116, li_117, li_118, li_119, li_121, li_122, li_140, li_193, li_200, li_240, li_255, li_289, li_290, li_300, li_302, li_314, li_326, li_860, li_880, li_900, li_999, li_1024, li_2801, li_3440, li_3441, li_3442, li_3443, li_3444, li_3447, li_3448, li_3449, li_3457, li_3465, li_3469, li_3473, li_3477, li_3501, li_3513, li_3525, li_3537, li_3633, li_3730, li_3742, li_3754, li_3766, li_4095, li_4096, li_4300, li_9011, li_9999, li_10000, li_36864, li_65536, li_1000000, ll_0, ll_1, ll_100, ll_11, ll_16, ll_20, ll_3, ll_32, ll_50, ll_8, ll_96, ll_99, ll_9999, ne_m1, e_if, e_ret, e_rz0, e_rz1, e_rzb, e_call, bCallX_eq, nI_add, nI_mul, nI_succ1, le_i, lt_i, eq_i, m1_i, m1_le, m1_lt, m1_ge, m1_eq, ite_true, ite_false, if_true, if_false, eK, snoc_len]
        rw [if_neg (by omega)]
    · have eK : sK κ (rP (wRo W r)) (k + 1) = sK κ (rP (wRo W r)) k := by
        show (if _ then _ else _) = _
        rw [if_neg hc]
      refine ⟨u1, ⟨hF.tr g1, ho1, ?_, ?_, ?_, ?_, fun j hj hj8 => ?_, fun j hj => ?_, g3⟩, ?_⟩
      · rw [g2 _ (by omega)]; exact p0
      · rw [g2 _ (by omega)]; exact p1
      · rw [g2 _ (by omega)]; exact p2
      · rw [g2 _ (by omega)]; exact p3
      · rw [hr1 j hj8]; exact hk1 j (by omega) hj8
      · rw [eK] at hj
        rw [hr1 j (by omega)]; exact hk2 j hj
      · refine g4.trans ?_
        unfold fX9_partFrom_182
        simp (disch := first | omega | ((repeat (apply RT.w)); assumption)) only [li_0, li_1, li_2, li_3, li_4, li_5, li_6, li_7, li_8, li_9, li_10, li_11, li_12, li_13, li_14, li_15, li_16, li_17, li_20, li_24, li_25, li_29, li_31, li_32, li_33, li_37, li_40, li_41, li_48, li_49, li_50, li_56, li_57, li_59, li_60, li_61, li_62, li_63, li_70, li_73, li_85, li_97, li_98, li_99, li_100, li_101, li_102, li_103, li_104, li_105, li_107, li_108, li_109, li_110, li_111, li_112, li_114, li_115, li_116, li_117, li_118, li_119, li_121, li_122, li_140, li_193, li_200, li_240, li_255, li_289, li_290, li_300, li_302, li_314, li_326, li_860, li_880, li_900, li_999, li_1024, li_2801, li_3440, li_3441, li_3442, li_3443, li_3444, li_3447, li_3448, li_3449, li_3457, li_3465, li_3469, li_3473, li_3477, li_3501, li_3513, li_3525, li_3537, li_3633, li_3730, li_3742, li_3754, li_3766, li_4095, li_4096, li_4300, li_9011, li_9999, li_10000, li_36864, li_65536, li_1000000, ll_0, ll_1, ll_100, ll_11, ll_16, ll_20, ll_3, ll_32, ll_50, ll_8, ll_96, ll_99, ll_9999, ne_m1, e_if, e_ret, e_rz0, e_rz1, e_rzb, e_call, bCallX_eq, nI_add, nI_mul, nI_succ1, le_i, lt_i, eq_i, m1_i, m1_le, m1_lt, m1_ge, m1_eq, ite_true, ite_false, if_true, if_false, eK]
        rw [if_pos (by omega)]
  · rintro n u ⟨hF, ho, p0, p1, p2, p3, hk1, hk2, hk3⟩
    have hTu := hT.mv hF.2
    have lk := sK_le κ (rP (wRo W r)) (rN (wRo W r))
    have lr := sR_le κ (rP (wRo W r)) (rN (wRo W r))
    have eN : sI u 118 (85 + r) = nI (rN (wRo W r)) := by rw [ho _ (by unfold pfA; omega)]; exact dN
    refine ⟨(nI q, wI (wI u 118 (85 + r) (nI (sK κ (rP (wRo W r)) (rN (wRo W r))).length)) 118 (85 + q) (nI (sR κ (rP (wRo W r)) (rN (wRo W r))).length)), ?_, rfl, ?_, fun i hi => ?_, fun p hp12 => ?_⟩
    · show fX9_partFrom_73 (n + 1) 113 _ _ _ _ _ _ u = _
      rw [qX9_partFrom_73]
      unfold fX9_partFrom_213
      simp (disch := first | omega | ((repeat (apply RT.w)); assumption)) only [rt_c, rt_n, rt_w, li_0, li_1, li_2, li_3, li_4, li_5, li_6, li_7, li_8, li_9, li_10, li_11, li_12, li_13, li_14, li_15, li_16, li_17, li_20, li_24, li_25, li_29, li_31, li_32, li_33, li_37, li_40, li_41, li_48, li_49, li_50, li_56, li_57, li_59, li_60, li_61, li_62, li_63, li_70, li_73, li_85, li_97, li_98, li_99, li_100, li_101, li_102, li_103, li_104, li_105, li_107, li_108, li_109, li_110, li_111, li_112, li_114, li_115, li_116, li_117, li_118, li_119, li_121, li_122, li_140, li_193, li_200, li_240, li_255, li_289, li_290, li_300, li_302, li_314, li_326, li_860, li_880, li_900, li_999, li_1024, li_2801, li_3440, li_3441, li_3442, li_3443, li_3444, li_3447, li_3448, li_3449, li_3457, li_3465, li_3469, li_3473, li_3477, li_3501, li_3513, li_3525, li_3537, li_3633, li_3730, li_3742, li_3754, li_3766, li_4095, li_4096, li_4300, li_9011, li_9999, li_10000, li_36864, li_65536, li_1000000, ll_0, ll_1, ll_100, ll_11, ll_16, ll_20, ll_3, ll_32, ll_50, ll_8, ll_96, ll_99, ll_9999, ne_m1, e_if, e_ret, e_rz0, e_rz1, e_rzb, e_call, bCallX_eq, nI_add, nI_mul, nI_succ1, le_i, lt_i, eq_i, m1_i, m1_le, m1_lt, m1_ge, m1_eq, ite_true, ite_false, if_true, if_false, eN, Nat.le_refl]
    · exact (hF.tr (FI.w (A := at118) _ _ rfl)).tr (FI.w (A := at118) _ _ rfl)
    · rw [sI_wI_ne (Or.inr (by omega)), sI_wI_ne (Or.inr (by omega))]
      exact ho i (by unfold pfA; omega)
    · by_cases hpq : p = q
      · subst hpq
        rw [up_s]
        refine ⟨by rw [sI_wI_eq], fun _ => ?_⟩
        refine ⟨?_, ?_, ?_, ?_, fun j hj => ?_⟩
        · rw [sI_wI_ne (Or.inr (by omega)), sI_wI_ne (Or.inr (by omega))]; exact p0
        · rw [sI_wI_ne (Or.inr (by omega)), sI_wI_ne (Or.inr (by omega))]; exact p1
        · rw [sI_wI_ne (Or.inr (by omega)), sI_wI_ne (Or.inr (by omega))]; exact p2
        · rw [sI_wI_ne (Or.inr (by omega)), sI_wI_ne (Or.inr (by omega))]; exact p3
        · have hj : j < (sR κ (rP (wRo W r)) (rN (wRo W r))).length := hj
          rw [sI_wI_ne (Or.inr (by omega)), sI_wI_ne (Or.inr (by omega)), sI_wI_ne (Or.inr (by omega)), sI_wI_ne (Or.inr (by omega))]
          exact hk3 j hj
      · rw [up_n _ _ hpq]
        by_cases hpr : p = r
        · subst hpr
          rw [up_s]
          refine ⟨by rw [sI_wI_ne (Or.inr (by omega)), sI_wI_eq], fun _ => ?_⟩
          refine ⟨?_, ?_, ?_, ?_, fun j hj => ?_⟩
          · rw [sI_wI_ne (Or.inr (by omega)), sI_wI_ne (Or.inr (by omega)), ho _ (by unfold pfA; omega)]; exact d0
          · rw [sI_wI_ne (Or.inr (by omega)), sI_wI_ne (Or.inr (by omega)), ho _ (by unfold pfA; omega)]; exact d1
          · rw [sI_wI_ne (Or.inr (by omega)), sI_wI_ne (Or.inr (by omega)), ho _ (by unfold pfA; omega)]; exact d2
          · rw [sI_wI_ne (Or.inr (by omega)), sI_wI_ne (Or.inr (by omega)), ho _ (by unfold pfA; omega)]; exact d3
          · have hj : j < (sK κ (rP (wRo W p)) (rN (wRo W p))).length := hj
            obtain ⟨s1, s2⟩ := sK_get hp (rN (wRo W p)) (Nat.le_refl _) j hj
            show _ = nI (pY (sK κ (rP (wRo W p)) (rN (wRo W p))) j) ∧ _ = nI (pA (sK κ (rP (wRo W p)) (rN (wRo W p))) j)
            rw [s1, s2, sI_wI_ne (Or.inr (by omega)), sI_wI_ne (Or.inr (by omega)), sI_wI_ne (Or.inr (by omega)), sI_wI_ne (Or.inr (by omega)), hk2 j hj, ho _ (by unfold pfA; omega)]
            exact ⟨rfl, (d6 j (by omega)).2⟩
        · rw [up_n _ _ hpr]
          refine (h.ro hp12).mv (h.ri p).1 fun i hi => ?_
          rw [sI_wI_ne (Or.inr (by omega)), sI_wI_ne (Or.inr (by omega))]
          exact ho i (by unfold pfA; omega)
  · refine ⟨(((FI.w (A := at118) _ _ rfl).tr (FI.w (A := at118) _ _ rfl)).tr (FI.w (A := at118) _ _ rfl)).tr (FI.w (A := at118) _ _ rfl), fun i hi => ?_, ?_, ?_, ?_, ?_, fun j _ hj8 => ?_, fun j hj => absurd hj (by show ¬ j < 0; omega), fun j hj => absurd hj (by show ¬ j < 0; omega)⟩
    · unfold pfA at hi
      rw [sI_wI_ne (Or.inr (by omega)), sI_wI_ne (Or.inr (by omega)), sI_wI_ne (Or.inr (by omega)), sI_wI_ne (Or.inr (by omega))]
    · rw [sI_wI_ne (Or.inr (by omega)), sI_wI_ne (Or.inr (by omega)), sI_wI_ne (Or.inr (by omega)), sI_wI_eq]
    · rw [sI_wI_ne (Or.inr (by omega)), sI_wI_ne (Or.inr (by omega)), sI_wI_eq]
    · rw [sI_wI_ne (Or.inr (by omega)), sI_wI_eq]
    · rw [sI_wI_eq]
    · rw [sI_wI_ne (Or.inr (by omega)), sI_wI_ne (Or.inr (by omega)), sI_wI_ne (Or.inr (by omega)), sI_wI_ne (Or.inr (by omega))]

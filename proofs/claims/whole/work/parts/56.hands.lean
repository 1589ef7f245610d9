/-! CALLS OF THE HANDS -/
theorem CN.mv {s t : mS} {n : dN} (h : CN s n) (h1 : sI t 1 = sI s 1) (h2 : sL t 1 = sL s 1) : CN t n := by
  unfold CN
  rw [h1, h2]
  exact h
theorem RN.mv {s t : mS} {n : dN} (h : RN s n) (h1 : sI t 113 = sI s 113) (h2 : sL t 113 = sL s 113) : RN t n := by
  unfold RN
  rw [h1, h2]
  exact h
def dWs (D : dD) (k : Nat) (W : wW) : dD := ((k, D.1.2), D.2.1, D.2.2.1, W, D.2.2.2.2)
abbrev wA1 : Nat → Prop := fun b => b = 1 ∨ wA 4 b
theorem CP.wr {s s1 : mS} {D : dD} {W : wW} (h : CP s D) (hD : DOk D) (k : Nat) (hF : FI (wA 4) s s1) (hW : CW s1 4 W) : CP (wI s1 1 11 (nI k)) (dWs D k W) := by
  have hF1 : FI wA1 s (wI s1 1 11 (nI k)) := (hF.mo fun _ hb => Or.inr hb).tr (FI.w _ _ (Or.inl rfl))
  refine h.upd (k, D.1.2) W (A := wA1) hF1.fr (fun b hb => ?_) (fun b j _ _ => by rw [hF1.P]) (by rw [hF1.P]) ((h.2.1.mv (hF.1 1 ?_) (by rw [hF.L])).st k) rfl hD.2.2.1 rfl hW.w1 (h.2.2.2.2.2.1.mv hF1.2)
  · rcases hb with hb | hb
    · exact Or.inl hb
    · exact Or.inr (Or.inl ⟨hb.1, by have := hb.2; omega⟩)
  · rintro ⟨h1, _⟩
    omega
theorem FI.c1 {s s1 : mS} (hF : FI (wA 4) s s1) (k : Nat) : FC s (wI s1 1 11 (nI k)) := by
  have hF1 : FI wA1 s (wI s1 1 11 (nI k)) := (hF.mo fun _ hb => Or.inr hb).tr (FI.w _ _ (Or.inl rfl))
  refine hF1.fr.c fun b hb hr => ?_
  have h1 : 113 ≤ b := hr.1
  rcases hb with hb | hb
  · omega
  · have := hb.2; omega
theorem RP.wr {s s1 : mS} {D : dD} {W : wW} (h : RP s D) (hD : DOk D) (hF : FM s s1) (hW : RX s1 W) : RP s1 (dWs D D.1.1 W) := by
  have g : ∀ b, b ≠ 118 → b ≠ 121 → sI s1 b = sI s b := fun b h1 h2 => hF.1.1 b (by show ¬ (_ ∨ _); omega)
  refine h.upd (D.1.1, D.1.2) W (h.2.1.mv (g 113 (by decide) (by decide)) (by rw [hF.1.L])) rfl rfl hD.2.2.1 hW (g _ (by decide) (by decide)) (g _ (by decide) (by decide)) (g _ (by decide) (by decide)) (by rw [hF.1.L]) (fun i h1 _ => hF.2 i h1)
theorem FM.r {s s1 : mS} (hF : FM s s1) : FR rfA s s1 := (hF.1.mo (B := rfA) (by rintro b (rfl | rfl) <;> exact ⟨by decide, by decide⟩)).fr
theorem Sim.wr {α : Type} {fc fr : mM α} (h : ∀ (s t : mS) (D : dD), CP s D → RP t D → DOk D → (∃ (x : α) (k : Nat), k < 12 ∧ fc s = some (x, wI s 1 11 (nI k)) ∧ fr t = some (x, wI (q0 t) 113 0 (nI k))) ∨ ∃ (x : α) (k : Nat) (s1 t1 : mS) (W : wW), k < 12 ∧ FI (wA 4) s s1 ∧ CW s1 4 W ∧ FM (q0 t) t1 ∧ RX t1 W ∧ fc s = some (x, wI s1 1 11 (nI k)) ∧ (fr t = some (x, wI t1 113 0 (nI k)) ∨ (k = 0 ∧ fr t = some (x, t1)))) : Sim fc fr := by
  intro s t D hC hR hD
  rcases h s t D hC hR hD with ⟨x, k, hk, h1, h2⟩ | ⟨x, k, s1, t1, W, hk, hF, hW, hM, hX, h1, h2⟩
  · exact ⟨x, _, _, dSt D k, h1, h2, hC.st hD k, (hR.q0 hD).st (dSt_ok hD (by decide)) k, dSt_ok hD hk, fc1 _ _, (fr_q0 t).tr (fr113 0 _)⟩
  · have hR1 := (hR.q0 hD).wr (dSt_ok hD (by decide)) hM hX
    have hD0 : DOk (dWs D 0 W) := ⟨(by decide : 0 < 12), hD.2⟩
    rcases h2 with h2 | ⟨rfl, h2⟩
    · exact ⟨x, _, _, dWs D k W, h1, h2, hC.wr hD k hF hW, hR1.st hD0 k, ⟨hk, hD.2⟩, hF.c1 k, ((fr_q0 t).tr hM.r).tr (fr113 0 _)⟩
    · exact ⟨x, _, _, dWs D 0 W, h1, h2, hC.wr hD 0 hF hW, hR1, hD0, hF.c1 0, (fr_q0 t).tr hM.r⟩
theorem wBw_ok2 {W : wW} (h : wOk W) {r : Nat} {b : Option Nat} (h0 : 0 < rN (wRo W r)) (hb : ∀ p, b = some p → p < wPe W) : wOk (wBw W r b) := by
  have hI := h.2.2.2.2.2.2.2.2.2.2.2.2.1 r
  have h8 := h.2.2.2.2.2.2.2.1
  refine wOk_up h (rI_mk hI.1 h0 hI.pi hI.2.2.1 hI.2.2.2.1 (fun p e => ?_)) (h.2.2.2.2.2.2.2.2.2.2.2.2.2.1 r) hb
  have := hb p e
  omega
theorem c_bor {s : mS} {a r : Nat} {W : wW} (h : CW s a W) (ha : a + 44 ≤ 124) (hr : r < 12) {o : Option Nat} (h0 : 0 < rN (wRo W r)) (ho : ∀ p, o = some p → p < wPe W) : CW (wI s (a + 8 + 3 * r) 1 (oI o)) a (wBw W r o) := by
  obtain ⟨d0, d1, d2, d3, d4, d5, d6⟩ := h.rd hr
  refine h.rope1 ha hr (FI.w _ _ (Or.inl rfl)) ⟨?_, ?_, ?_, ?_, ?_, ?_, fun k hk => ?_⟩ (wBw_ok2 h.wi h0 ho)
  · rw [sI_wI_ne (Or.inr (by omega))]; exact d0
  · rw [sI_wI_eq]; rfl
  · rw [sI_wI_ne (Or.inr (by omega))]; exact d2
  · rw [sI_wI_ne (Or.inr (by omega))]; exact d3
  · rw [sI_wI_ne (Or.inr (by omega))]; exact d4
  · rw [sI_wI_ne (Or.inr (by omega))]; exact d5
  · rw [sI_wI_ne (Or.inl (by omega)), sI_wI_ne (Or.inl (by omega))]; exact d6 k hk
theorem x_bor {s : mS} {r : Nat} {W : wW} (h : RX s W) (hr : r < 12) {o : Option Nat} (h0 : 0 < rN (wRo W r)) (ho : ∀ p, o = some p → p < wPe W) : RX (wI s 118 (49 + r) (oI o)) (wBw W r o) := by
  refine h.ropes rfl (fun i hi => sI_wI_ne (Or.inr (by omega))) (fun q hq => ?_) (wBw_ok2 h.wi h0 ho)
  by_cases hqr : q = r
  · subst hqr
    rw [up_s]
    obtain ⟨a1, a2⟩ := h.ro hq
    have i1 := (h.ri q).1
    obtain ⟨b1, b2, b3, b4, b5⟩ := a2 h0
    refine ⟨by rw [sI_wI_ne (Or.inr (by omega))]; exact a1, fun _ => ⟨by rw [sI_wI_ne (Or.inr (by omega))]; exact b1, by rw [sI_wI_eq]; rfl, by rw [sI_wI_ne (Or.inr (by omega))]; exact b3, by rw [sI_wI_ne (Or.inr (by omega))]; exact b4, fun k hk => ?_⟩⟩
    rw [sI_wI_ne (Or.inr (by omega)), sI_wI_ne (Or.inr (by omega))]
    exact b5 k hk
  · rw [up_n _ _ hqr]
    exact (h.ro hq).mv (h.ri q).1 fun i hi => sI_wI_ne (Or.inr (by omega))
theorem jMaxMin (z : Int32) : ∃ b, b ≤ 999 ∧ jMax (nI 0) (jMin (nI 999) z) = nI b := by
  rcases arg z with hz | ⟨n, hn, rfl⟩
  · refine ⟨0, by decide, ?_⟩
    have h1 : z.toInt < 0 := by
      have := Int32.lt_iff_toInt_lt.mp hz
      exact this
    have h2 : jMin (nI 999) z = z := by
      unfold jMin
      exact if_pos (Int32.lt_iff_toInt_lt.mpr (by have e : (nI 999).toInt = 999 := by decide
                                                  omega))
    rw [h2]
    unfold jMax
    exact if_neg (fun h => by
      have := Int32.lt_iff_toInt_lt.mp h
      have e : (nI 0).toInt = 0 := by decide
      omega)
  · refine ⟨min 999 n, by omega, ?_⟩
    rw [jMin_i (by decide) hn, jMax_i (by decide) (by omega), Nat.zero_max]
theorem lz_lt (x y : Int32) : (x.toInt64 < y.toInt64) = (x < y) := by
  apply propext
  rw [Int64.lt_iff_toInt_lt, Int32.lt_iff_toInt_lt, Int32.toInt_toInt64, Int32.toInt_toInt64]
/-- isIn between two numbers, any -/
theorem x_inz {a b c : Int32} {s : mS} : fX9_isIn a.toInt64 b.toInt64 c.toInt64 s = some (nI (if a < b then false else if c < a then false else true).toNat, s) := by
  unfold fX9_isIn
  simp only [li_0, li_1, li_2, li_3, li_4, li_5, li_6, li_7, li_8, li_9, li_10, li_11, li_12, li_13, li_14, li_15, li_16, li_17, li_20, li_24, li_25, li_29, li_31, li_32, li_33, li_37, li_40, li_41, li_48, li_49, li_50, li_56, li_57, li_59, li_60, li_61, li_62, li_63, li_70, li_73, li_85, li_97, li_98, li_99, li_100, li_101, li_102, li_103, li_104, li_105, li_107, li_108, li_109, li_110, li_111, li_112, li_114, li_115, li_116, li_117, li_118, li_119, li_121, li_122, li_140, li_193, li_200, li_240, li_255, li_289, li_290, li_300, li_302, li_314, li_326, li_860, li_880, li_900, li_999, li_1024, li_2801, li_3440, li_3441, li_3442, li_3443, li_3444, li_3447, li_3448, li_3449, li_3457, li_3465, li_3469, li_3473, li_3477, li_3501, li_3513, li_3525, li_3537, li_3633, li_3730, li_3742, li_3754, li_3766, li_4095, li_4096, li_4300, li_9011, li_9999, li_10000, li_36864, li_65536, li_1000000, ll_0, ll_1, ll_100, ll_11, ll_16, ll_20, ll_3, ll_32, ll_50, ll_8, ll_96, ll_99, ll_9999, ne_m1, e_if, e_ret, e_rz0, e_rz1, e_rzb, e_call, bCallX_eq, nI_add, nI_mul, nI_succ1, le_i, lt_i, eq_i, m1_i, m1_le, m1_lt, m1_ge, m1_eq, ite_true, ite_false, if_true, if_false, lg_lt0, lg_gt0, lz_lt]
  split
  · rfl
  · split <;> rfl
theorem s_seed (x : Int32) : Sim (fX8_seed 1 x) (fX9_seed 113 x) := by
  refine Sim.wr fun s t D hC hR hD => ?_
  have hS := hC.1
  have h : CW s 4 (dW D) := hC.2.2.2.2.1
  have u : RX (q0 t) (dW D) := (hR.q0 hD).1
  have hT := hR.1.1
  obtain ⟨W, hW⟩ : ∃ W, W = dW D := ⟨_, rfl⟩
  rw [← hW] at h u
  unfold fX8_seed fX9_seed fX8_isSeed
  rw [q0_b hT]
  rcases arg x with hx | ⟨n, hn, rfl⟩
  · left
    refine ⟨nI 0, 5, by decide, ?_, ?_⟩
    · simp (disch := omega) only [k_now hS, k_cv hS, k_tell hS, k_none hS, k_refuse hS, k_accept hS, k_tellIf0 hS, k_tellIf1 hS, n10, r_c u, r_wa u, r_bo u, r_si u, r_ra u, r_rb u, r_yr u, r_dr u, r_pe u, r_fl u, r_pa u, r_di u, r_fr u, r_to u, r_by u, e_callV u.k, q_refuse u.1, q_no u.1, n10, g_yr h, g_wa h, g_bo h, g_si h, g_ra h, g_rb h, g_dr h, g_pe h, g_fl h, g_apa h, g_adi h, g_aro h, g_afr h, g_ato h, g_aby h, g_afc h, g_pa h, g_di h, g_ro h, g_fr h, g_to h, g_by h, e_callV h.k, li_0, li_1, li_2, li_3, li_4, li_5, li_6, li_7, li_8, li_9, li_10, li_11, li_12, li_13, li_14, li_15, li_16, li_17, li_20, li_24, li_25, li_29, li_31, li_32, li_33, li_37, li_40, li_41, li_48, li_49, li_50, li_56, li_57, li_59, li_60, li_61, li_62, li_63, li_70, li_73, li_85, li_97, li_98, li_99, li_100, li_101, li_102, li_103, li_104, li_105, li_107, li_108, li_109, li_110, li_111, li_112, li_114, li_115, li_116, li_117, li_118, li_119, li_121, li_122, li_140, li_193, li_200, li_240, li_255, li_289, li_290, li_300, li_302, li_314, li_326, li_860, li_880, li_900, li_999, li_1024, li_2801, li_3440, li_3441, li_3442, li_3443, li_3444, li_3447, li_3448, li_3449, li_3457, li_3465, li_3469, li_3473, li_3477, li_3501, li_3513, li_3525, li_3537, li_3633, li_3730, li_3742, li_3754, li_3766, li_4095, li_4096, li_4300, li_9011, li_9999, li_10000, li_36864, li_65536, li_1000000, ll_0, ll_1, ll_100, ll_11, ll_16, ll_20, ll_3, ll_32, ll_50, ll_8, ll_96, ll_99, ll_9999, ne_m1, e_if, e_ret, e_rz0, e_rz1, e_rzb, e_call, bCallX_eq, nI_add, nI_mul, nI_succ1, le_i, lt_i, eq_i, m1_i, m1_le, m1_lt, m1_ge, m1_eq, ite_true, ite_false, if_true, if_false, Nat.zero_le, true_and, and_true, and_false, false_and, decide_true, decide_false, Bool.toNat_true, Bool.toNat_false, Nat.not_lt_zero, oI_g0, n10, x_in, l_i, sub_i, neg_lt hx]
    · simp (disch := first | assumption | omega) only [k_now hS, k_cv hS, k_tell hS, k_none hS, k_refuse hS, k_accept hS, k_tellIf0 hS, k_tellIf1 hS, n10, r_c u, r_wa u, r_bo u, r_si u, r_ra u, r_rb u, r_yr u, r_dr u, r_pe u, r_fl u, r_pa u, r_di u, r_fr u, r_to u, r_by u, e_callV u.k, q_refuse u.1, q_no u.1, n10, g_yr h, g_wa h, g_bo h, g_si h, g_ra h, g_rb h, g_dr h, g_pe h, g_fl h, g_apa h, g_adi h, g_aro h, g_afr h, g_ato h, g_aby h, g_afc h, g_pa h, g_di h, g_ro h, g_fr h, g_to h, g_by h, e_callV h.k, li_0, li_1, li_2, li_3, li_4, li_5, li_6, li_7, li_8, li_9, li_10, li_11, li_12, li_13, li_14, li_15, li_16, li_17, li_20, li_24, li_25, li_29, li_31, li_32, li_33, li_37, li_40, li_41, li_48, li_49, li_50, li_56, li_57, li_59, li_60, li_61, li_62, li_63, li_70, li_73, li_85, li_97, li_98, li_99, li_100, li_101, li_102, li_103, li_104, li_105, li_107, li_108, li_109, li_110, li_111, li_112, li_114, li_115, li_116, li_117, li_118, li_119, li_121, li_122, li_140, li_193, li_200, li_240, li_255, li_289, li_290, li_300, li_302, li_314, li_326, li_860, li_880, li_900, li_999, li_1024, li_2801, li_3440, li_3441, li_3442, li_3443, li_3444, li_3447, li_3448, li_3449, li_3457, li_3465, li_3469, li_3473, li_3477, li_3501, li_3513, li_3525, li_3537, li_3633, li_3730, li_3742, li_3754, li_3766, li_4095, li_4096, li_4300, li_9011, li_9999, li_10000, li_36864, li_65536, li_1000000, ll_0, ll_1, ll_100, ll_11, ll_16, ll_20, ll_3, ll_32, ll_50, ll_8, ll_96, ll_99, ll_9999, ne_m1, e_if, e_ret, e_rz0, e_rz1, e_rzb, e_call, bCallX_eq, nI_add, nI_mul, nI_succ1, le_i, lt_i, eq_i, m1_i, m1_le, m1_lt, m1_ge, m1_eq, ite_true, ite_false, if_true, if_false, Nat.zero_le, true_and, and_true, and_false, false_and, decide_true, decide_false, Bool.toNat_true, Bool.toNat_false, Nat.not_lt_zero, oI_g0, n10, x_in, l_i, sub_i, x_neg]
  · by_cases h9 : n ≤ 9999
    · right
      refine ⟨nI 1, 0, wI s 4 6 (nI n), wI (q0 t) 118 6 (nI n), wNum W (wYr W) (wWa W) (wBo W) n, by decide, FI.w _ _ ⟨by decide, by decide⟩, ?_, FM.w (by decide), ?_, ?_, Or.inr ⟨rfl, ?_⟩⟩
      · obtain ⟨f0, f1, f2, f3, f4, f5, f6, f7, f11, fp, ff, fr⟩ := h.2.1
        refine h.num (by decide) (FI.w (A := fun c => c = 4) _ _ rfl) ?_ ?_ ?_ (sI_wI_eq _ _ _ _) (fun j _ _ _ h6 => sI_wI_ne (Or.inr h6)) h.wi.1 h.wi.2.1 h.wi.2.2.1 (by omega)
        · rw [sI_wI_ne (Or.inr (by decide))]; exact f0
        · rw [sI_wI_ne (Or.inr (by decide))]; exact f1
        · rw [sI_wI_ne (Or.inr (by decide))]; exact f2
      · obtain ⟨f0, f1, f2, f3, f4, f5, f6, f7, f8, fp, ff, fr⟩ := u.2
        refine u.num (W := W) rfl ?_ ?_ ?_ (sI_wI_eq _ _ _ _) (fun j _ _ _ h6 => sI_wI_ne (Or.inr h6)) u.wi.1 u.wi.2.1 u.wi.2.2.1 (by omega)
        · rw [sI_wI_ne (Or.inr (by decide))]; exact f5
        · rw [sI_wI_ne (Or.inr (by decide))]; exact f0
        · rw [sI_wI_ne (Or.inr (by decide))]; exact f1
      · simp (disch := omega) only [k_now hS, k_cv hS, k_tell hS, k_none hS, k_refuse hS, k_accept hS, k_tellIf0 hS, k_tellIf1 hS, n10, r_c u, r_wa u, r_bo u, r_si u, r_ra u, r_rb u, r_yr u, r_dr u, r_pe u, r_fl u, r_pa u, r_di u, r_fr u, r_to u, r_by u, e_callV u.k, q_refuse u.1, q_no u.1, n10, g_yr h, g_wa h, g_bo h, g_si h, g_ra h, g_rb h, g_dr h, g_pe h, g_fl h, g_apa h, g_adi h, g_aro h, g_afr h, g_ato h, g_aby h, g_afc h, g_pa h, g_di h, g_ro h, g_fr h, g_to h, g_by h, e_callV h.k, li_0, li_1, li_2, li_3, li_4, li_5, li_6, li_7, li_8, li_9, li_10, li_11, li_12, li_13, li_14, li_15, li_16, li_17, li_20, li_24, li_25, li_29, li_31, li_32, li_33, li_37, li_40, li_41, li_48, li_49, li_50, li_56, li_57, li_59, li_60, li_61, li_62, li_63, li_70, li_73, li_85, li_97, li_98, li_99, li_100, li_101, li_102, li_103, li_104, li_105, li_107, li_108, li_109, li_110, li_111, li_112, li_114, li_115, li_116, li_117, li_118, li_119, li_121, li_122, li_140, li_193, li_200, li_240, li_255, li_289, li_290, li_300, li_302, li_314, li_326, li_860, li_880, li_900, li_999, li_1024, li_2801, li_3440, li_3441, li_3442, li_3443, li_3444, li_3447, li_3448, li_3449, li_3457, li_3465, li_3469, li_3473, li_3477, li_3501, li_3513, li_3525, li_3537, li_3633, li_3730, li_3742, li_3754, li_3766, li_4095, li_4096, li_4300, li_9011, li_9999, li_10000, li_36864, li_65536, li_1000000, ll_0, ll_1, ll_100, ll_11, ll_16, ll_20, ll_3, ll_32, ll_50, ll_8, ll_96, ll_99, ll_9999, ne_m1, e_if, e_ret, e_rz0, e_rz1, e_rzb, e_call, bCallX_eq, nI_add, nI_mul, nI_succ1, le_i, lt_i, eq_i, m1_i, m1_le, m1_lt, m1_ge, m1_eq, ite_true, ite_false, if_true, if_false, Nat.zero_le, true_and, and_true, and_false, false_and, decide_true, decide_false, Bool.toNat_true, Bool.toNat_false, Nat.not_lt_zero, oI_g0, n10, x_in, l_i, sub_i, show ¬ 9999 < n by omega, xPI h.k, k_cv (hS.w (a := 4) (j := 6) (x := nI n)), k_accept (hS.w (a := 4) (j := 6) (x := nI n))]
      · simp (disch := omega) only [k_now hS, k_cv hS, k_tell hS, k_none hS, k_refuse hS, k_accept hS, k_tellIf0 hS, k_tellIf1 hS, n10, r_c u, r_wa u, r_bo u, r_si u, r_ra u, r_rb u, r_yr u, r_dr u, r_pe u, r_fl u, r_pa u, r_di u, r_fr u, r_to u, r_by u, e_callV u.k, q_refuse u.1, q_no u.1, n10, g_yr h, g_wa h, g_bo h, g_si h, g_ra h, g_rb h, g_dr h, g_pe h, g_fl h, g_apa h, g_adi h, g_aro h, g_afr h, g_ato h, g_aby h, g_afc h, g_pa h, g_di h, g_ro h, g_fr h, g_to h, g_by h, e_callV h.k, li_0, li_1, li_2, li_3, li_4, li_5, li_6, li_7, li_8, li_9, li_10, li_11, li_12, li_13, li_14, li_15, li_16, li_17, li_20, li_24, li_25, li_29, li_31, li_32, li_33, li_37, li_40, li_41, li_48, li_49, li_50, li_56, li_57, li_59, li_60, li_61, li_62, li_63, li_70, li_73, li_85, li_97, li_98, li_99, li_100, li_101, li_102, li_103, li_104, li_105, li_107, li_108, li_109, li_110, li_111, li_112, li_114, li_115, li_116, li_117, li_118, li_119, li_121, li_122, li_140, li_193, li_200, li_240, li_255, li_289, li_290, li_300, li_302, li_314, li_326, li_860, li_880, li_900, li_999, li_1024, li_2801, li_3440, li_3441, li_3442, li_3443, li_3444, li_3447, li_3448, li_3449, li_3457, li_3465, li_3469, li_3473, li_3477, li_3501, li_3513, li_3525, li_3537, li_3633, li_3730, li_3742, li_3754, li_3766, li_4095, li_4096, li_4300, li_9011, li_9999, li_10000, li_36864, li_65536, li_1000000, ll_0, ll_1, ll_100, ll_11, ll_16, ll_20, ll_3, ll_32, ll_50, ll_8, ll_96, ll_99, ll_9999, ne_m1, e_if, e_ret, e_rz0, e_rz1, e_rzb, e_call, bCallX_eq, nI_add, nI_mul, nI_succ1, le_i, lt_i, eq_i, m1_i, m1_le, m1_lt, m1_ge, m1_eq, ite_true, ite_false, if_true, if_false, Nat.zero_le, true_and, and_true, and_false, false_and, decide_true, decide_false, Bool.toNat_true, Bool.toNat_false, Nat.not_lt_zero, oI_g0, n10, x_in, l_i, sub_i, h9, bt0, Bool.true_eq_false, rt_w u.1]
    · left
      refine ⟨nI 0, 5, by decide, ?_, ?_⟩
      · simp (disch := omega) only [k_now hS, k_cv hS, k_tell hS, k_none hS, k_refuse hS, k_accept hS, k_tellIf0 hS, k_tellIf1 hS, n10, r_c u, r_wa u, r_bo u, r_si u, r_ra u, r_rb u, r_yr u, r_dr u, r_pe u, r_fl u, r_pa u, r_di u, r_fr u, r_to u, r_by u, e_callV u.k, q_refuse u.1, q_no u.1, n10, g_yr h, g_wa h, g_bo h, g_si h, g_ra h, g_rb h, g_dr h, g_pe h, g_fl h, g_apa h, g_adi h, g_aro h, g_afr h, g_ato h, g_aby h, g_afc h, g_pa h, g_di h, g_ro h, g_fr h, g_to h, g_by h, e_callV h.k, li_0, li_1, li_2, li_3, li_4, li_5, li_6, li_7, li_8, li_9, li_10, li_11, li_12, li_13, li_14, li_15, li_16, li_17, li_20, li_24, li_25, li_29, li_31, li_32, li_33, li_37, li_40, li_41, li_48, li_49, li_50, li_56, li_57, li_59, li_60, li_61, li_62, li_63, li_70, li_73, li_85, li_97, li_98, li_99, li_100, li_101, li_102, li_103, li_104, li_105, li_107, li_108, li_109, li_110, li_111, li_112, li_114, li_115, li_116, li_117, li_118, li_119, li_121, li_122, li_140, li_193, li_200, li_240, li_255, li_289, li_290, li_300, li_302, li_314, li_326, li_860, li_880, li_900, li_999, li_1024, li_2801, li_3440, li_3441, li_3442, li_3443, li_3444, li_3447, li_3448, li_3449, li_3457, li_3465, li_3469, li_3473, li_3477, li_3501, li_3513, li_3525, li_3537, li_3633, li_3730, li_3742, li_3754, li_3766, li_4095, li_4096, li_4300, li_9011, li_9999, li_10000, li_36864, li_65536, li_1000000, ll_0, ll_1, ll_100, ll_11, ll_16, ll_20, ll_3, ll_32, ll_50, ll_8, ll_96, ll_99, ll_9999, ne_m1, e_if, e_ret, e_rz0, e_rz1, e_rzb, e_call, bCallX_eq, nI_add, nI_mul, nI_succ1, le_i, lt_i, eq_i, m1_i, m1_le, m1_lt, m1_ge, m1_eq, ite_true, ite_false, if_true, if_false, Nat.zero_le, true_and, and_true, and_false, false_and, decide_true, decide_false, Bool.toNat_true, Bool.toNat_false, Nat.not_lt_zero, oI_g0, n10, x_in, l_i, sub_i, show 9999 < n by omega]
      · simp (disch := omega) only [k_now hS, k_cv hS, k_tell hS, k_none hS, k_refuse hS, k_accept hS, k_tellIf0 hS, k_tellIf1 hS, n10, r_c u, r_wa u, r_bo u, r_si u, r_ra u, r_rb u, r_yr u, r_dr u, r_pe u, r_fl u, r_pa u, r_di u, r_fr u, r_to u, r_by u, e_callV u.k, q_refuse u.1, q_no u.1, n10, g_yr h, g_wa h, g_bo h, g_si h, g_ra h, g_rb h, g_dr h, g_pe h, g_fl h, g_apa h, g_adi h, g_aro h, g_afr h, g_ato h, g_aby h, g_afc h, g_pa h, g_di h, g_ro h, g_fr h, g_to h, g_by h, e_callV h.k, li_0, li_1, li_2, li_3, li_4, li_5, li_6, li_7, li_8, li_9, li_10, li_11, li_12, li_13, li_14, li_15, li_16, li_17, li_20, li_24, li_25, li_29, li_31, li_32, li_33, li_37, li_40, li_41, li_48, li_49, li_50, li_56, li_57, li_59, li_60, li_61, li_62, li_63, li_70, li_73, li_85, li_97, li_98, li_99, li_100, li_101, li_102, li_103, li_104, li_105, li_107, li_108, li_109, li_110, li_111, li_112, li_114, li_115, li_116, li_117, li_118, li_119, li_121, li_122, li_140, li_193, li_200, li_240, li_255, li_289, li_290, li_300, li_302, li_314, li_326, li_860, li_880, li_900, li_999, li_1024, li_2801, li_3440, li_3441, li_3442, li_3443, li_3444, li_3447, li_3448, li_3449, li_3457, li_3465, li_3469, li_3473, li_3477, li_3501, li_3513, li_3525, li_3537, li_3633, li_3730, li_3742, li_3754, li_3766, li_4095, li_4096, li_4300, li_9011, li_9999, li_10000, li_36864, li_65536, li_1000000, ll_0, ll_1, ll_100, ll_11, ll_16, ll_20, ll_3, ll_32, ll_50, ll_8, ll_96, ll_99, ll_9999, ne_m1, e_if, e_ret, e_rz0, e_rz1, e_rzb, e_call, bCallX_eq, nI_add, nI_mul, nI_succ1, le_i, lt_i, eq_i, m1_i, m1_le, m1_lt, m1_ge, m1_eq, ite_true, ite_false, if_true, if_false, Nat.zero_le, true_and, and_true, and_false, false_and, decide_true, decide_false, Bool.toNat_true, Bool.toNat_false, Nat.not_lt_zero, oI_g0, n10, x_in, l_i, sub_i, h9, bt0]
theorem s_dig (x : Int32) : Sim (fX8_dig 1 x) (fX9_dig 113 x) := by
  refine Sim.wr fun s t D hC hR hD => ?_
  have hS := hC.1
  have h : CW s 4 (dW D) := hC.2.2.2.2.1
  have u : RX (q0 t) (dW D) := (hR.q0 hD).1
  have hT := hR.1.1
  obtain ⟨W, hW⟩ : ∃ W, W = dW D := ⟨_, rfl⟩
  rw [← hW] at h u
  have i8 := h.wi.2.2.2.2.2.2.2.1
  unfold fX8_dig fX9_dig fX8_dig_16 fX9_dig_28
  rw [q0_b hT]
  have eL : ((-99 : Int64)) = (-99 : Int32).toInt64 := by decide
  have eR : ((99 : Int64)) = (99 : Int32).toInt64 := by decide
  rw [eL, eR]
  by_cases h0 : x = 0
  · left
    refine ⟨mI, 5, by decide, ?_, ?_⟩
    · simp (disch := omega) only [k_now hS, k_cv hS, k_tell hS, k_none hS, k_refuse hS, k_accept hS, k_tellIf0 hS, k_tellIf1 hS, n10, e_if, h0, if_true, bCallX_eq, e_call, e_ret, li_5]
    · simp (disch := omega) only [r_c u, r_wa u, r_bo u, r_si u, r_ra u, r_rb u, r_yr u, r_dr u, r_pe u, r_fl u, r_pa u, r_di u, r_fr u, r_to u, r_by u, e_callV u.k, q_refuse u.1, q_no u.1, n10, e_if, h0, if_true, e_call, e_ret, li_5]
  · have hc0 : x ≠ 0 := h0
    by_cases h1 : x < -99
    · left
      refine ⟨mI, 5, by decide, ?_, ?_⟩
      · simp (disch := omega) only [k_now hS, k_cv hS, k_tell hS, k_none hS, k_refuse hS, k_accept hS, k_tellIf0 hS, k_tellIf1 hS, n10, e_if, h0, h1, if_true, if_false, e_call, e_ret, li_5]
      · simp (disch := omega) only [r_c u, r_wa u, r_bo u, r_si u, r_ra u, r_rb u, r_yr u, r_dr u, r_pe u, r_fl u, r_pa u, r_di u, r_fr u, r_to u, r_by u, e_callV u.k, q_refuse u.1, q_no u.1, n10, x_inz, e_if, h0, h1, if_true, if_false, e_call, e_ret, li_5, Bool.toNat_false, ← li_0]
    · by_cases h2 : x ≤ 99
      · right
        have h2' : ¬ 99 < x := Int32.not_lt.mpr h2
        obtain ⟨b, hb, eb⟩ := jMaxMin (nI (wBo W) + x)
        have hb9 : b ≤ 999 := hb
        have hS1 : CS (wI s 4 2 (nI b)) := hS.w
        have hw1 : CW (wI s 4 2 (nI b)) 4 (wNum W (wYr W) (wWa W) b (wDr W)) := by
          obtain ⟨f0, f1, f2, f3, f4, f5, f6, f7, f11, fp, ff, fr⟩ := h.2.1
          refine h.num (by decide) (FI.w (A := fun c => c = 4) _ _ rfl) ?_ ?_ (sI_wI_eq _ _ _ _) ?_ (fun j _ _ h6 _ => sI_wI_ne (Or.inr h6)) h.wi.1 h.wi.2.1 hb h.wi.2.2.2.2.2.2.1
          · rw [sI_wI_ne (Or.inr (by decide))]; exact f0
          · rw [sI_wI_ne (Or.inr (by decide))]; exact f1
          · rw [sI_wI_ne (Or.inr (by decide))]; exact f6
        have hu1 : RX (wI (q0 t) 118 1 (nI b)) (wNum W (wYr W) (wWa W) b (wDr W)) := by
          obtain ⟨f0, f1, f2, f3, f4, f5, f6, f7, f8, fp, ff, fr⟩ := u.2
          refine u.num (W := W) rfl ?_ ?_ (sI_wI_eq _ _ _ _) ?_ (fun j _ h6 _ _ => sI_wI_ne (Or.inr h6)) u.wi.1 u.wi.2.1 hb u.wi.2.2.2.2.2.2.1
          · rw [sI_wI_ne (Or.inr (by decide))]; exact f5
          · rw [sI_wI_ne (Or.inr (by decide))]; exact f0
          · rw [sI_wI_ne (Or.inr (by decide))]; exact f6
        refine ⟨nI b, 0, _, _, _, by decide, FI.w 2 (nI b) ⟨by decide, by decide⟩, hw1, FM.w (j := 1) (x := nI b) (by decide), hu1, ?_, Or.inr ⟨rfl, ?_⟩⟩
        · have g2 : ∀ {α : Type} (f : Int32 → mM α), bGI 7 4 2 f (wI s 4 2 (nI b)) = f (nI b) (wI s 4 2 (nI b)) := fun f => g_bo hw1
          rw [e_if, if_neg h0, e_if, if_neg h1, e_if, if_pos h2, k_now hS, k_now hS, g_bo h, li_0, li_999, eb, xPI h.k, k_now hS1, g2]
          simp (disch := omega) only [k_now hS1, k_cv hS1, k_tell hS1, k_none hS1, k_refuse hS1, k_accept hS1, k_tellIf0 hS1, k_tellIf1 hS1, e_call, e_ret]
        · have g2 : ∀ {α : Type} (f : Int32 → mM α), bAI 11 118 (nI 1) f (wI (q0 t) 118 1 (nI b)) = f (nI b) (wI (q0 t) 118 1 (nI b)) := fun f => r_bo hu1
          rw [e_if, if_neg h0, e_call, x_inz, if_neg h1, if_neg h2']
          show bIf (nI 1 = 0) _ _ (q0 t) = _
          rw [e_if, if_neg (by decide), r_c u, r_c u, li_1, r_bo u, li_0, li_999, eb, rt_w u.1 (by decide), r_c hu1, g2]
          rfl
      · left
        have h2' : 99 < x := Int32.not_le.mp h2
        refine ⟨mI, 5, by decide, ?_, ?_⟩
        · simp (disch := omega) only [k_now hS, k_cv hS, k_tell hS, k_none hS, k_refuse hS, k_accept hS, k_tellIf0 hS, k_tellIf1 hS, n10, e_if, h0, h1, h2, if_true, if_false, e_call, e_ret, li_5]
        · simp (disch := omega) only [r_c u, r_wa u, r_bo u, r_si u, r_ra u, r_rb u, r_yr u, r_dr u, r_pe u, r_fl u, r_pa u, r_di u, r_fr u, r_to u, r_by u, e_callV u.k, q_refuse u.1, q_no u.1, n10, x_inz, e_if, h0, h1, h2', if_true, if_false, e_call, e_ret, li_5, Bool.toNat_false, ← li_0]

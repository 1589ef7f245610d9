/-! ROPES TIED TOGETHER -/
theorem x_isFree {s : mS} {W : wW} (u : RX s W) {r : Nat} (hr : r < 12) (h0 : 0 < rN (wRo W r)) : fX9_isFree 113 (nI r) s = some (nI (rF (wRo W r)).toNat, s) := by
  have hb := (u.ri r).2.2.2.2.1
  unfold fX9_isFree rF
  simp (disch := omega) only [r_c u, r_wa u, r_bo u, r_si u, r_ra u, r_rb u, r_yr u, r_dr u, r_pe u, r_fl u, r_pa u, r_di u, r_fr u, r_to u, r_by u, e_callV u.k, q_refuse u.1, q_no u.1, n10, r_ho u hr h0, r_br u hr h0, li_0, li_1, li_2, li_3, li_4, li_5, li_6, li_7, li_8, li_9, li_10, li_11, li_12, li_13, li_14, li_15, li_16, li_17, li_20, li_24, li_25, li_29, li_31, li_32, li_33, li_37, li_40, li_41, li_48, li_49, li_50, li_56, li_57, li_59, li_60, li_61, li_62, li_63, li_70, li_73, li_85, li_97, li_98, li_99, li_100, li_101, li_102, li_103, li_104, li_105, li_107, li_108, li_109, li_110, li_111, li_112, li_114, li_115, li_116, li_117, li_118, li_119, li_121, li_122, li_140, li_193, li_200, li_240, li_255, li_289, li_290, li_300, li_302, li_314, li_326, li_860, li_880, li_900, li_999, li_1024, li_2801, li_3440, li_3441, li_3442, li_3443, li_3444, li_3447, li_3448, li_3449, li_3457, li_3465, li_3469, li_3473, li_3477, li_3501, li_3513, li_3525, li_3537, li_3633, li_3730, li_3742, li_3754, li_3766, li_4095, li_4096, li_4300, li_9011, li_9999, li_10000, li_36864, li_65536, li_1000000, ll_0, ll_1, ll_100, ll_11, ll_16, ll_20, ll_3, ll_32, ll_50, ll_8, ll_96, ll_99, ll_9999, ne_m1, e_if, e_ret, e_rz0, e_rz1, e_rzb, e_call, bCallX_eq, nI_add, nI_mul, nI_succ1, le_i, lt_i, eq_i, m1_i, m1_le, m1_lt, m1_ge, m1_eq, ite_true, ite_false, if_true, if_false, bt0, oI_ge (ob hb)]
  cases rH (wRo W r) with
  | true => rfl
  | false =>
    cases rB (wRo W r) with
    | none => rfl
    | some b => simp
def rTi (ρ σ : rR) : rR := (rO ρ, rB ρ, rH ρ, max (rS ρ) (rS σ), rP ρ ++ rP σ)
def wTi (W : wW) (r q : Nat) : wW := wSetRo W (up (up (wRo W) r (rTi (wRo W r) (wRo W q))) q r0)
theorem piOk_app {ps qs : List (Nat × Nat)} (h1 : piOk ps) (h2 : piOk qs) : piOk (ps ++ qs) := by
  intro k hk
  rw [List.length_append] at hk
  by_cases hk2 : k < ps.length
  · rw [pY_app hk2, pA_app hk2]; exact h1 k hk2
  · rw [pY_app2 (by omega), pA_app2 (by omega)]; exact h2 _ (by omega)
theorem rTi_n (ρ σ : rR) : rN (rTi ρ σ) = rN ρ + rN σ := List.length_append
theorem wTi_ok {W : wW} (h : wOk W) {r q : Nat} (h0 : 0 < rN (wRo W r)) (h8 : rN (wRo W r) + rN (wRo W q) ≤ 8) : wOk (wTi W r q) := by
  have hw := h
  obtain ⟨iY, iW, iB, iS, iR, iRb, iD, iP, iPa, iDi, iF, iFd, iRo, iOw, iBo, iLa⟩ := h
  have hI := iRo r
  have hQ := iRo q
  refine wOk_set hw _ (fun p => ?_) (fun p b => ?_) (fun p b => ?_)
  · by_cases hq : p = q
    · rw [hq, up_s]; exact r0_I
    · rw [up_n _ _ hq]
      by_cases hp : p = r
      · rw [hp, up_s]
        have e := rTi_n (wRo W r) (wRo W q)
        exact rI_mk (by show rN (rTi _ _) ≤ 8; omega) (by show 0 < rN (rTi _ _); omega) (piOk_app hI.pi hQ.pi) (by have := hI.2.2.1; have := hQ.2.2.1; omega) hI.2.2.2.1 hI.2.2.2.2.1
      · rw [up_n _ _ hp]; exact iRo p
  · by_cases hq : p = q
    · rw [hq, up_s]; exact fun e => by cases e
    · rw [up_n _ _ hq]
      by_cases hp : p = r
      · rw [hp, up_s]; exact iOw r b
      · rw [up_n _ _ hp]; exact iOw p b
  · by_cases hq : p = q
    · rw [hq, up_s]; exact fun e => by cases e
    · rw [up_n _ _ hq]
      by_cases hp : p = r
      · rw [hp, up_s]; exact iBo r b
      · rw [up_n _ _ hp]; exact iBo p b
theorem c_tie {s : mS} {a r q : Nat} {W : wW} (h : CW s a W) (ha : a + 44 ≤ 124) (hr : r < 12) (hq : q < 12) (hqr : q ≠ r) (h0 : 0 < rN (wRo W r)) (h8 : rN (wRo W r) + rN (wRo W q) ≤ 8) : ∃ t, fX3_tieOn (a + 8 + 3 * r) (a + 8 + 3 * q) s = some ((), t) ∧ FI (wA a) s t ∧ CW t a (wTi W r q) := by
  obtain ⟨t, e1, e2, e3, e4⟩ := t_tieOn (h.rs hr) (h.rd hr) (h.rs hq) (h.rd hq) (by omega) h8 (h.ri r).2.2.1 (h.ri q).2.2.1
  have hF : FI (wA a) s t := e2.mo fun b hb => by
    have hb : (b = a + 8 + 3 * r ∨ b = a + 8 + 3 * r + 1 ∨ b = a + 8 + 3 * r + 2) ∨ (b = a + 8 + 3 * q ∨ b = a + 8 + 3 * q + 1 ∨ b = a + 8 + 3 * q + 2) := hb
    exact ⟨by omega, by omega⟩
  refine ⟨t, e1, hF, h.ropes ha hF (fun b h3 h4 => e2.1 b (by show ¬ ((_ ∨ _ ∨ _) ∨ (_ ∨ _ ∨ _)); omega)) (fun p hp => ?_) (wTi_ok h.wi h0 h8)⟩
  by_cases hpq : p = q
  · rw [hpq, up_s]; exact e4
  · rw [up_n _ _ hpq]
    by_cases hpr : p = r
    · rw [hpr, up_s]; exact e3
    · rw [up_n _ _ hpr]
      exact (h.rd hp).fi e2 (by show ¬ ((_ ∨ _ ∨ _) ∨ (_ ∨ _ ∨ _)); omega) (by show ¬ ((_ ∨ _ ∨ _) ∨ (_ ∨ _ ∨ _)); omega) (by show ¬ ((_ ∨ _ ∨ _) ∨ (_ ∨ _ ∨ _)); omega)
def TiI (s : mS) (r q : Nat) (ρ σ : rR) (k : Nat) (u : mS) : Prop := FM s u ∧ (∀ i, ¬ (97 + 8 * r + rN ρ ≤ i ∧ i < 97 + 8 * r + rN ρ + k) → ¬ (193 + 8 * r + rN ρ ≤ i ∧ i < 193 + 8 * r + rN ρ + k) → sI u 118 i = sI s 118 i) ∧ ∀ j, j < k → sI u 118 (97 + 8 * r + rN ρ + j) = nI (pY (rP σ) j) ∧ sI u 118 (193 + 8 * r + rN ρ + j) = nI (pA (rP σ) j)
theorem x_tie {s : mS} {r q : Nat} {W : wW} (h : RX s W) (hr : r < 12) (hq : q < 12) (hqr : q ≠ r) (h0 : 0 < rN (wRo W r)) (hq0 : 0 < rN (wRo W q)) (h8 : rN (wRo W r) + rN (wRo W q) ≤ 8) : ∃ t, fX9_knot_114 fu 113 (nI r) (nI q) (nI 0) s = some (nI (rN (wRo W r) + rN (wRo W q)), t) ∧ FM s t ∧ RX t (wTi W r q) := by
  obtain ⟨a1, a2⟩ := h.ro hr
  obtain ⟨b1, b2, b3, b4, b5⟩ := a2 h0
  obtain ⟨c1, c2⟩ := h.ro hq
  obtain ⟨d1, d2, d3, d4, d5⟩ := c2 hq0
  have s1 := (h.ri r).2.2.1
  have s2 := (h.ri q).2.2.1
  have key := loop_s (fun n k => fX9_knot_114 n 113 (nI r) (nI q) (nI k)) (TiI s r q (wRo W r) (wRo W q)) (rN (wRo W q)) (fun z => z.1 = nI (rN (wRo W r) + rN (wRo W q)) ∧ FM s z.2 ∧ RX z.2 (wTi W r q)) ?_ ?_ fu 0 s (by omega) (by unfold fu; omega) ⟨FM.rf, fun _ _ _ => rfl, fun j hj => absurd hj (by omega)⟩
  · obtain ⟨⟨x, t⟩, e1, e2, e3, e4⟩ := key
    have e2 : x = nI (rN (wRo W r) + rN (wRo W q)) := e2
    subst e2
    exact ⟨t, e1, e3, e4⟩
  · rintro n k v hk ⟨hF, hs, hv⟩
    have hT : RT v := h.1.mv hF.1.2
    have hT1 : ∀ i x, RT (wI v 118 i x) := fun i x => hT.w
    have e1 : sI v 118 (85 + q) = nI (rN (wRo W q)) := by rw [hs _ (by omega) (by omega)]; exact c1
    have e2 : sI v 118 (85 + r) = nI (rN (wRo W r)) := by rw [hs _ (by omega) (by omega)]; exact a1
    have e3 : sI v 118 (97 + 8 * q + k) = nI (pY (rP (wRo W q)) k) := by rw [hs _ (by omega) (by omega)]; exact (d5 k hk).1
    have e4 : sI v 118 (193 + 8 * q + k) = nI (pA (rP (wRo W q)) k) := by rw [hs _ (by omega) (by omega)]; exact (d5 k hk).2
    refine ⟨wI (wI v 118 (97 + 8 * r + rN (wRo W r) + k) (nI (pY (rP (wRo W q)) k))) 118 (193 + 8 * r + rN (wRo W r) + k) (nI (pA (rP (wRo W q)) k)), ⟨(hF.tr (FM.w (by omega))).tr (FM.w (by omega)), fun i h1 h2 => ?_, fun j hj => ?_⟩, ?_⟩
    · rw [sI_wI_ne (Or.inr (by omega)), sI_wI_ne (Or.inr (by omega))]
      exact hs i (by omega) (by omega)
    · by_cases hjk : j = k
      · subst hjk
        rw [sI_wI_ne (Or.inr (by omega)), sI_wI_eq, sI_wI_eq]
        exact ⟨rfl, rfl⟩
      · rw [sI_wI_ne (Or.inr (by omega)), sI_wI_ne (Or.inr (by omega)), sI_wI_ne (Or.inr (by omega)), sI_wI_ne (Or.inr (by omega))]
        exact hv j (by omega)
    · have hk' : ¬ rN (wRo W q) ≤ k := by omega
      show fX9_knot_114 (n + 1) 113 _ _ _ v = _
      rw [qX9_knot_114]
      simp (disch := omega) only [rt_c hT, rt_c (hT1 _ _), rt_n hT, rt_n (hT1 _ _), rt_w hT, rt_w (hT1 _ _), li_0, li_1, li_2, li_3, li_4, li_5, li_6, li_7, li_8, li_9, li_10, li_11, li_12, li_13, li_14, li_15, li_16, li_17, li_20, li_24, li_25, li_29, li_31, li_32, li_33, li_37, li_40, li_41, li_48, li_49, li_50, li_56, li_57, li_59, li_60, li_61, li_62, li_63, li_70, li_73, li_85, li_97, li_98, li_99, li_100, li_101, li_102, li_103, li_104, li_105, li_107, li_108, li_109, li_110, li_111, li_112, li_114, li_115, li_116, li_117, li_118, li_119, li_121, li_122, li_140, li_193, li_200, li_240, li_255, li_289, li_290, li_300, li_302, li_314, li_326, li_860, li_880, li_900, li_999, li_1024, li_2801, li_3440, li_3441, li_3442, li_3443, li_3444, li_3447, li_3448, li_3449, li_3457, li_3465, li_3469, li_3473, li_3477, li_3501, li_3513, li_3525, li_3537, li_3633, li_3730, li_3742, li_3754, li_3766, li_4095, li_4096, li_4300, li_9011, li_9999, li_10000, li_36864, li_65536, li_1000000, ll_0, ll_1, ll_100, ll_11, ll_16, ll_20, ll_3, ll_32, ll_50, ll_8, ll_96, ll_99, ll_9999, ne_m1, e_if, e_ret, e_rz0, e_rz1, e_rzb, e_call, bCallX_eq, nI_add, nI_mul, nI_succ1, le_i, lt_i, eq_i, m1_i, m1_le, m1_lt, m1_ge, m1_eq, ite_true, ite_false, if_true, if_false, e1, e2, e3, hk', sI_wI_ne, e4]
  · rintro n v ⟨hF, hs, hv⟩
    have hT : RT v := h.1.mv hF.1.2
    have hT1 : ∀ i x, RT (wI v 118 i x) := fun i x => hT.w
    have hT2 : ∀ i x j y, RT (wI (wI v 118 i x) 118 j y) := fun i x j y => hT.w.w
    have hT3 : ∀ i x j y k z, RT (wI (wI (wI v 118 i x) 118 j y) 118 k z) := fun i x j y k z => hT.w.w.w
    have e1 : sI v 118 (85 + q) = nI (rN (wRo W q)) := by rw [hs _ (by omega) (by omega)]; exact c1
    have e2 : sI v 118 (85 + r) = nI (rN (wRo W r)) := by rw [hs _ (by omega) (by omega)]; exact a1
    have e3 : sI v 118 (73 + r) = nI (rS (wRo W r)) := by rw [hs _ (by omega) (by omega)]; exact b4
    have e4 : sI v 118 (73 + q) = nI (rS (wRo W q)) := by rw [hs _ (by omega) (by omega)]; exact d4
    refine ⟨(nI (rN (wRo W r) + rN (wRo W q)), wI (wI (wI v 118 (85 + r) (nI (rN (wRo W r) + rN (wRo W q)))) 118 (73 + r) (nI (max (rS (wRo W r)) (rS (wRo W q))))) 118 (85 + q) (nI 0)), ?_, rfl, ((hF.tr (FM.w (by omega))).tr (FM.w (by omega))).tr (FM.w (by omega)), ?_⟩
    · show fX9_knot_114 (n + 1) 113 _ _ _ v = _
      rw [qX9_knot_114]
      unfold fX9_knot_211
      simp (disch := omega) only [rt_c hT, rt_c (hT1 _ _), rt_c (hT2 _ _ _ _), rt_c (hT3 _ _ _ _ _ _), rt_n hT, rt_n (hT1 _ _), rt_n (hT2 _ _ _ _), rt_n (hT3 _ _ _ _ _ _), rt_w hT, rt_w (hT1 _ _), rt_w (hT2 _ _ _ _), li_0, li_1, li_2, li_3, li_4, li_5, li_6, li_7, li_8, li_9, li_10, li_11, li_12, li_13, li_14, li_15, li_16, li_17, li_20, li_24, li_25, li_29, li_31, li_32, li_33, li_37, li_40, li_41, li_48, li_49, li_50, li_56, li_57, li_59, li_60, li_61, li_62, li_63, li_70, li_73, li_85, li_97, li_98, li_99, li_100, li_101, li_102, li_103, li_104, li_105, li_107, li_108, li_109, li_110, li_111, li_112, li_114, li_115, li_116, li_117, li_118, li_119, li_121, li_122, li_140, li_193, li_200, li_240, li_255, li_289, li_290, li_300, li_302, li_314, li_326, li_860, li_880, li_900, li_999, li_1024, li_2801, li_3440, li_3441, li_3442, li_3443, li_3444, li_3447, li_3448, li_3449, li_3457, li_3465, li_3469, li_3473, li_3477, li_3501, li_3513, li_3525, li_3537, li_3633, li_3730, li_3742, li_3754, li_3766, li_4095, li_4096, li_4300, li_9011, li_9999, li_10000, li_36864, li_65536, li_1000000, ll_0, ll_1, ll_100, ll_11, ll_16, ll_20, ll_3, ll_32, ll_50, ll_8, ll_96, ll_99, ll_9999, ne_m1, e_if, e_ret, e_rz0, e_rz1, e_rzb, e_call, bCallX_eq, nI_add, nI_mul, nI_succ1, le_i, lt_i, eq_i, m1_i, m1_le, m1_lt, m1_ge, m1_eq, ite_true, ite_false, if_true, if_false, e1, e2, e3, e4, sI_wI_ne, sI_wI_eq, Nat.le_refl, jMax_i]
    · refine h.ropes ((((hF.tr (FM.w (by omega))).tr (FM.w (by omega))).tr (FM.w (by omega))).1.2) (fun i hi => ?_) (fun p hp => ?_) (wTi_ok h.wi h0 h8)
      · rw [sI_wI_ne (Or.inr (by omega)), sI_wI_ne (Or.inr (by omega)), sI_wI_ne (Or.inr (by omega))]
        exact hs i (by omega) (by omega)
      · by_cases hpq : p = q
        · rw [hpq, up_s]
          exact ⟨by rw [sI_wI_eq]; rfl, fun hz => absurd hz (by show ¬ 0 < 0; omega)⟩
        · rw [up_n _ _ hpq]
          by_cases hpr : p = r
          · rw [hpr, up_s]
            refine ⟨?_, fun _ => ⟨?_, ?_, ?_, ?_, fun k hk => ?_⟩⟩
            · rw [sI_wI_ne (Or.inr (by omega)), sI_wI_ne (Or.inr (by omega)), sI_wI_eq, rTi_n]
            · rw [sI_wI_ne (Or.inr (by omega)), sI_wI_ne (Or.inr (by omega)), sI_wI_ne (Or.inr (by omega)), hs _ (by omega) (by omega)]; exact b1
            · rw [sI_wI_ne (Or.inr (by omega)), sI_wI_ne (Or.inr (by omega)), sI_wI_ne (Or.inr (by omega)), hs _ (by omega) (by omega)]; exact b2
            · rw [sI_wI_ne (Or.inr (by omega)), sI_wI_ne (Or.inr (by omega)), sI_wI_ne (Or.inr (by omega)), hs _ (by omega) (by omega)]; exact b3
            · rw [sI_wI_ne (Or.inr (by omega)), sI_wI_eq]; rfl
            · rw [rTi_n] at hk
              rw [sI_wI_ne (Or.inr (by omega)), sI_wI_ne (Or.inr (by omega)), sI_wI_ne (Or.inr (by omega)), sI_wI_ne (Or.inr (by omega)), sI_wI_ne (Or.inr (by omega)), sI_wI_ne (Or.inr (by omega))]
              show _ = nI (pY (rP (wRo W r) ++ rP (wRo W q)) k) ∧ _ = nI (pA (rP (wRo W r) ++ rP (wRo W q)) k)
              by_cases hk2 : k < rN (wRo W r)
              · rw [pY_app hk2, pA_app hk2, hs _ (by omega) (by omega), hs _ (by omega) (by omega)]
                exact b5 k hk2
              · have e := hv (k - rN (wRo W r)) (by omega)
                rw [show 97 + 8 * r + rN (wRo W r) + (k - rN (wRo W r)) = 97 + 8 * r + k by omega, show 193 + 8 * r + rN (wRo W r) + (k - rN (wRo W r)) = 193 + 8 * r + k by omega] at e
                rw [pY_app2 (by show rN (wRo W r) ≤ k; omega), pA_app2 (by show rN (wRo W r) ≤ k; omega)]
                exact e
          · rw [up_n _ _ hpr]
            refine (h.ro hp).mv (h.ri p).1 fun i hi => ?_
            rw [sI_wI_ne (Or.inr (by omega)), sI_wI_ne (Or.inr (by omega)), sI_wI_ne (Or.inr (by omega))]
            exact hs i (by omega) (by omega)

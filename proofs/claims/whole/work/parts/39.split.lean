/-! A ROPE IN TWO -/
def tk (κ : Nat) (ps : List (Nat × Nat)) (k : Nat) : Nat := min (pY ps k) (κ - qS ps k)
def sK (κ : Nat) (ps : List (Nat × Nat)) : Nat → List (Nat × Nat)
  | 0 => []
  | k + 1 => if 0 < tk κ ps k then sK κ ps k ++ [(tk κ ps k, pA ps k)] else sK κ ps k
def sR (κ : Nat) (ps : List (Nat × Nat)) : Nat → List (Nat × Nat)
  | 0 => []
  | k + 1 => if tk κ ps k < pY ps k then sR κ ps k ++ [(pY ps k - tk κ ps k, pA ps k)] else sR κ ps k
theorem snoc_len (l : List (Nat × Nat)) (y g : Nat) : (l ++ [(y, g)]).length = l.length + 1 := by rw [List.length_append]; rfl
theorem sK_le (κ : Nat) (ps : List (Nat × Nat)) : ∀ k, (sK κ ps k).length ≤ k
  | 0 => Nat.le_refl _
  | k + 1 => by
    have := sK_le κ ps k
    unfold sK
    split
    · rw [snoc_len]; omega
    · omega
theorem sR_le (κ : Nat) (ps : List (Nat × Nat)) : ∀ k, (sR κ ps k).length ≤ k
  | 0 => Nat.le_refl _
  | k + 1 => by
    have := sR_le κ ps k
    unfold sR
    split
    · rw [snoc_len]; omega
    · omega
theorem qS_mo (ps : List (Nat × Nat)) {j : Nat} : ∀ k, j ≤ k → qS ps j ≤ qS ps k
  | 0, h => by rw [show j = 0 by omega]; exact Nat.le_refl _
  | k + 1, h => by
    by_cases h1 : j = k + 1
    · rw [h1]; exact Nat.le_refl _
    · have := qS_mo ps k (show j ≤ k by omega)
      rw [qS_s]
      omega
theorem sK_full {κ : Nat} {ps : List (Nat × Nat)} (hp : ∀ j, j < ps.length → 1 ≤ pY ps j) : ∀ k, k ≤ ps.length → (k = 0 ∨ qS ps (k - 1) < κ) → (sK κ ps k).length = k
  | 0, _, _ => rfl
  | k + 1, h, h2 => by
    have h3 : qS ps k < κ := by
      rcases h2 with h2 | h2
      · omega
      · exact h2
    have h4 := qS_mo ps (j := k - 1) k (by omega)
    have h5 := sK_full (κ := κ) hp k (by omega) (Or.inr (by omega))
    have h6 := hp k (by omega)
    unfold sK
    rw [if_pos (by unfold tk; omega), snoc_len, h5]
theorem sK_get {κ : Nat} {ps : List (Nat × Nat)} (hp : ∀ j, j < ps.length → 1 ≤ pY ps j) : ∀ k, k ≤ ps.length → ∀ j, j < (sK κ ps k).length → pY (sK κ ps k) j = tk κ ps j ∧ pA (sK κ ps k) j = pA ps j
  | 0, _, j, h => absurd h (by show ¬ j < 0; omega)
  | k + 1, h, j, hj => by
    have ih := sK_get hp k (by omega) (κ := κ)
    unfold sK at hj ⊢
    split
    · rename_i h1
      rw [if_pos h1, snoc_len] at hj
      have h2 : (sK κ ps k).length = k := sK_full hp k (by omega) (by
        have := qS_mo ps (j := k - 1) k (by omega)
        unfold tk at h1
        right; omega)
      by_cases h3 : j < (sK κ ps k).length
      · rw [pY_app h3, pA_app h3]; exact ih j h3
      · have h4 : j = k := by omega
        rw [pY_app2 (by omega), pA_app2 (by omega), show j - (sK κ ps k).length = 0 by omega, h4]
        exact ⟨rfl, rfl⟩
    · rename_i h1
      rw [if_neg h1] at hj
      exact ih j hj
theorem qT_sK (κ : Nat) (ps : List (Nat × Nat)) : ∀ k, qT (sK κ ps k) = min κ (qS ps k)
  | 0 => by show 0 = min κ 0; omega
  | k + 1 => by
    have ih := qT_sK κ ps k
    unfold sK
    rw [qS_s]
    split
    · rename_i h; rw [qT_snoc, ih]; unfold tk at h ⊢; omega
    · rename_i h; rw [ih]; unfold tk at h; omega
theorem qT_sR (κ : Nat) (ps : List (Nat × Nat)) : ∀ k, qT (sR κ ps k) = qS ps k - κ
  | 0 => by show 0 = 0 - κ; omega
  | k + 1 => by
    have ih := qT_sR κ ps k
    unfold sR
    rw [qS_s]
    split
    · rename_i h; rw [qT_snoc, ih]; unfold tk at h ⊢; omega
    · rename_i h; rw [ih]; unfold tk at h; omega
theorem sK_ok {κ : Nat} {ps : List (Nat × Nat)} (hp : piOk ps) : ∀ k, k ≤ ps.length → piOk (sK κ ps k)
  | 0, _ => piOk_0
  | k + 1, h => by
    have ih := sK_ok hp k (by omega) (κ := κ)
    have h1 := hp k (by omega)
    unfold sK
    split
    · rename_i h2
      exact piOk_snoc ih h2 (by unfold tk; omega) h1.2.2
    · exact ih
theorem sR_ok {κ : Nat} {ps : List (Nat × Nat)} (hp : piOk ps) : ∀ k, k ≤ ps.length → piOk (sR κ ps k)
  | 0, _ => piOk_0
  | k + 1, h => by
    have ih := sR_ok hp k (by omega) (κ := κ)
    have h1 := hp k (by omega)
    unfold sR
    split
    · rename_i h2
      exact piOk_snoc ih (by omega) (by omega) h1.2.2
    · exact ih
theorem RoD.snoc {u : mS} {x : Nat} {o b : Option Nat} {hy : Bool} {sl : Nat} {ps : List (Nat × Nat)} {y g : Nat} (hS : RoS u x) (h : RoD u x (o, b, hy, sl, ps)) (hN : ps.length < 8) : ∃ t, fX3_add x (nI y) (nI g) u = some ((), t) ∧ FI (rAt x) u t ∧ RoD t x (o, b, hy, sl, ps ++ [(y, g)]) := t_add hS h hN
abbrev xy (x y : Nat) : Nat → Prop := fun b => rAt x b ∨ rAt y b
/-- half way through the split of x -/
def SpI (s : mS) (x y κ : Nat) (ρ : rR) (k : Nat) (u : mS) : Prop := FI (xy x y) s u ∧ sI u x = sI s x ∧ sI u (x + 2) = sI s (x + 2) ∧ (∀ j, k ≤ j → sI u (x + 1) j = sI s (x + 1) j) ∧ (∀ j, j < (sK κ (rP ρ) k).length → sI u (x + 1) j = nI (tk κ (rP ρ) j)) ∧ RoD u y (rO ρ, none, false, rS ρ, sR κ (rP ρ) k)
theorem t_splitAt {s : mS} {x y κ : Nat} {ρ : rR} (hS : RoS s x) (hD : RoD s x ρ) (hI : rI ρ) (hS2 : RoS s y) (hxy : x + 2 < y ∨ y + 2 < x) (hκ : κ < 2147483648) : ∃ t, fX3_splitAt x (nI κ) y s = some ((), t) ∧ FI (xy x y) s t ∧ RoD t x (rO ρ, rB ρ, rH ρ, rS ρ, sK κ (rP ρ) (rN ρ)) ∧ RoD t y (rO ρ, none, false, rS ρ, sR κ (rP ρ) (rN ρ)) := by
  have i1 := hI.1
  have hp : ∀ j, j < (rP ρ).length → 1 ≤ pY (rP ρ) j := fun j hj => (hI.2.1 j hj).1
  have hb := rL_b hI
  obtain ⟨d0, d1, d2, d3, d4, d5, d6⟩ := hD
  obtain ⟨t1, e1, e2, e3⟩ := t_clear hS2
  have hS2t := hS2.mv e2.2
  have hSt := hS.mv e2.2
  have f0 := e2.1 x (by show ¬ (x = y ∨ x = y + 1 ∨ x = y + 2); omega)
  have f1 := e2.1 (x + 1) (by show ¬ (x + 1 = y ∨ x + 1 = y + 1 ∨ x + 1 = y + 2); omega)
  have f2 := e2.1 (x + 2) (by show ¬ (x + 2 = y ∨ x + 2 = y + 1 ∨ x + 2 = y + 2); omega)
  obtain ⟨z0, z1, z2, z3, z4, z5, z6⟩ := e3
  unfold fX3_splitAt
  rw [x_callV hS2.1 e1, xGIe hSt.1 (show sI t1 x 0 = oI (rO ρ) by rw [f0]; exact d0), xPI hS2t.1, xGIe (s := wI t1 y 0 (oI (rO ρ))) (x := nI (rS ρ)) hSt.1 (by rw [sI_wI_ne (Or.inl (by omega)), f0]; exact d5), xPI (s := wI t1 y 0 (oI (rO ρ))) hS2t.1]
  have key := loop_s (fun n k => fX3_splitAt_28 n x (nI κ) y (nI (sK κ (rP ρ) k).length) (nI (qS (rP ρ) k)) (nI k)) (SpI s x y κ ρ) (rN ρ) (fun q => FI (xy x y) s q.2 ∧ RoD q.2 x (rO ρ, rB ρ, rH ρ, rS ρ, sK κ (rP ρ) (rN ρ)) ∧ RoD q.2 y (rO ρ, none, false, rS ρ, sR κ (rP ρ) (rN ρ))) ?_ ?_ fu 0 (wI (wI t1 y 0 (oI (rO ρ))) y 5 (nI (rS ρ))) (by omega) (by unfold fu; omega) ?_
  · obtain ⟨⟨⟨⟩, t⟩, h3, h4⟩ := key
    exact ⟨t, h3, h4⟩
  · rintro n k u hk ⟨hF, h0, h2, h1, hk1, hy⟩
    have hk' : ¬ rN ρ ≤ k := by omega
    have hSu := hS.mv hF.2
    have hS2u := hS2.mv hF.2
    have iy := hI.2.1 k hk
    have iq := qS_b hI k (by omega)
    have iq1 := qS_b hI (k + 1) (by omega)
    have iqs := qS_s (rP ρ) k
    have lk := sK_le κ (rP ρ) k
    have lr := sR_le κ (rP ρ) k
    have eY : sI u (x + 1) k = nI (pY (rP ρ) k) := by rw [h1 k (Nat.le_refl _)]; exact (d6 k hk).1
    have eA : sI u (x + 2) k = nI (pA (rP ρ) k) := by rw [h2]; exact (d6 k hk).2
    have eN : sI u x 2 = nI (rN ρ) := by rw [h0]; exact d2
    -- what goes to the other rope
    have hadd : ∃ u1, FI (rAt y) u u1 ∧ RoD u1 y (rO ρ, none, false, rS ρ, sR κ (rP ρ) (k + 1)) ∧ fX3_splitAt_28 (n + 1) x (nI κ) y (nI (sK κ (rP ρ) k).length) (nI (qS (rP ρ) k)) (nI k) u = fX3_splitAt_75 (fX3_splitAt_28 n) x (nI κ) y (nI (sK κ (rP ρ) k).length) (nI (qS (rP ρ) k)) (nI k) (nI (qS (rP ρ) (k + 1))) u1 := by
      rw [qX3_splitAt_28]
      by_cases hc : qS (rP ρ) (k + 1) ≤ κ
      · refine ⟨u, FI.rf, ?_, ?_⟩
        · show RoD u y (rO ρ, none, false, rS ρ, sR κ (rP ρ) (k + 1))
          unfold sR
          rw [if_neg (by unfold tk; omega)]
          exact hy
        · simp (disch := omega) only [xGIe hSu.1 eN, xGR hSu.1 hSu.2.1, xAIe hSu.2.2.2.1 (show k < 8 by omega) (by decide) eY, li_0, li_1, li_2, li_3, li_4, li_5, li_6, li_7, li_8, li_9, li_10, li_11, li_12, li_13, li_14, li_15, li_16, li_17, li_20, li_24, li_25, li_29, li_31, li_32, li_33, li_37, li_40, li_41, li_48, li_49, li_50, li_56, li_57, li_59, li_60, li_61, li_62, li_63, li_70, li_73, li_85, li_97, li_98, li_99, li_100, li_101, li_102, li_103, li_104, li_105, li_107, li_108, li_109, li_110, li_111, li_112, li_114, li_115, li_116, li_117, li_118, li_119, li_121, li_122, li_140, li_193, li_200, li_240, li_255, li_289, li_290, li_300, li_302, li_314, li_326, li_860, li_880, li_900, li_999, li_1024, li_2801, li_3440, li_3441, li_3442, li_3443, li_3444, li_3447, li_3448, li_3449, li_3457, li_3465, li_3469, li_3473, li_3477, li_3501, li_3513, li_3525, li_3537, li_3633, li_3730, li_3742, li_3754, li_3766, li_4095, li_4096, li_4300, li_9011, li_9999, li_10000, li_36864, li_65536, li_1000000, ll_0, ll_1, ll_100, ll_11, ll_16, ll_20, ll_3, ll_32, ll_50, ll_8, ll_96, ll_99, ll_9999, ne_m1, e_if, e_ret, e_rz0, e_rz1, e_rzb, e_call, bCallX_eq, nI_add, nI_mul, nI_succ1, le_i, lt_i, eq_i, m1_i, m1_le, m1_lt, m1_ge, m1_eq, ite_true, ite_false, if_true, if_false, hk']
          rw [← qS_s]
          simp only [hc, if_true]
      · obtain ⟨t, g1, g2, g3⟩ := RoD.snoc (y := pY (rP ρ) k - tk κ (rP ρ) k) (g := pA (rP ρ) k) hS2u hy (by omega)
        refine ⟨t, g2, ?_, ?_⟩
        · unfold sR
          rw [if_pos (by unfold tk; omega)]
          exact g3
        · have ea : qS (rP ρ) k + pY (rP ρ) k - max (qS (rP ρ) k) κ = pY (rP ρ) k - tk κ (rP ρ) k := by unfold tk; omega
          simp (disch := omega) only [xGIe hSu.1 eN, xGR hSu.1 hSu.2.1, xGR hSu.1 hSu.2.2.1, xAIe hSu.2.2.2.1 (show k < 8 by omega) (by decide) eY, xAIe hSu.2.2.2.2 (show k < 8 by omega) (by decide) eA, li_0, li_1, li_2, li_3, li_4, li_5, li_6, li_7, li_8, li_9, li_10, li_11, li_12, li_13, li_14, li_15, li_16, li_17, li_20, li_24, li_25, li_29, li_31, li_32, li_33, li_37, li_40, li_41, li_48, li_49, li_50, li_56, li_57, li_59, li_60, li_61, li_62, li_63, li_70, li_73, li_85, li_97, li_98, li_99, li_100, li_101, li_102, li_103, li_104, li_105, li_107, li_108, li_109, li_110, li_111, li_112, li_114, li_115, li_116, li_117, li_118, li_119, li_121, li_122, li_140, li_193, li_200, li_240, li_255, li_289, li_290, li_300, li_302, li_314, li_326, li_860, li_880, li_900, li_999, li_1024, li_2801, li_3440, li_3441, li_3442, li_3443, li_3444, li_3447, li_3448, li_3449, li_3457, li_3465, li_3469, li_3473, li_3477, li_3501, li_3513, li_3525, li_3537, li_3633, li_3730, li_3742, li_3754, li_3766, li_4095, li_4096, li_4300, li_9011, li_9999, li_10000, li_36864, li_65536, li_1000000, ll_0, ll_1, ll_100, ll_11, ll_16, ll_20, ll_3, ll_32, ll_50, ll_8, ll_96, ll_99, ll_9999, ne_m1, e_if, e_ret, e_rz0, e_rz1, e_rzb, e_call, bCallX_eq, nI_add, nI_mul, nI_succ1, le_i, lt_i, eq_i, m1_i, m1_le, m1_lt, m1_ge, m1_eq, ite_true, ite_false, if_true, if_false, hk', jMax_i, sub_i, ea]
          rw [if_neg (by omega), x_callV hS2u.1 g1]
          rfl
    obtain ⟨u1, g1, g2, g3⟩ := hadd
    have hSu1 := hSu.mv g1.2
    have k0 := g1.1 x (by show ¬ (x = y ∨ x = y + 1 ∨ x = y + 2); omega)
    have k1 := g1.1 (x + 1) (by show ¬ (x + 1 = y ∨ x + 1 = y + 1 ∨ x + 1 = y + 2); omega)
    have k2 := g1.1 (x + 2) (by show ¬ (x + 2 = y ∨ x + 2 = y + 1 ∨ x + 2 = y + 2); omega)
    have hFu1 : FI (xy x y) s u1 := hF.tr (g1.mo fun b h => Or.inr h)
    by_cases hc : κ ≤ qS (rP ρ) k
    · have eK : sK κ (rP ρ) (k + 1) = sK κ (rP ρ) k := by
        show (if 0 < tk κ (rP ρ) k then _ else _) = _
        rw [if_neg (by unfold tk; omega)]
      refine ⟨u1, ⟨hFu1, k0.trans h0, k2.trans h2, fun j hj => by rw [k1]; exact h1 j (by omega), fun j hj => ?_, g2⟩, ?_⟩
      · rw [eK] at hj; rw [k1]; exact hk1 j hj
      · refine g3.trans ?_
        unfold fX3_splitAt_75 fX3_splitAt_102
        simp (disch := omega) only [li_0, li_1, li_2, li_3, li_4, li_5, li_6, li_7, li_8, li_9, li_10, li_11, li_12, li_13, li_14, li_15, li_16, li_17, li_20, li_24, li_25, li_29, li_31, li_32, li_33, li_37, li_40, li_41, li_48, li_49, li_50, li_56, li_57, li_59, li_60, li_61, li_62, li_63, li_70, li_73, li_85, li_97, li_98, li_99, li_100, li_101, li_102, li_103, li_104, li_105, li_107, li_108, li_109, li_110, li_111, li_112, li_114, li_115, li_116, li_117, li_118, li_119, li_121, li_122, li_140, li_193, li_200, li_240, li_255, li_289, li_290, li_300, li_302, li_314, li_326, li_860, li_880, li_900, li_999, li_1024, li_2801, li_3440, li_3441, li_3442, li_3443, li_3444, li_3447, li_3448, li_3449, li_3457, li_3465, li_3469, li_3473, li_3477, li_3501, li_3513, li_3525, li_3537, li_3633, li_3730, li_3742, li_3754, li_3766, li_4095, li_4096, li_4300, li_9011, li_9999, li_10000, li_36864, li_65536, li_1000000, ll_0, ll_1, ll_100, ll_11, ll_16, ll_20, ll_3, ll_32, ll_50, ll_8, ll_96, ll_99, ll_9999, ne_m1, e_if, e_ret, e_rz0, e_rz1, e_rzb, e_call, bCallX_eq, nI_add, nI_mul, nI_succ1, le_i, lt_i, eq_i, m1_i, m1_le, m1_lt, m1_ge, m1_eq, ite_true, ite_false, if_true, if_false, hc, eK]
    · have e9 : (sK κ (rP ρ) k).length = k := sK_full hp k (Nat.le_of_lt hk) (by
        have := qS_mo (rP ρ) (j := k - 1) k (by omega)
        right; omega)
      have eK : sK κ (rP ρ) (k + 1) = sK κ (rP ρ) k ++ [(tk κ (rP ρ) k, pA (rP ρ) k)] := by
        show (if 0 < tk κ (rP ρ) k then _ else _) = _
        rw [if_pos (by unfold tk; omega)]
      have et : min (qS (rP ρ) (k + 1)) κ - qS (rP ρ) k = tk κ (rP ρ) k := by unfold tk; omega
      refine ⟨wI u1 (x + 1) k (nI (tk κ (rP ρ) k)), ⟨hFu1.tr (FI.w k _ (Or.inl (Or.inr (Or.inl rfl)))), ?_, ?_, fun j hj => ?_, fun j hj => ?_, ?_⟩, ?_⟩
      · funext i; rw [sI_wI_ne (Or.inl (by omega)), k0, h0]
      · funext i; rw [sI_wI_ne (Or.inl (by omega)), k2, h2]
      · rw [sI_wI_ne (Or.inr (by omega)), k1]; exact h1 j (by omega)
      · rw [eK, snoc_len] at hj
        by_cases hj2 : j = k
        · subst hj2; rw [sI_wI_eq]
        · rw [sI_wI_ne (Or.inr hj2), k1]; exact hk1 j (by omega)
      · exact g2.mv (by funext i; exact sI_wI_ne (Or.inl (by omega))) (by funext i; exact sI_wI_ne (Or.inl (by omega))) (by funext i; exact sI_wI_ne (Or.inl (by omega)))
      · refine g3.trans ?_
        unfold fX3_splitAt_75 fX3_splitAt_102
        simp (disch := omega) only [li_0, li_1, li_2, li_3, li_4, li_5, li_6, li_7, li_8, li_9, li_10, li_11, li_12, li_13, li_14, li_15, li_16, li_17, li_20, li_24, li_25, li_29, li_31, li_32, li_33, li_37, li_40, li_41, li_48, li_49, li_50, li_56, li_57, li_59, li_60, li_61, li_62, li_63, li_70, li_73, li_85, li_97, li_98, li_99, li_100, li_101, li_102, li_103, li_104, li_105, li_107, li_108, li_109, li_110, li_111, li_112, li_114, li_115, li_116, li_117, li_118, li_119, li_121, li_122, li_140, li_193, li_200, li_240, li_255, li_289, li_290, li_300, li_302, li_314, li_326, li_860, li_880, li_900, li_999, li_1024, li_2801, li_3440, li_3441, li_3442, li_3443, li_3444, li_3447, li_3448, li_3449, li_3457, li_3465, li_3469, li_3473, li_3477, li_3501, li_3513, li_3525, li_3537, li_3633, li_3730, li_3742, li_3754, li_3766, li_4095, li_4096, li_4300, li_9011, li_9999, li_10000, li_36864, li_65536, li_1000000, ll_0, ll_1, ll_100, ll_11, ll_16, ll_20, ll_3, ll_32, ll_50, ll_8, ll_96, ll_99, ll_9999, ne_m1, e_if, e_ret, e_rz0, e_rz1, e_rzb, e_call, bCallX_eq, nI_add, nI_mul, nI_succ1, le_i, lt_i, eq_i, m1_i, m1_le, m1_lt, m1_ge, m1_eq, ite_true, ite_false, if_true, if_false, hc, eK, snoc_len, e9, xGR hSu1.1 hSu1.2.1, xSI hSu1.2.2.2.1 (show k < 8 by omega) (by decide), jMin_i, sub_i, et]
  · rintro n u ⟨hF, h0, h2, h1, hk1, hy⟩
    have hSu := hS.mv hF.2
    have hS2u := hS2.mv hF.2
    have lk := sK_le κ (rP ρ) (rN ρ)
    have eN : sI u x 2 = nI (rN ρ) := by rw [h0]; exact d2
    refine ⟨((), wI (wI u x 2 (nI (sK κ (rP ρ) (rN ρ)).length)) x 3 (nI (min (rL ρ) κ))), ?_, ?_, ?_, ?_⟩
    · show fX3_splitAt_28 (n + 1) x _ y _ _ _ u = _
      rw [qX3_splitAt_28]
      unfold fX3_splitAt_112
      simp (disch := omega) only [xGIe hSu.1 eN, li_0, li_1, li_2, li_3, li_4, li_5, li_6, li_7, li_8, li_9, li_10, li_11, li_12, li_13, li_14, li_15, li_16, li_17, li_20, li_24, li_25, li_29, li_31, li_32, li_33, li_37, li_40, li_41, li_48, li_49, li_50, li_56, li_57, li_59, li_60, li_61, li_62, li_63, li_70, li_73, li_85, li_97, li_98, li_99, li_100, li_101, li_102, li_103, li_104, li_105, li_107, li_108, li_109, li_110, li_111, li_112, li_114, li_115, li_116, li_117, li_118, li_119, li_121, li_122, li_140, li_193, li_200, li_240, li_255, li_289, li_290, li_300, li_302, li_314, li_326, li_860, li_880, li_900, li_999, li_1024, li_2801, li_3440, li_3441, li_3442, li_3443, li_3444, li_3447, li_3448, li_3449, li_3457, li_3465, li_3469, li_3473, li_3477, li_3501, li_3513, li_3525, li_3537, li_3633, li_3730, li_3742, li_3754, li_3766, li_4095, li_4096, li_4300, li_9011, li_9999, li_10000, li_36864, li_65536, li_1000000, ll_0, ll_1, ll_100, ll_11, ll_16, ll_20, ll_3, ll_32, ll_50, ll_8, ll_96, ll_99, ll_9999, ne_m1, e_if, e_ret, e_rz0, e_rz1, e_rzb, e_call, bCallX_eq, nI_add, nI_mul, nI_succ1, le_i, lt_i, eq_i, m1_i, m1_le, m1_lt, m1_ge, m1_eq, ite_true, ite_false, if_true, if_false, Nat.le_refl, xPI hSu.1]
      rw [xGIe (s := wI u x 2 (nI (sK κ (rP ρ) (rN ρ)).length)) (x := nI (rL ρ)) hSu.1 (by rw [sI_wI_ne (Or.inr (by omega)), h0]; exact d3), xPI (s := wI u x 2 (nI (sK κ (rP ρ) (rN ρ)).length)) hSu.1, jMin_i (by omega) (by omega)]
      rfl
    · exact (hF.tr (FI.w 2 _ (Or.inl (Or.inl rfl)))).tr (FI.w 3 _ (Or.inl (Or.inl rfl)))
    · refine ⟨?_, ?_, ?_, ?_, ?_, ?_, fun k hk => ?_⟩
      · simp (disch := omega) only [sI_wI_ne, h0]; exact d0
      · simp (disch := omega) only [sI_wI_ne, h0]; exact d1
      · simp (disch := omega) only [sI_wI_eq, sI_wI_ne]
      · simp (disch := omega) only [sI_wI_eq]
        show _ = nI (qT (sK κ (rP ρ) (rN ρ)))
        rw [qT_sK, Nat.min_comm]; rfl
      · simp (disch := omega) only [sI_wI_ne, h0]; exact d4
      · simp (disch := omega) only [sI_wI_ne, h0]; exact d5
      · have hk : k < (sK κ (rP ρ) (rN ρ)).length := hk
        simp (disch := omega) only [sI_wI_ne, h2]
        obtain ⟨g1, g2⟩ := sK_get hp (rN ρ) (Nat.le_refl _) k hk
        show _ = nI (pY (sK κ (rP ρ) (rN ρ)) k) ∧ _ = nI (pA (sK κ (rP ρ) (rN ρ)) k)
        rw [g1, g2]
        exact ⟨hk1 k hk, (d6 k (by omega)).2⟩
    · exact hy.mv (by funext i; simp (disch := omega) only [sI_wI_ne]) (by funext i; simp (disch := omega) only [sI_wI_ne]) (by funext i; simp (disch := omega) only [sI_wI_ne])
  · refine ⟨((e2.mo fun b h => Or.inr h).tr (FI.w 0 _ (Or.inr (Or.inl rfl)))).tr (FI.w 5 _ (Or.inr (Or.inl rfl))), ?_, ?_, fun j _ => ?_, fun j hj => absurd hj (by show ¬ j < 0; omega), ?_⟩
    · funext i; simp (disch := omega) only [sI_wI_ne, f0]
    · funext i; simp (disch := omega) only [sI_wI_ne, f2]
    · simp (disch := omega) only [sI_wI_ne, f1]
    · refine ⟨?_, ?_, ?_, ?_, ?_, ?_, fun k hk => absurd hk (by show ¬ k < 0; omega)⟩ <;> simp (disch := omega) only [sI_wI_eq, sI_wI_ne]
      · exact z1
      · exact z2
      · exact z3
      · exact z4

/-! WHOM A LAW NAMES: the class over all rules, the reference -/
theorem getD_mid {A B : List Int32} {x : Int32} : (A ++ x :: B).getD A.length 0 = x := by
  rw [List.getD_eq_getElem?_getD, List.getElem?_append_right (Nat.le_refl _), Nat.sub_self]
  rfl
theorem l_run {s : mS} {b g : Nat} {V : List Int32} {fx : Nat → Nat} (hL : LaC s b V) (hH : sH s g = (11, 8)) (hF : ∀ i, i < 8 → sI s g i = nI (fx i)) (hb : ∀ i, fx i ≤ 1600) : ∀ (l : List (Nat × Nat × Nat)) (st : List Bool) (A B : List Int32) (n : Nat), (∀ x ∈ l, sOk x) → V = A ++ (l.map lCode ++ B) → sWf st.length l → st.length ≤ 24 → fX0_whomFor_4 (n + l.length) b g (nI (sE st)) (nI A.length) s = fX0_whomFor_4 n b g (nI (sE (sRun fx st l))) (nI (A.length + l.length)) s
  | [], st, A, B, n, _, _, _, _ => rfl
  | q :: l, st, A, B, n, hq, hV, hw, h24 => by
    have hst := sStep_len (fx := fx) hw
    have e1 := l_step hL hH hF hb (hq q List.mem_cons_self) (o := A.length) (by rw [hV]; simp) (by rw [hV]; exact getD_mid) hw h24 (n + l.length)
    have e2 := l_run hL hH hF hb l (sStep fx st q) (A ++ [lCode q]) B n (fun x hx => hq x (List.mem_cons_of_mem _ hx)) (by rw [hV]; simp) hst.1 (hst.2 h24)
    rw [show n + (q :: l).length = n + l.length + 1 by simp; omega, e1]
    rw [show (A ++ [lCode q]).length = A.length + 1 by simp] at e2
    rw [e2]
    show _ = fX0_whomFor_4 n b g (nI (sE (sRun fx (sStep fx st q) l))) _ s
    rw [show A.length + (q :: l).length = A.length + 1 + l.length by simp; omega]
theorem l_rules {s : mS} {b g : Nat} {V : List Int32} {fx : Nat → Nat} (hL : LaC s b V) (hH : sH s g = (11, 8)) (hF : ∀ i, i < 8 → sI s g i = nI (fx i)) (hb : ∀ i, fx i ≤ 1600) : ∀ (L : List (List (Nat × Nat × Nat) × Nat)) (A : List Int32) (n : Nat), (∀ q ∈ L, q.2 ≤ 4 ∧ sWf 0 q.1 ∧ ∀ x ∈ q.1, sOk x) → V = A ++ lEnc L → fX0_whomFor_4 (n + (lEnc L).length + 1) b g (nI 0) (nI A.length) s = some (nI (lWhom fx L), s)
  | [], A, n, _, hV => by
    obtain ⟨k1, k2, k3, k4, k5⟩ := hL
    have hA : V.length = A.length := by rw [hV]; simp [lEnc]
    rw [qX0_whomFor_4]
    simp (disch := omega) only [xGR k1 k2, xLen k3, li_0, li_1, li_2, li_3, li_4, li_5, li_6, li_7, li_8, li_9, li_10, li_11, li_12, li_13, li_14, li_15, li_16, li_17, li_20, li_24, li_25, li_29, li_31, li_32, li_33, li_37, li_40, li_41, li_48, li_49, li_50, li_56, li_57, li_59, li_60, li_61, li_62, li_63, li_70, li_73, li_85, li_97, li_98, li_99, li_100, li_101, li_102, li_103, li_104, li_105, li_107, li_108, li_109, li_110, li_111, li_112, li_114, li_115, li_116, li_117, li_118, li_119, li_121, li_122, li_140, li_193, li_200, li_240, li_255, li_289, li_290, li_300, li_302, li_314, li_326, li_860, li_880, li_900, li_999, li_1024, li_2801, li_3440, li_3441, li_3442, li_3443, li_3444, li_3447, li_3448, li_3449, li_3457, li_3465, li_3469, li_3473, li_3477, li_3501, li_3513, li_3525, li_3537, li_3633, li_3730, li_3742, li_3754, li_3766, li_4095, li_4096, li_4300, li_9011, li_9999, li_10000, li_36864, li_65536, li_1000000, ll_0, ll_1, ll_100, ll_11, ll_16, ll_20, ll_3, ll_32, ll_50, ll_8, ll_96, ll_99, ll_9999, ne_m1, e_if, e_ret, e_rz0, e_rz1, e_rzb, e_call, bCallX_eq, nI_add, nI_mul, nI_succ1, le_i, lt_i, eq_i, m1_i, m1_le, m1_lt, m1_ge, m1_eq, ite_true, ite_false, if_true, if_false, hA, Nat.le_refl]
    rfl
  | q :: L, A, n, hq, hV => by
    obtain ⟨k1, k2, k3, k4, k5⟩ := hL
    obtain ⟨q1, q2, q3⟩ := hq q List.mem_cons_self
    have hE : lEnc (q :: L) = q.1.map lCode ++ (nI (4 + q.2 * 16) :: lEnc L) := by
      unfold lEnc
      rw [List.flatMap_cons, List.append_assoc]
      rfl
    rw [hE] at hV
    have e1 := l_run ⟨k1, k2, k3, k4, k5⟩ hH hF hb q.1 [] A (nI (4 + q.2 * 16) :: lEnc L) (n + (lEnc L).length + 2) q3 hV q2 (by decide)
    have hl : (lEnc (q :: L)).length = q.1.length + (1 + (lEnc L).length) := by rw [hE]; simp; omega
    rw [hl, show n + (q.1.length + (1 + (lEnc L).length)) + 1 = n + (lEnc L).length + 2 + q.1.length by omega]
    have e1' : fX0_whomFor_4 (n + (lEnc L).length + 2 + q.1.length) b g (nI 0) (nI A.length) s = fX0_whomFor_4 (n + (lEnc L).length + 2) b g (nI (sE (sRun fx [] q.1))) (nI (A.length + q.1.length)) s := e1
    rw [e1']
    have h1 := sRun_len (fx := fx) q.1 [] q2
    obtain ⟨b0, hb0⟩ : ∃ b0, sRun fx [] q.1 = [b0] := by
      match h5 : sRun fx [] q.1, h1 with
      | [b0], _ => exact ⟨b0, rfl⟩
    have hlt : A.length + q.1.length < V.length := by rw [hV]; simp
    have hv : sI s (b + 1) (A.length + q.1.length) = nI (4 + q.2 * 16) := by
      rw [k5 _ hlt, hV, ← List.append_assoc]
      have := getD_mid (A := A ++ q.1.map lCode) (x := nI (4 + q.2 * 16)) (B := lEnc L)
      rw [List.length_append, List.length_map] at this
      exact this
    have ih := l_rules ⟨k1, k2, k3, k4, k5⟩ hH hF hb L (A ++ q.1.map lCode ++ [nI (4 + q.2 * 16)]) n (fun x hx => hq x (List.mem_cons_of_mem _ hx)) (by rw [hV]; simp)
    rw [show (A ++ q.1.map lCode ++ [nI (4 + q.2 * 16)]).length = A.length + q.1.length + 1 by simp; omega] at ih
    have hs : sE [b0] = b0.toNat := by cases b0 <;> rfl
    have hbn : b0.toNat ≤ 1 := by cases b0 <;> decide
    have ha : nI b0.toNat &&& nI 1 = nI b0.toNat := by cases b0 <;> decide
    rw [hb0, hs, qX0_whomFor_4]
    simp (disch := omega) only [xGR k1 k2, xLen k3, li_0, li_1, li_2, li_3, li_4, li_5, li_6, li_7, li_8, li_9, li_10, li_11, li_12, li_13, li_14, li_15, li_16, li_17, li_20, li_24, li_25, li_29, li_31, li_32, li_33, li_37, li_40, li_41, li_48, li_49, li_50, li_56, li_57, li_59, li_60, li_61, li_62, li_63, li_70, li_73, li_85, li_97, li_98, li_99, li_100, li_101, li_102, li_103, li_104, li_105, li_107, li_108, li_109, li_110, li_111, li_112, li_114, li_115, li_116, li_117, li_118, li_119, li_121, li_122, li_140, li_193, li_200, li_240, li_255, li_289, li_290, li_300, li_302, li_314, li_326, li_860, li_880, li_900, li_999, li_1024, li_2801, li_3440, li_3441, li_3442, li_3443, li_3444, li_3447, li_3448, li_3449, li_3457, li_3465, li_3469, li_3473, li_3477, li_3501, li_3513, li_3525, li_3537, li_3633, li_3730, li_3742, li_3754, li_3766, li_4095, li_4096, li_4300, li_9011, li_9999, li_10000, li_36864, li_65536, li_1000000, ll_0, ll_1, ll_100, ll_11, ll_16, ll_20, ll_3, ll_32, ll_50, ll_8, ll_96, ll_99, ll_9999, ne_m1, e_if, e_ret, e_rz0, e_rz1, e_rzb, e_call, bCallX_eq, nI_add, nI_mul, nI_succ1, le_i, lt_i, eq_i, m1_i, m1_le, m1_lt, m1_ge, m1_eq, ite_true, ite_false, if_true, if_false, show ¬ V.length ≤ A.length + q.1.length by omega, xAIe k3 hlt (by omega) hv, and15, e_swc, e_sw0, show (4 + q.2 * 16) % 16 = 4 by omega, show ¬ (4 : Nat) = 0 by decide, show ¬ (4 : Nat) = 0 + 1 by decide, show ¬ (4 : Nat) = 0 + 1 + 1 by decide, show ¬ (4 : Nat) = 0 + 1 + 1 + 1 by decide, ha, bt1]
    show _ = some (nI (if sHd (sRun fx [] q.1) then q.2 else lWhom fx L), s)
    rw [hb0]
    cases b0 with
    | true =>
      unfold fX0_whomFor_118
      simp (disch := omega) only [sHd, if_true, xGR k1 k2, xAIe k3 hlt (by omega) hv, li_0, li_1, li_2, li_3, li_4, li_5, li_6, li_7, li_8, li_9, li_10, li_11, li_12, li_13, li_14, li_15, li_16, li_17, li_20, li_24, li_25, li_29, li_31, li_32, li_33, li_37, li_40, li_41, li_48, li_49, li_50, li_56, li_57, li_59, li_60, li_61, li_62, li_63, li_70, li_73, li_85, li_97, li_98, li_99, li_100, li_101, li_102, li_103, li_104, li_105, li_107, li_108, li_109, li_110, li_111, li_112, li_114, li_115, li_116, li_117, li_118, li_119, li_121, li_122, li_140, li_193, li_200, li_240, li_255, li_289, li_290, li_300, li_302, li_314, li_326, li_860, li_880, li_900, li_999, li_1024, li_2801, li_3440, li_3441, li_3442, li_3443, li_3444, li_3447, li_3448, li_3449, li_3457, li_3465, li_3469, li_3473, li_3477, li_3501, li_3513, li_3525, li_3537, li_3633, li_3730, li_3742, li_3754, li_3766, li_4095, li_4096, li_4300, li_9011, li_9999, li_10000, li_36864, li_65536, li_1000000, ll_0, ll_1, ll_100, ll_11, ll_16, ll_20, ll_3, ll_32, ll_50, ll_8, ll_96, ll_99, ll_9999, ne_m1, e_if, e_ret, e_rz0, e_rz1, e_rzb, e_call, bCallX_eq, nI_add, nI_mul, nI_succ1, le_i, lt_i, eq_i, m1_i, m1_le, m1_lt, m1_ge, m1_eq, ite_true, ite_false, if_true, if_false, shr_i, and15, pow_4, show (4 + q.2 * 16) / 16 % 16 = q.2 by omega] <;> rfl
    | false =>
      simp only [sHd, Bool.false_eq_true, if_false]
      exact ih
theorem lEnc_len : ∀ L : List (List (Nat × Nat × Nat) × Nat), (lEnc L).length = (lAll L).length + L.length
  | [] => rfl
  | q :: L => by
    have := lEnc_len L
    unfold lEnc lAll at this ⊢
    rw [List.flatMap_cons, List.flatMap_cons]
    simp at this ⊢
    omega
theorem LaD.c {s : mS} {b : Nat} {L : List (List (Nat × Nat × Nat) × Nat)} (h : LaD s b L) (hL : lOk L) (h0 : b ≠ 0) : LaC s b (lEnc L) := by
  rcases h with h | ⟨h1, h2, h3, h4, h5, h6⟩
  · exact absurd h.1 h0
  · have := lEnc_len L
    have := hL.1
    have := hL.2.1
    exact ⟨h2, h3, h5, by omega, h6⟩
theorem l_whomFor {s : mS} {b g : Nat} {L : List (List (Nat × Nat × Nat) × Nat)} {fx : Nat → Nat} (h : LaD s b L) (hL : lOk L) (h0 : b ≠ 0) (hH : sH s g = (11, 8)) (hF : ∀ i, i < 8 → sI s g i = nI (fx i)) (hb : ∀ i, fx i ≤ 1600) : fX0_whomFor b g s = some (nI (lWhom fx L), s) := by
  have hC := h.c hL h0
  have h1 := lEnc_len L
  have h2 := hL.1
  have h3 := hL.2.1
  unfold fX0_whomFor
  have := l_rules hC hH hF hb L [] (4999 - (lEnc L).length) hL.2.2 rfl
  rw [show 4999 - (lEnc L).length + (lEnc L).length + 1 = fu by unfold fu; omega] at this
  exact this
abbrev at121 : Nat → Prop := fun b => b = 121
theorem RX.st {s t : mS} {W : wW} (h : RX s W) (hF : t.2 = s.2) (h1 : sI t 118 = sI s 118) : RX t W := by
  refine ⟨h.1.mv hF, ?_⟩
  rw [h1]
  exact h.2
theorem x_isCase {s : mS} {W : wW} (h : RX s W) {r p w : Nat} {q : Nat × Nat × Nat} (hr : r < 12) (h0 : 0 < rN (wRo W r)) (hp : p < 8) (hw : w < 4000) (e0 : sI s 118 w = nI q.1) (e1 : sI s 118 (w + 1) = nI q.2.1) (e2 : sI s 118 (w + 2) = nI q.2.2) (hq : sOk q) (h8 : q.1 < 8) : fX9_isCase 113 (nI w) (nI r) (nI p) s = some (nI (sAsk (wFx W r (wHe W p)) q).toNat, s) := by
  have hfb := wFx_b h.wi r (wHe W p) q.1
  have hq2 := hq.2.1
  have hq3 := hq.2.2
  have hhe := wHe_lt h.wi p
  have end1 : ∀ v : Nat, v = wFx W r (wHe W p) q.1 → ¬ q.1 < 2 → fX9_isCase_124 113 (nI w) (nI v) s = some (nI (sAsk (wFx W r (wHe W p)) q).toNat, s) := by
    rintro v rfl c1
    unfold fX9_isCase_124 sAsk
    simp (disch := omega) only [r_c h, r_wa h, r_bo h, r_si h, r_ra h, r_rb h, r_yr h, r_dr h, r_pe h, r_fl h, r_pa h, r_di h, r_fr h, r_to h, r_by h, e_callV h.k, li_0, li_1, li_2, li_3, li_4, li_5, li_6, li_7, li_8, li_9, li_10, li_11, li_12, li_13, li_14, li_15, li_16, li_17, li_20, li_24, li_25, li_29, li_31, li_32, li_33, li_37, li_40, li_41, li_48, li_49, li_50, li_56, li_57, li_59, li_60, li_61, li_62, li_63, li_70, li_73, li_85, li_97, li_98, li_99, li_100, li_101, li_102, li_103, li_104, li_105, li_107, li_108, li_109, li_110, li_111, li_112, li_114, li_115, li_116, li_117, li_118, li_119, li_121, li_122, li_140, li_193, li_200, li_240, li_255, li_289, li_290, li_300, li_302, li_314, li_326, li_860, li_880, li_900, li_999, li_1024, li_2801, li_3440, li_3441, li_3442, li_3443, li_3444, li_3447, li_3448, li_3449, li_3457, li_3465, li_3469, li_3473, li_3477, li_3501, li_3513, li_3525, li_3537, li_3633, li_3730, li_3742, li_3754, li_3766, li_4095, li_4096, li_4300, li_9011, li_9999, li_10000, li_36864, li_65536, li_1000000, ll_0, ll_1, ll_100, ll_11, ll_16, ll_20, ll_3, ll_32, ll_50, ll_8, ll_96, ll_99, ll_9999, ne_m1, e_if, e_ret, e_rz0, e_rz1, e_rzb, e_call, bCallX_eq, nI_add, nI_mul, nI_succ1, le_i, lt_i, eq_i, m1_i, m1_le, m1_lt, m1_ge, m1_eq, ite_true, ite_false, if_true, if_false, r_n h (show w + 1 < 4300 by omega) e1, r_n h (show w + 2 < 4300 by omega) e2, c1]
    by_cases c2 : q.2.1 = 60
    · simp only [c2, if_true]
      exact ite_01 (by simp)
    · simp only [c2, if_false]
      by_cases c3 : q.2.1 = 62
      · simp only [c3, if_true]
        exact ite_01 (by simp)
      · simp only [c3, if_false]
        exact ite_10 (by simp)
  unfold fX9_isCase
  simp (disch := omega) only [r_c h, r_wa h, r_bo h, r_si h, r_ra h, r_rb h, r_yr h, r_dr h, r_pe h, r_fl h, r_pa h, r_di h, r_fr h, r_to h, r_by h, e_callV h.k, li_0, li_1, li_2, li_3, li_4, li_5, li_6, li_7, li_8, li_9, li_10, li_11, li_12, li_13, li_14, li_15, li_16, li_17, li_20, li_24, li_25, li_29, li_31, li_32, li_33, li_37, li_40, li_41, li_48, li_49, li_50, li_56, li_57, li_59, li_60, li_61, li_62, li_63, li_70, li_73, li_85, li_97, li_98, li_99, li_100, li_101, li_102, li_103, li_104, li_105, li_107, li_108, li_109, li_110, li_111, li_112, li_114, li_115, li_116, li_117, li_118, li_119, li_121, li_122, li_140, li_193, li_200, li_240, li_255, li_289, li_290, li_300, li_302, li_314, li_326, li_860, li_880, li_900, li_999, li_1024, li_2801, li_3440, li_3441, li_3442, li_3443, li_3444, li_3447, li_3448, li_3449, li_3457, li_3465, li_3469, li_3473, li_3477, li_3501, li_3513, li_3525, li_3537, li_3633, li_3730, li_3742, li_3754, li_3766, li_4095, li_4096, li_4300, li_9011, li_9999, li_10000, li_36864, li_65536, li_1000000, ll_0, ll_1, ll_100, ll_11, ll_16, ll_20, ll_3, ll_32, ll_50, ll_8, ll_96, ll_99, ll_9999, ne_m1, e_if, e_ret, e_rz0, e_rz1, e_rzb, e_call, bCallX_eq, nI_add, nI_mul, nI_succ1, le_i, lt_i, eq_i, m1_i, m1_le, m1_lt, m1_ge, m1_eq, ite_true, ite_false, if_true, if_false, r_n h (show w < 4300 by omega) e0]
  match h9 : q.1, h8 with
  | 0, _ =>
    simp (disch := omega) only [r_c h, r_wa h, r_bo h, r_si h, r_ra h, r_rb h, r_yr h, r_dr h, r_pe h, r_fl h, r_pa h, r_di h, r_fr h, r_to h, r_by h, e_callV h.k, li_0, li_1, li_2, li_3, li_4, li_5, li_6, li_7, li_8, li_9, li_10, li_11, li_12, li_13, li_14, li_15, li_16, li_17, li_20, li_24, li_25, li_29, li_31, li_32, li_33, li_37, li_40, li_41, li_48, li_49, li_50, li_56, li_57, li_59, li_60, li_61, li_62, li_63, li_70, li_73, li_85, li_97, li_98, li_99, li_100, li_101, li_102, li_103, li_104, li_105, li_107, li_108, li_109, li_110, li_111, li_112, li_114, li_115, li_116, li_117, li_118, li_119, li_121, li_122, li_140, li_193, li_200, li_240, li_255, li_289, li_290, li_300, li_302, li_314, li_326, li_860, li_880, li_900, li_999, li_1024, li_2801, li_3440, li_3441, li_3442, li_3443, li_3444, li_3447, li_3448, li_3449, li_3457, li_3465, li_3469, li_3473, li_3477, li_3501, li_3513, li_3525, li_3537, li_3633, li_3730, li_3742, li_3754, li_3766, li_4095, li_4096, li_4300, li_9011, li_9999, li_10000, li_36864, li_65536, li_1000000, ll_0, ll_1, ll_100, ll_11, ll_16, ll_20, ll_3, ll_32, ll_50, ll_8, ll_96, ll_99, ll_9999, ne_m1, e_if, e_ret, e_rz0, e_rz1, e_rzb, e_call, bCallX_eq, nI_add, nI_mul, nI_succ1, le_i, lt_i, eq_i, m1_i, m1_le, m1_lt, m1_ge, m1_eq, ite_true, ite_false, if_true, if_false, r_ho h hr h0, bt1]
    unfold sAsk
    rw [h9]
    refine ite_10 ?_
    show rH (wRo W r) = true ↔ decide ((rH (wRo W r)).toNat = 1) = true
    cases rH (wRo W r) <;> simp
  | 1, _ =>
    simp (disch := omega) only [r_c h, r_wa h, r_bo h, r_si h, r_ra h, r_rb h, r_yr h, r_dr h, r_pe h, r_fl h, r_pa h, r_di h, r_fr h, r_to h, r_by h, e_callV h.k, li_0, li_1, li_2, li_3, li_4, li_5, li_6, li_7, li_8, li_9, li_10, li_11, li_12, li_13, li_14, li_15, li_16, li_17, li_20, li_24, li_25, li_29, li_31, li_32, li_33, li_37, li_40, li_41, li_48, li_49, li_50, li_56, li_57, li_59, li_60, li_61, li_62, li_63, li_70, li_73, li_85, li_97, li_98, li_99, li_100, li_101, li_102, li_103, li_104, li_105, li_107, li_108, li_109, li_110, li_111, li_112, li_114, li_115, li_116, li_117, li_118, li_119, li_121, li_122, li_140, li_193, li_200, li_240, li_255, li_289, li_290, li_300, li_302, li_314, li_326, li_860, li_880, li_900, li_999, li_1024, li_2801, li_3440, li_3441, li_3442, li_3443, li_3444, li_3447, li_3448, li_3449, li_3457, li_3465, li_3469, li_3473, li_3477, li_3501, li_3513, li_3525, li_3537, li_3633, li_3730, li_3742, li_3754, li_3766, li_4095, li_4096, li_4300, li_9011, li_9999, li_10000, li_36864, li_65536, li_1000000, ll_0, ll_1, ll_100, ll_11, ll_16, ll_20, ll_3, ll_32, ll_50, ll_8, ll_96, ll_99, ll_9999, ne_m1, e_if, e_ret, e_rz0, e_rz1, e_rzb, e_call, bCallX_eq, nI_add, nI_mul, nI_succ1, le_i, lt_i, eq_i, m1_i, m1_le, m1_lt, m1_ge, m1_eq, ite_true, ite_false, if_true, if_false, x_reaches h hr h0, show ¬ (1 : Nat) = 0 by decide]
    unfold sAsk
    rw [h9]
    show some (nI (decide (wDe W ≤ rE (wRo W r))).toNat, s) = some (nI (decide ((decide (wDe W ≤ rE (wRo W r))).toNat = 1)).toNat, s)
    cases decide (wDe W ≤ rE (wRo W r)) <;> rfl
  | 2, _ =>
    simp (disch := omega) only [r_c h, r_wa h, r_bo h, r_si h, r_ra h, r_rb h, r_yr h, r_dr h, r_pe h, r_fl h, r_pa h, r_di h, r_fr h, r_to h, r_by h, e_callV h.k, li_0, li_1, li_2, li_3, li_4, li_5, li_6, li_7, li_8, li_9, li_10, li_11, li_12, li_13, li_14, li_15, li_16, li_17, li_20, li_24, li_25, li_29, li_31, li_32, li_33, li_37, li_40, li_41, li_48, li_49, li_50, li_56, li_57, li_59, li_60, li_61, li_62, li_63, li_70, li_73, li_85, li_97, li_98, li_99, li_100, li_101, li_102, li_103, li_104, li_105, li_107, li_108, li_109, li_110, li_111, li_112, li_114, li_115, li_116, li_117, li_118, li_119, li_121, li_122, li_140, li_193, li_200, li_240, li_255, li_289, li_290, li_300, li_302, li_314, li_326, li_860, li_880, li_900, li_999, li_1024, li_2801, li_3440, li_3441, li_3442, li_3443, li_3444, li_3447, li_3448, li_3449, li_3457, li_3465, li_3469, li_3473, li_3477, li_3501, li_3513, li_3525, li_3537, li_3633, li_3730, li_3742, li_3754, li_3766, li_4095, li_4096, li_4300, li_9011, li_9999, li_10000, li_36864, li_65536, li_1000000, ll_0, ll_1, ll_100, ll_11, ll_16, ll_20, ll_3, ll_32, ll_50, ll_8, ll_96, ll_99, ll_9999, ne_m1, e_if, e_ret, e_rz0, e_rz1, e_rzb, e_call, bCallX_eq, nI_add, nI_mul, nI_succ1, le_i, lt_i, eq_i, m1_i, m1_le, m1_lt, m1_ge, m1_eq, ite_true, ite_false, if_true, if_false, x_yardsOfRope h hr, show ¬ (2 : Nat) = 0 by decide, show ¬ (2 : Nat) = 1 by decide]
    exact end1 _ (by rw [h9]; rfl) (by omega)
  | 3, _ =>
    simp (disch := omega) only [r_c h, r_wa h, r_bo h, r_si h, r_ra h, r_rb h, r_yr h, r_dr h, r_pe h, r_fl h, r_pa h, r_di h, r_fr h, r_to h, r_by h, e_callV h.k, li_0, li_1, li_2, li_3, li_4, li_5, li_6, li_7, li_8, li_9, li_10, li_11, li_12, li_13, li_14, li_15, li_16, li_17, li_20, li_24, li_25, li_29, li_31, li_32, li_33, li_37, li_40, li_41, li_48, li_49, li_50, li_56, li_57, li_59, li_60, li_61, li_62, li_63, li_70, li_73, li_85, li_97, li_98, li_99, li_100, li_101, li_102, li_103, li_104, li_105, li_107, li_108, li_109, li_110, li_111, li_112, li_114, li_115, li_116, li_117, li_118, li_119, li_121, li_122, li_140, li_193, li_200, li_240, li_255, li_289, li_290, li_300, li_302, li_314, li_326, li_860, li_880, li_900, li_999, li_1024, li_2801, li_3440, li_3441, li_3442, li_3443, li_3444, li_3447, li_3448, li_3449, li_3457, li_3465, li_3469, li_3473, li_3477, li_3501, li_3513, li_3525, li_3537, li_3633, li_3730, li_3742, li_3754, li_3766, li_4095, li_4096, li_4300, li_9011, li_9999, li_10000, li_36864, li_65536, li_1000000, ll_0, ll_1, ll_100, ll_11, ll_16, ll_20, ll_3, ll_32, ll_50, ll_8, ll_96, ll_99, ll_9999, ne_m1, e_if, e_ret, e_rz0, e_rz1, e_rzb, e_call, bCallX_eq, nI_add, nI_mul, nI_succ1, le_i, lt_i, eq_i, m1_i, m1_le, m1_lt, m1_ge, m1_eq, ite_true, ite_false, if_true, if_false, x_reachOf h hr h0, show ¬ (3 : Nat) = 0 by decide, show ¬ (3 : Nat) = 1 by decide, show ¬ (3 : Nat) = 2 by decide]
    exact end1 _ (by rw [h9]; rfl) (by omega)
  | 4, _ =>
    simp (disch := omega) only [r_c h, r_wa h, r_bo h, r_si h, r_ra h, r_rb h, r_yr h, r_dr h, r_pe h, r_fl h, r_pa h, r_di h, r_fr h, r_to h, r_by h, e_callV h.k, li_0, li_1, li_2, li_3, li_4, li_5, li_6, li_7, li_8, li_9, li_10, li_11, li_12, li_13, li_14, li_15, li_16, li_17, li_20, li_24, li_25, li_29, li_31, li_32, li_33, li_37, li_40, li_41, li_48, li_49, li_50, li_56, li_57, li_59, li_60, li_61, li_62, li_63, li_70, li_73, li_85, li_97, li_98, li_99, li_100, li_101, li_102, li_103, li_104, li_105, li_107, li_108, li_109, li_110, li_111, li_112, li_114, li_115, li_116, li_117, li_118, li_119, li_121, li_122, li_140, li_193, li_200, li_240, li_255, li_289, li_290, li_300, li_302, li_314, li_326, li_860, li_880, li_900, li_999, li_1024, li_2801, li_3440, li_3441, li_3442, li_3443, li_3444, li_3447, li_3448, li_3449, li_3457, li_3465, li_3469, li_3473, li_3477, li_3501, li_3513, li_3525, li_3537, li_3633, li_3730, li_3742, li_3754, li_3766, li_4095, li_4096, li_4300, li_9011, li_9999, li_10000, li_36864, li_65536, li_1000000, ll_0, ll_1, ll_100, ll_11, ll_16, ll_20, ll_3, ll_32, ll_50, ll_8, ll_96, ll_99, ll_9999, ne_m1, e_if, e_ret, e_rz0, e_rz1, e_rzb, e_call, bCallX_eq, nI_add, nI_mul, nI_succ1, le_i, lt_i, eq_i, m1_i, m1_le, m1_lt, m1_ge, m1_eq, ite_true, ite_false, if_true, if_false, x_knotsOfRope h hr h0, show ¬ (4 : Nat) = 0 by decide, show ¬ (4 : Nat) = 1 by decide, show ¬ (4 : Nat) = 2 by decide, show ¬ (4 : Nat) = 3 by decide]
    exact end1 _ (by rw [h9]; rfl) (by omega)
  | 5, _ =>
    simp (disch := omega) only [r_c h, r_wa h, r_bo h, r_si h, r_ra h, r_rb h, r_yr h, r_dr h, r_pe h, r_fl h, r_pa h, r_di h, r_fr h, r_to h, r_by h, e_callV h.k, li_0, li_1, li_2, li_3, li_4, li_5, li_6, li_7, li_8, li_9, li_10, li_11, li_12, li_13, li_14, li_15, li_16, li_17, li_20, li_24, li_25, li_29, li_31, li_32, li_33, li_37, li_40, li_41, li_48, li_49, li_50, li_56, li_57, li_59, li_60, li_61, li_62, li_63, li_70, li_73, li_85, li_97, li_98, li_99, li_100, li_101, li_102, li_103, li_104, li_105, li_107, li_108, li_109, li_110, li_111, li_112, li_114, li_115, li_116, li_117, li_118, li_119, li_121, li_122, li_140, li_193, li_200, li_240, li_255, li_289, li_290, li_300, li_302, li_314, li_326, li_860, li_880, li_900, li_999, li_1024, li_2801, li_3440, li_3441, li_3442, li_3443, li_3444, li_3447, li_3448, li_3449, li_3457, li_3465, li_3469, li_3473, li_3477, li_3501, li_3513, li_3525, li_3537, li_3633, li_3730, li_3742, li_3754, li_3766, li_4095, li_4096, li_4300, li_9011, li_9999, li_10000, li_36864, li_65536, li_1000000, ll_0, ll_1, ll_100, ll_11, ll_16, ll_20, ll_3, ll_32, ll_50, ll_8, ll_96, ll_99, ll_9999, ne_m1, e_if, e_ret, e_rz0, e_rz1, e_rzb, e_call, bCallX_eq, nI_add, nI_mul, nI_succ1, le_i, lt_i, eq_i, m1_i, m1_le, m1_lt, m1_ge, m1_eq, ite_true, ite_false, if_true, if_false, x_oldest h hr h0, show ¬ (5 : Nat) = 0 by decide, show ¬ (5 : Nat) = 1 by decide, show ¬ (5 : Nat) = 2 by decide, show ¬ (5 : Nat) = 3 by decide, show ¬ (5 : Nat) = 4 by decide]
    exact end1 _ (by rw [h9]; rfl) (by omega)
  | 6, _ =>
    simp (disch := omega) only [r_c h, r_wa h, r_bo h, r_si h, r_ra h, r_rb h, r_yr h, r_dr h, r_pe h, r_fl h, r_pa h, r_di h, r_fr h, r_to h, r_by h, e_callV h.k, li_0, li_1, li_2, li_3, li_4, li_5, li_6, li_7, li_8, li_9, li_10, li_11, li_12, li_13, li_14, li_15, li_16, li_17, li_20, li_24, li_25, li_29, li_31, li_32, li_33, li_37, li_40, li_41, li_48, li_49, li_50, li_56, li_57, li_59, li_60, li_61, li_62, li_63, li_70, li_73, li_85, li_97, li_98, li_99, li_100, li_101, li_102, li_103, li_104, li_105, li_107, li_108, li_109, li_110, li_111, li_112, li_114, li_115, li_116, li_117, li_118, li_119, li_121, li_122, li_140, li_193, li_200, li_240, li_255, li_289, li_290, li_300, li_302, li_314, li_326, li_860, li_880, li_900, li_999, li_1024, li_2801, li_3440, li_3441, li_3442, li_3443, li_3444, li_3447, li_3448, li_3449, li_3457, li_3465, li_3469, li_3473, li_3477, li_3501, li_3513, li_3525, li_3537, li_3633, li_3730, li_3742, li_3754, li_3766, li_4095, li_4096, li_4300, li_9011, li_9999, li_10000, li_36864, li_65536, li_1000000, ll_0, ll_1, ll_100, ll_11, ll_16, ll_20, ll_3, ll_32, ll_50, ll_8, ll_96, ll_99, ll_9999, ne_m1, e_if, e_ret, e_rz0, e_rz1, e_rzb, e_call, bCallX_eq, nI_add, nI_mul, nI_succ1, le_i, lt_i, eq_i, m1_i, m1_le, m1_lt, m1_ge, m1_eq, ite_true, ite_false, if_true, if_false, x_childrenOf h hp, x_bits, show ¬ (6 : Nat) = 0 by decide, show ¬ (6 : Nat) = 1 by decide, show ¬ (6 : Nat) = 2 by decide, show ¬ (6 : Nat) = 3 by decide, show ¬ (6 : Nat) = 4 by decide, show ¬ (6 : Nat) = 5 by decide]
    exact end1 _ (by rw [h9]; rfl) (by omega)
  | 7, _ =>
    simp (disch := omega) only [r_c h, r_wa h, r_bo h, r_si h, r_ra h, r_rb h, r_yr h, r_dr h, r_pe h, r_fl h, r_pa h, r_di h, r_fr h, r_to h, r_by h, e_callV h.k, li_0, li_1, li_2, li_3, li_4, li_5, li_6, li_7, li_8, li_9, li_10, li_11, li_12, li_13, li_14, li_15, li_16, li_17, li_20, li_24, li_25, li_29, li_31, li_32, li_33, li_37, li_40, li_41, li_48, li_49, li_50, li_56, li_57, li_59, li_60, li_61, li_62, li_63, li_70, li_73, li_85, li_97, li_98, li_99, li_100, li_101, li_102, li_103, li_104, li_105, li_107, li_108, li_109, li_110, li_111, li_112, li_114, li_115, li_116, li_117, li_118, li_119, li_121, li_122, li_140, li_193, li_200, li_240, li_255, li_289, li_290, li_300, li_302, li_314, li_326, li_860, li_880, li_900, li_999, li_1024, li_2801, li_3440, li_3441, li_3442, li_3443, li_3444, li_3447, li_3448, li_3449, li_3457, li_3465, li_3469, li_3473, li_3477, li_3501, li_3513, li_3525, li_3537, li_3633, li_3730, li_3742, li_3754, li_3766, li_4095, li_4096, li_4300, li_9011, li_9999, li_10000, li_36864, li_65536, li_1000000, ll_0, ll_1, ll_100, ll_11, ll_16, ll_20, ll_3, ll_32, ll_50, ll_8, ll_96, ll_99, ll_9999, ne_m1, e_if, e_ret, e_rz0, e_rz1, e_rzb, e_call, bCallX_eq, nI_add, nI_mul, nI_succ1, le_i, lt_i, eq_i, m1_i, m1_le, m1_lt, m1_ge, m1_eq, ite_true, ite_false, if_true, if_false, show ¬ (7 : Nat) = 0 by decide, show ¬ (7 : Nat) = 1 by decide, show ¬ (7 : Nat) = 2 by decide, show ¬ (7 : Nat) = 3 by decide, show ¬ (7 : Nat) = 4 by decide, show ¬ (7 : Nat) = 5 by decide, show ¬ (7 : Nat) = 6 by decide]
    exact end1 _ (by rw [h9]; rfl) (by omega)

theorem xSZ {a i n : Nat} {b : Bool} {α : Type} {m : mM α} {s : mS} (h : sH s a = (13, n)) (hi : i < n) (hn : n < 2147483648) : bSZ a (nI i) (nI b.toNat) m s = m (wI s a i (nI b.toNat)) := by
  unfold bSZ
  rw [h, if_pos ⟨rfl, inB_nI hi hn⟩, nI_clamp (by omega), show nI b.toNat &&& 1 = nI b.toNat by cases b <;> decide]
theorem xSZ0 {a i n : Nat} {α : Type} {m : mM α} {s : mS} (h : sH s a = (13, n)) (hi : i < n) (hn : n < 2147483648) : bSZ a (nI i) (nI 0) m s = m (wI s a i (nI 0)) := xSZ (b := false) h hi hn
theorem xSZ1 {a i n : Nat} {α : Type} {m : mM α} {s : mS} (h : sH s a = (13, n)) (hi : i < n) (hn : n < 2147483648) : bSZ a (nI i) (nI 1) m s = m (wI s a i (nI 1)) := xSZ (b := true) h hi hn
/-- the stack of the reference: its top last -/
def StK (u : mS) (st : List Bool) : Prop := ∀ i, i < st.length → sI u 121 (st.length - 1 - i) = nI (st.getD i false).toNat
theorem r_st {s : mS} {W : wW} {α : Type} {f : Nat → mM α} (h : RX s W) : bGR 9 113 27 f s = f 121 s := xGR h.k h.1.2.2.2.2.2.2.2.2.1
theorem RT.h121 {s : mS} (h : RT s) : sH s 121 = (13, 140) := h.2.2.2.2.2.2.2.2.2.2.2.2.2.2.2.2.2.2.2.1
theorem x_hstep {u : mS} {W : wW} (h : RX u W) {r p k o e : Nat} {q : Nat × Nat × Nat} {l : List (Nat × Nat × Nat)} {st : List Bool} (hr : r < 12) (h0 : 0 < rN (wRo W r)) (hp : p < 8) (hk : k < 12) (he : sI u 118 (302 + k) = nI e) (hoe : o < e) (he2 : e ≤ 120) (e0 : sI u 118 (326 + 4 * o) = nI q.1) (e1 : sI u 118 (326 + 4 * o + 1) = nI q.2.1) (e2 : sI u 118 (326 + 4 * o + 2) = nI q.2.2) (hq : sOk q) (hw : sWf st.length (q :: l)) (h24 : st.length ≤ 24) (hS : StK u st) : ∃ t, FI at121 u t ∧ StK t (sStep (wFx W r (wHe W p)) st q) ∧ ∀ n, fX9_holdsRule_15 (n + 1) 113 (nI k) (nI r) (nI p) (nI st.length) (nI o) u = fX9_holdsRule_15 n 113 (nI k) (nI r) (nI p) (nI (sStep (wFx W r (wHe W p)) st q).length) (nI (o + 1)) t := by
  have hq1 := hq.1
  have h121 := h.1.h121
  have hw' := hw
  unfold sWf at hw'
  unfold sStep
  by_cases c1 : q.1 < 8
  · rw [if_pos c1]
    refine ⟨wI u 121 st.length (nI (sAsk (wFx W r (wHe W p)) q).toNat), FI.w _ _ rfl, ?_, fun n => ?_⟩
    · intro i hi
      have hi : i < st.length + 1 := hi
      show sI (wI u 121 st.length _) 121 (st.length + 1 - 1 - i) = _
      cases i with
      | zero => rw [show st.length + 1 - 1 - 0 = st.length by omega, sI_wI_eq]; rfl
      | succ i =>
        rw [sI_wI_ne (Or.inr (by omega)), show st.length + 1 - 1 - (i + 1) = st.length - 1 - i by omega]
        exact hS i (by omega)
    · rw [qX9_holdsRule_15]
      simp (disch := omega) only [r_c h, r_st h, e_callV h.k, li_0, li_1, li_2, li_3, li_4, li_5, li_6, li_7, li_8, li_9, li_10, li_11, li_12, li_13, li_14, li_15, li_16, li_17, li_20, li_24, li_25, li_29, li_31, li_32, li_33, li_37, li_40, li_41, li_48, li_49, li_50, li_56, li_57, li_59, li_60, li_61, li_62, li_63, li_70, li_73, li_85, li_97, li_98, li_99, li_100, li_101, li_102, li_103, li_104, li_105, li_107, li_108, li_109, li_110, li_111, li_112, li_114, li_115, li_116, li_117, li_118, li_119, li_121, li_122, li_140, li_193, li_200, li_240, li_255, li_289, li_290, li_300, li_302, li_314, li_326, li_860, li_880, li_900, li_999, li_1024, li_2801, li_3440, li_3441, li_3442, li_3443, li_3444, li_3447, li_3448, li_3449, li_3457, li_3465, li_3469, li_3473, li_3477, li_3501, li_3513, li_3525, li_3537, li_3633, li_3730, li_3742, li_3754, li_3766, li_4095, li_4096, li_4300, li_9011, li_9999, li_10000, li_36864, li_65536, li_1000000, ll_0, ll_1, ll_100, ll_11, ll_16, ll_20, ll_3, ll_32, ll_50, ll_8, ll_96, ll_99, ll_9999, ne_m1, e_if, e_ret, e_rz0, e_rz1, e_rzb, e_call, bCallX_eq, nI_add, nI_mul, nI_succ1, le_i, lt_i, eq_i, m1_i, m1_le, m1_lt, m1_ge, m1_eq, ite_true, ite_false, if_true, if_false, r_n h (show 302 + k < 4300 by omega) he, r_n h (show 326 + 4 * o < 4300 by omega) e0, show ¬ e ≤ o by omega, show ¬ 8 ≤ q.1 by omega, x_isCase h hr h0 hp (show 326 + 4 * o < 4000 by omega) e0 e1 e2 hq c1, xSZ h121 (show st.length < 140 by omega) (by decide)]
      rfl
  · rw [if_neg c1] at hw' ⊢
    by_cases c2 : q.1 = 8
    · rw [if_pos c2] at hw' ⊢
      match st, hw', h24, hS with
      | [], hw', _, _ => exact absurd hw'.1 (by show ¬ 1 ≤ 0; decide)
      | b :: st, _, h24, hS =>
        have h24 : st.length + 1 ≤ 24 := h24
        have e3 : sI u 121 st.length = nI b.toNat := by
          have := hS 0 (by show 0 < st.length + 1; omega)
          have : sI u 121 (st.length + 1 - 1 - 0) = nI b.toNat := this
          rw [show st.length + 1 - 1 - 0 = st.length by omega] at this
          exact this
        refine ⟨wI u 121 st.length (nI (!b).toNat), FI.w _ _ rfl, ?_, fun n => ?_⟩
        · intro i hi
          have hi : i < st.length + 1 := hi
          show sI (wI u 121 st.length _) 121 (st.length + 1 - 1 - i) = _
          cases i with
          | zero => rw [show st.length + 1 - 1 - 0 = st.length by omega, sI_wI_eq]; rfl
          | succ i =>
            rw [sI_wI_ne (Or.inr (by omega))]
            exact hS (i + 1) (by show i + 1 < st.length + 1; omega)
        · rw [qX9_holdsRule_15]
          unfold fX9_holdsRule_110
          simp (disch := omega) only [r_c h, r_st h, e_callV h.k, li_0, li_1, li_2, li_3, li_4, li_5, li_6, li_7, li_8, li_9, li_10, li_11, li_12, li_13, li_14, li_15, li_16, li_17, li_20, li_24, li_25, li_29, li_31, li_32, li_33, li_37, li_40, li_41, li_48, li_49, li_50, li_56, li_57, li_59, li_60, li_61, li_62, li_63, li_70, li_73, li_85, li_97, li_98, li_99, li_100, li_101, li_102, li_103, li_104, li_105, li_107, li_108, li_109, li_110, li_111, li_112, li_114, li_115, li_116, li_117, li_118, li_119, li_121, li_122, li_140, li_193, li_200, li_240, li_255, li_289, li_290, li_300, li_302, li_314, li_326, li_860, li_880, li_900, li_999, li_1024, li_2801, li_3440, li_3441, li_3442, li_3443, li_3444, li_3447, li_3448, li_3449, li_3457, li_3465, li_3469, li_3473, li_3477, li_3501, li_3513, li_3525, li_3537, li_3633, li_3730, li_3742, li_3754, li_3766, li_4095, li_4096, li_4300, li_9011, li_9999, li_10000, li_36864, li_65536, li_1000000, ll_0, ll_1, ll_100, ll_11, ll_16, ll_20, ll_3, ll_32, ll_50, ll_8, ll_96, ll_99, ll_9999, ne_m1, e_if, e_ret, e_rz0, e_rz1, e_rzb, e_call, bCallX_eq, nI_add, nI_mul, nI_succ1, le_i, lt_i, eq_i, m1_i, m1_le, m1_lt, m1_ge, m1_eq, ite_true, ite_false, if_true, if_false, r_n h (show 302 + k < 4300 by omega) he, r_n h (show 326 + 4 * o < 4300 by omega) e0, show ¬ e ≤ o by omega, c2, Nat.le_refl, List.length_cons, sub_i, Nat.add_sub_cancel, xAIe h121 (show st.length < 140 by omega) (by decide) e3, bt0, xSZ0 h121 (show st.length < 140 by omega) (by decide), xSZ1 h121 (show st.length < 140 by omega) (by decide)]
          cases b <;> rfl
    · rw [if_neg c2] at hw' ⊢
      match st, hw', h24, hS with
      | [], hw', _, _ => exact absurd hw'.1 (by show ¬ 2 ≤ 0; decide)
      | [b], hw', _, _ => exact absurd hw'.1 (by show ¬ 2 ≤ 1; decide)
      | b :: c :: st, _, h24, hS =>
        have h24 : st.length + 1 + 1 ≤ 24 := h24
        have e3 : sI u 121 (st.length + 1) = nI b.toNat := by
          have : sI u 121 (st.length + 1 + 1 - 1 - 0) = nI b.toNat := hS 0 (by show 0 < st.length + 1 + 1; omega)
          rw [show st.length + 1 + 1 - 1 - 0 = st.length + 1 by omega] at this
          exact this
        have e4 : sI u 121 st.length = nI c.toNat := by
          have : sI u 121 (st.length + 1 + 1 - 1 - 1) = nI c.toNat := hS 1 (by show 1 < st.length + 1 + 1; omega)
          rw [show st.length + 1 + 1 - 1 - 1 = st.length by omega] at this
          exact this
        have hst : ∀ x : Bool, StK (wI u 121 st.length (nI x.toNat)) (x :: st) := by
          intro x i hi
          have hi : i < st.length + 1 := hi
          show sI (wI u 121 st.length _) 121 (st.length + 1 - 1 - i) = _
          cases i with
          | zero => rw [show st.length + 1 - 1 - 0 = st.length by omega, sI_wI_eq]; rfl
          | succ i =>
            rw [sI_wI_ne (Or.inr (by omega)), show st.length + 1 - 1 - (i + 1) = st.length + 1 + 1 - 1 - (i + 2) by omega]
            exact hS (i + 2) (by show i + 2 < st.length + 1 + 1; omega)
        by_cases c3 : q.1 = 9
        · rw [if_pos c3]
          refine ⟨wI u 121 st.length (nI (c && b).toNat), FI.w _ _ rfl, hst _, fun n => ?_⟩
          rw [qX9_holdsRule_15]
          unfold fX9_holdsRule_163 fX9_holdsRule_194
          simp (disch := omega) only [r_c h, r_st h, e_callV h.k, li_0, li_1, li_2, li_3, li_4, li_5, li_6, li_7, li_8, li_9, li_10, li_11, li_12, li_13, li_14, li_15, li_16, li_17, li_20, li_24, li_25, li_29, li_31, li_32, li_33, li_37, li_40, li_41, li_48, li_49, li_50, li_56, li_57, li_59, li_60, li_61, li_62, li_63, li_70, li_73, li_85, li_97, li_98, li_99, li_100, li_101, li_102, li_103, li_104, li_105, li_107, li_108, li_109, li_110, li_111, li_112, li_114, li_115, li_116, li_117, li_118, li_119, li_121, li_122, li_140, li_193, li_200, li_240, li_255, li_289, li_290, li_300, li_302, li_314, li_326, li_860, li_880, li_900, li_999, li_1024, li_2801, li_3440, li_3441, li_3442, li_3443, li_3444, li_3447, li_3448, li_3449, li_3457, li_3465, li_3469, li_3473, li_3477, li_3501, li_3513, li_3525, li_3537, li_3633, li_3730, li_3742, li_3754, li_3766, li_4095, li_4096, li_4300, li_9011, li_9999, li_10000, li_36864, li_65536, li_1000000, ll_0, ll_1, ll_100, ll_11, ll_16, ll_20, ll_3, ll_32, ll_50, ll_8, ll_96, ll_99, ll_9999, ne_m1, e_if, e_ret, e_rz0, e_rz1, e_rzb, e_call, bCallX_eq, nI_add, nI_mul, nI_succ1, le_i, lt_i, eq_i, m1_i, m1_le, m1_lt, m1_ge, m1_eq, ite_true, ite_false, if_true, if_false, r_n h (show 302 + k < 4300 by omega) he, r_n h (show 326 + 4 * o < 4300 by omega) e0, show ¬ e ≤ o by omega, c3, show (8 : Nat) ≤ 9 by decide, show ¬ (9 : Nat) = 8 by decide, List.length_cons, add_m1, sub_i, Nat.add_sub_cancel, xAIe h121 (show st.length < 140 by omega) (by decide) e4, xAIe h121 (show st.length + 1 < 140 by omega) (by decide) e3, bt0, xSZ0 h121 (show st.length < 140 by omega) (by decide), xSZ1 h121 (show st.length < 140 by omega) (by decide)]
          cases c <;> cases b <;> rfl
        · have c4 : q.1 = 10 := by omega
          rw [if_neg c3]
          refine ⟨wI u 121 st.length (nI (c || b).toNat), FI.w _ _ rfl, hst _, fun n => ?_⟩
          rw [qX9_holdsRule_15]
          unfold fX9_holdsRule_189 fX9_holdsRule_194
          simp (disch := omega) only [r_c h, r_st h, e_callV h.k, li_0, li_1, li_2, li_3, li_4, li_5, li_6, li_7, li_8, li_9, li_10, li_11, li_12, li_13, li_14, li_15, li_16, li_17, li_20, li_24, li_25, li_29, li_31, li_32, li_33, li_37, li_40, li_41, li_48, li_49, li_50, li_56, li_57, li_59, li_60, li_61, li_62, li_63, li_70, li_73, li_85, li_97, li_98, li_99, li_100, li_101, li_102, li_103, li_104, li_105, li_107, li_108, li_109, li_110, li_111, li_112, li_114, li_115, li_116, li_117, li_118, li_119, li_121, li_122, li_140, li_193, li_200, li_240, li_255, li_289, li_290, li_300, li_302, li_314, li_326, li_860, li_880, li_900, li_999, li_1024, li_2801, li_3440, li_3441, li_3442, li_3443, li_3444, li_3447, li_3448, li_3449, li_3457, li_3465, li_3469, li_3473, li_3477, li_3501, li_3513, li_3525, li_3537, li_3633, li_3730, li_3742, li_3754, li_3766, li_4095, li_4096, li_4300, li_9011, li_9999, li_10000, li_36864, li_65536, li_1000000, ll_0, ll_1, ll_100, ll_11, ll_16, ll_20, ll_3, ll_32, ll_50, ll_8, ll_96, ll_99, ll_9999, ne_m1, e_if, e_ret, e_rz0, e_rz1, e_rzb, e_call, bCallX_eq, nI_add, nI_mul, nI_succ1, le_i, lt_i, eq_i, m1_i, m1_le, m1_lt, m1_ge, m1_eq, ite_true, ite_false, if_true, if_false, r_n h (show 302 + k < 4300 by omega) he, r_n h (show 326 + 4 * o < 4300 by omega) e0, show ¬ e ≤ o by omega, c4, show (8 : Nat) ≤ 10 by decide, show ¬ (10 : Nat) = 8 by decide, show ¬ (10 : Nat) = 9 by decide, List.length_cons, add_m1, sub_i, Nat.add_sub_cancel, xAIe h121 (show st.length < 140 by omega) (by decide) e4, xAIe h121 (show st.length + 1 < 140 by omega) (by decide) e3, bt0, xSZ0 h121 (show st.length < 140 by omega) (by decide), xSZ1 h121 (show st.length < 140 by omega) (by decide)]
          cases c <;> cases b <;> rfl
theorem FI.c118 {A : Nat → Prop} {s t : mS} (h : FI A s t) (hA : ¬ A 118) : sI t 118 = sI s 118 := h.1 118 hA
theorem x_hrun {W : wW} {r p k e : Nat} (hr : r < 12) (h0 : 0 < rN (wRo W r)) (hp : p < 8) (hk : k < 12) (he2 : e ≤ 120) : ∀ (l : List (Nat × Nat × Nat)) (st : List Bool) (u : mS) (o n : Nat), RX u W → sI u 118 (302 + k) = nI e → o + l.length = e → (∀ j, j < l.length → sI u 118 (326 + 4 * (o + j)) = nI (l.getD j (0, 0, 0)).1 ∧ sI u 118 (326 + 4 * (o + j) + 1) = nI (l.getD j (0, 0, 0)).2.1 ∧ sI u 118 (326 + 4 * (o + j) + 2) = nI (l.getD j (0, 0, 0)).2.2) → (∀ x ∈ l, sOk x) → sWf st.length l → st.length ≤ 24 → StK u st → ∃ t, FI at121 u t ∧ fX9_holdsRule_15 (n + l.length + 1) 113 (nI k) (nI r) (nI p) (nI st.length) (nI o) u = some (nI (sHd (sRun (wFx W r (wHe W p)) st l)).toNat, t)
  | [], st, u, o, n, h, he, ho, _, _, hw, _, hS => by
    refine ⟨u, FI.rf, ?_⟩
    have hw : st.length = 1 := hw
    have ho : o = e := ho
    obtain ⟨b, rfl⟩ : ∃ b, st = [b] := by
      match st, hw with
      | [b], _ => exact ⟨b, rfl⟩
    have e3 : sI u 121 0 = nI b.toNat := hS 0 (by show 0 < 1; decide)
    rw [qX9_holdsRule_15]
    simp (disch := omega) only [r_c h, r_st h, li_0, li_1, li_2, li_3, li_4, li_5, li_6, li_7, li_8, li_9, li_10, li_11, li_12, li_13, li_14, li_15, li_16, li_17, li_20, li_24, li_25, li_29, li_31, li_32, li_33, li_37, li_40, li_41, li_48, li_49, li_50, li_56, li_57, li_59, li_60, li_61, li_62, li_63, li_70, li_73, li_85, li_97, li_98, li_99, li_100, li_101, li_102, li_103, li_104, li_105, li_107, li_108, li_109, li_110, li_111, li_112, li_114, li_115, li_116, li_117, li_118, li_119, li_121, li_122, li_140, li_193, li_200, li_240, li_255, li_289, li_290, li_300, li_302, li_314, li_326, li_860, li_880, li_900, li_999, li_1024, li_2801, li_3440, li_3441, li_3442, li_3443, li_3444, li_3447, li_3448, li_3449, li_3457, li_3465, li_3469, li_3473, li_3477, li_3501, li_3513, li_3525, li_3537, li_3633, li_3730, li_3742, li_3754, li_3766, li_4095, li_4096, li_4300, li_9011, li_9999, li_10000, li_36864, li_65536, li_1000000, ll_0, ll_1, ll_100, ll_11, ll_16, ll_20, ll_3, ll_32, ll_50, ll_8, ll_96, ll_99, ll_9999, ne_m1, e_if, e_ret, e_rz0, e_rz1, e_rzb, e_call, bCallX_eq, nI_add, nI_mul, nI_succ1, le_i, lt_i, eq_i, m1_i, m1_le, m1_lt, m1_ge, m1_eq, ite_true, ite_false, if_true, if_false, r_n h (show 302 + k < 4300 by omega) he, ho, Nat.le_refl, xAIe h.1.h121 (show 0 < 140 by omega) (by decide) e3]
    rfl
  | q :: l, st, u, o, n, h, he, ho, hj, hq, hw, h24, hS => by
    have ho : o + (l.length + 1) = e := ho
    obtain ⟨g0, g1, g2⟩ := hj 0 (by show 0 < l.length + 1; omega)
    rw [Nat.add_zero] at g0 g1 g2
    obtain ⟨t1, a1, a2, a3⟩ := x_hstep h hr h0 hp hk he (by omega) he2 (q := q) g0 g1 g2 (hq q List.mem_cons_self) hw h24 hS
    have hst := sStep_len (fx := wFx W r (wHe W p)) hw
    have c118 := a1.c118 (by show ¬ 118 = 121; decide)
    obtain ⟨t2, b1, b2⟩ := x_hrun hr h0 hp hk he2 l _ t1 (o + 1) n (h.st a1.2 c118) (by rw [c118]; exact he) (by omega) (fun j hjl => by
      rw [c118, show o + 1 + j = o + (j + 1) by omega]
      exact hj (j + 1) (by show j + 1 < l.length + 1; omega)) (fun x hx => hq x (List.mem_cons_of_mem _ hx)) hst.1 (hst.2 h24) a2
    refine ⟨t2, a1.tr b1, ?_⟩
    rw [show n + (q :: l).length + 1 = n + l.length + 1 + 1 by simp; omega, a3]
    exact b2
theorem lS_s : ∀ (L : List (List (Nat × Nat × Nat) × Nat)) (k : Nat), k < L.length → lS L (k + 1) = lS L k + (L.getD k ([], 0)).1.length
  | [], k, h => absurd h (by show ¬ k < 0; omega)
  | q :: L, 0, _ => by simp [lS, lAll]
  | q :: L, k + 1, h => by
    have ih := lS_s L k (by simpa using h)
    unfold lS lAll at ih ⊢
    simp only [List.take_succ_cons, List.flatMap_cons, List.length_append, List.getD_cons_succ] at ih ⊢
    omega
theorem lAll_get : ∀ (L : List (List (Nat × Nat × Nat) × Nat)) (k j : Nat), k < L.length → j < (L.getD k ([], 0)).1.length → (lAll L).getD (lS L k + j) (0, 0, 0) = (L.getD k ([], 0)).1.getD j (0, 0, 0) ∧ lS L k + j < (lAll L).length
  | [], k, j, h, _ => absurd h (by show ¬ k < 0; omega)
  | q :: L, 0, j, _, hj => by
    have hj : j < q.1.length := hj
    have e : lS (q :: L) 0 = 0 := rfl
    rw [e, Nat.zero_add]
    unfold lAll
    rw [List.flatMap_cons]
    constructor
    · rw [List.getD_eq_getElem?_getD, List.getElem?_append_left hj]; rfl
    · rw [List.length_append]; omega
  | q :: L, k + 1, j, h, hj => by
    obtain ⟨i1, i2⟩ := lAll_get L k j (by simpa using h) hj
    have e : lS (q :: L) (k + 1) = q.1.length + lS L k := by
      unfold lS lAll
      simp
    have e2 : lAll (q :: L) = q.1 ++ lAll L := by
      unfold lAll
      rw [List.flatMap_cons]
    rw [e, e2, List.length_append]
    constructor
    · rw [List.getD_eq_getElem?_getD, List.getElem?_append_right (by omega), show q.1.length + lS L k + j - q.1.length = lS L k + j by omega, ← List.getD_eq_getElem?_getD, i1]
      rfl
    · omega
theorem lS_le (L : List (List (Nat × Nat × Nat) × Nat)) : ∀ k, lS L k ≤ (lAll L).length := by
  intro k
  unfold lS lAll
  induction L generalizing k with
  | nil => simp
  | cons q L ih =>
    cases k with
    | zero => simp
    | succ k =>
      have := ih k
      simp at this ⊢
      omega
theorem x_holdsRule {s : mS} {W : wW} (h : RX s W) {r p k : Nat} (hr : r < 12) (h0 : 0 < rN (wRo W r)) (hp : p < 8) (hk : k < (wLa W).length) : ∃ t, FI at121 s t ∧ fX9_holdsRule 113 (nI k) (nI r) (nI p) s = some (nI (sHd (sRun (wFx W r (wHe W p)) [] ((wLa W).getD k ([], 0)).1)).toNat, t) := by
  have hL : lOk (wLa W) := h.wi.2.2.2.2.2.2.2.2.2.2.2.2.2.2.2
  have hR : LaR (sI s 118) (wLa W) := h.2.2.2.2.2.2.2.2.2.2.2.2.2.2
  obtain ⟨l1, l2, l3⟩ := hR
  obtain ⟨m1, m2, m3⟩ := l2 k hk
  have hk12 := hL.1
  have h120 := hL.2.1
  have hle := lS_le (wLa W) (k + 1)
  have hss := lS_s (wLa W) k hk
  have hmem : (wLa W).getD k ([], 0) ∈ wLa W := by
    rw [List.getD_eq_getElem?_getD, List.getElem?_eq_getElem hk]
    exact List.getElem_mem hk
  obtain ⟨z1, z2, z3⟩ := hL.2.2 _ hmem
  unfold fX9_holdsRule
  simp (disch := omega) only [r_c h, li_0, li_1, li_2, li_3, li_4, li_5, li_6, li_7, li_8, li_9, li_10, li_11, li_12, li_13, li_14, li_15, li_16, li_17, li_20, li_24, li_25, li_29, li_31, li_32, li_33, li_37, li_40, li_41, li_48, li_49, li_50, li_56, li_57, li_59, li_60, li_61, li_62, li_63, li_70, li_73, li_85, li_97, li_98, li_99, li_100, li_101, li_102, li_103, li_104, li_105, li_107, li_108, li_109, li_110, li_111, li_112, li_114, li_115, li_116, li_117, li_118, li_119, li_121, li_122, li_140, li_193, li_200, li_240, li_255, li_289, li_290, li_300, li_302, li_314, li_326, li_860, li_880, li_900, li_999, li_1024, li_2801, li_3440, li_3441, li_3442, li_3443, li_3444, li_3447, li_3448, li_3449, li_3457, li_3465, li_3469, li_3473, li_3477, li_3501, li_3513, li_3525, li_3537, li_3633, li_3730, li_3742, li_3754, li_3766, li_4095, li_4096, li_4300, li_9011, li_9999, li_10000, li_36864, li_65536, li_1000000, ll_0, ll_1, ll_100, ll_11, ll_16, ll_20, ll_3, ll_32, ll_50, ll_8, ll_96, ll_99, ll_9999, ne_m1, e_if, e_ret, e_rz0, e_rz1, e_rzb, e_call, bCallX_eq, nI_add, nI_mul, nI_succ1, le_i, lt_i, eq_i, m1_i, m1_le, m1_lt, m1_ge, m1_eq, ite_true, ite_false, if_true, if_false, r_n h (show 290 + k < 4300 by omega) m1]
  obtain ⟨t, t1, t2⟩ := x_hrun hr h0 hp (show k < 12 by omega) (show lS (wLa W) (k + 1) ≤ 120 by omega) ((wLa W).getD k ([], 0)).1 [] s (lS (wLa W) k) (4999 - ((wLa W).getD k ([], 0)).1.length) h m2 hss.symm (fun j hj => by
    obtain ⟨n1, n2⟩ := lAll_get (wLa W) k j hk hj
    have := l3 (lS (wLa W) k + j) n2
    rw [n1] at this
    exact this) z3 z2 (by decide) (fun i hi => absurd hi (by show ¬ i < 0; omega))
  refine ⟨t, t1, ?_⟩
  rw [show 4999 - ((wLa W).getD k ([], 0)).1.length + ((wLa W).getD k ([], 0)).1.length + 1 = fu by unfold fu; omega] at t2
  exact t2
theorem lWhom_find (fx : Nat → Nat) : ∀ (L : List (List (Nat × Nat × Nat) × Nat)), (lWhom fx L = if fs (fun k => sHd (sRun fx [] (L.getD k ([], 0)).1)) L.length < L.length then (L.getD (fs (fun k => sHd (sRun fx [] (L.getD k ([], 0)).1)) L.length) ([], 0)).2 else 0) := by
  intro L
  have key : ∀ (L : List (List (Nat × Nat × Nat) × Nat)) (n : Nat), n ≤ L.length → (∀ k, k < n → sHd (sRun fx [] (L.getD k ([], 0)).1) = false) → (n < L.length → sHd (sRun fx [] (L.getD n ([], 0)).1) = true) → lWhom fx L = if n < L.length then (L.getD n ([], 0)).2 else 0 := by
    intro L
    induction L with
    | nil => intro n h1 _ _; rw [if_neg (by show ¬ n < 0; omega)]; rfl
    | cons q L ih =>
      intro n h1 h2 h3
      cases n with
      | zero =>
        have h3 := h3 (by show 0 < L.length + 1; omega)
        have h3 : sHd (sRun fx [] q.1) = true := h3
        show (if sHd (sRun fx [] q.1) then q.2 else lWhom fx L) = _
        rw [h3, if_pos rfl, if_pos (by show 0 < L.length + 1; omega)]
        rfl
      | succ n =>
        have h4 : sHd (sRun fx [] q.1) = false := h2 0 (by omega)
        show (if sHd (sRun fx [] q.1) then q.2 else lWhom fx L) = _
        rw [h4, if_neg (by decide), ih n (by have : n + 1 ≤ L.length + 1 := h1; omega) (fun k hk => h2 (k + 1) (by omega)) (fun hn => h3 (by show n + 1 < L.length + 1; omega))]
        by_cases h5 : n < L.length
        · rw [if_pos h5, if_pos (by show n + 1 < L.length + 1; omega)]; rfl
        · rw [if_neg h5, if_neg (by show ¬ n + 1 < L.length + 1; omega)]
  exact key L _ (fs_le _ _) (fs_no _ _) (fs_yes _ _)
theorem x_whomFor {s : mS} {W : wW} (h : RX s W) {r p : Nat} (hr : r < 12) (h0 : 0 < rN (wRo W r)) (hp : p < 8) : ∃ t, FI at121 s t ∧ fX9_whomFor 113 (nI r) (nI p) s = some (nI (lWhom (wFx W r (wHe W p)) (wLa W)), t) := by
  have hL : lOk (wLa W) := h.wi.2.2.2.2.2.2.2.2.2.2.2.2.2.2.2
  have hR : LaR (sI s 118) (wLa W) := h.2.2.2.2.2.2.2.2.2.2.2.2.2.2
  obtain ⟨l1, l2, l3⟩ := hR
  have hk12 := hL.1
  rw [lWhom_find]
  generalize hP : (fun k => sHd (sRun (wFx W r (wHe W p)) [] ((wLa W).getD k ([], 0)).1)) = P
  have hPk : ∀ k, P k = sHd (sRun (wFx W r (wHe W p)) [] ((wLa W).getD k ([], 0)).1) := fun k => by rw [← hP]
  unfold fX9_whomFor
  have key : ∀ (n k : Nat) (u : mS), k ≤ fs P (wLa W).length → 20 < n + k → FI at121 s u → ∃ t, FI at121 s t ∧ fX9_whomFor_2 n 113 (nI r) (nI p) (nI k) u = some (nI (if fs P (wLa W).length < (wLa W).length then ((wLa W).getD (fs P (wLa W).length) ([], 0)).2 else 0), t) := by
    intro n
    induction n with
    | zero => intro k u h1 h2 _; have := fs_le P (wLa W).length; omega
    | succ n ih =>
      intro k u h1 h2 hF
      have hfl := fs_le P (wLa W).length
      have c118 := hF.c118 (by show ¬ 118 = 121; decide)
      have hu : RX u W := h.st hF.2 c118
      have e9 : sI u 118 289 = nI (wLa W).length := by rw [c118]; exact l1
      by_cases hk : k < (wLa W).length
      · obtain ⟨t, t1, t2⟩ := x_holdsRule hu hr h0 hp hk
        rw [← hPk] at t2
        by_cases hkf : k = fs P (wLa W).length
        · have hy := fs_yes P (wLa W).length (by omega)
          rw [← hkf] at hy ⊢
          rw [hy] at t2
          have ht : RX t W := hu.st t1.2 (t1.c118 (by show ¬ 118 = 121; decide))
          have e4 : sI t 118 (314 + k) = nI ((wLa W).getD k ([], 0)).2 := by
            rw [t1.c118 (by show ¬ 118 = 121; decide), c118]
            exact (l2 k hk).2.2
          refine ⟨t, hF.tr t1, ?_⟩
          rw [qX9_whomFor_2]
          unfold fX9_whomFor_24
          simp (disch := omega) only [r_c hu, e_callV hu.k, li_0, li_1, li_2, li_3, li_4, li_5, li_6, li_7, li_8, li_9, li_10, li_11, li_12, li_13, li_14, li_15, li_16, li_17, li_20, li_24, li_25, li_29, li_31, li_32, li_33, li_37, li_40, li_41, li_48, li_49, li_50, li_56, li_57, li_59, li_60, li_61, li_62, li_63, li_70, li_73, li_85, li_97, li_98, li_99, li_100, li_101, li_102, li_103, li_104, li_105, li_107, li_108, li_109, li_110, li_111, li_112, li_114, li_115, li_116, li_117, li_118, li_119, li_121, li_122, li_140, li_193, li_200, li_240, li_255, li_289, li_290, li_300, li_302, li_314, li_326, li_860, li_880, li_900, li_999, li_1024, li_2801, li_3440, li_3441, li_3442, li_3443, li_3444, li_3447, li_3448, li_3449, li_3457, li_3465, li_3469, li_3473, li_3477, li_3501, li_3513, li_3525, li_3537, li_3633, li_3730, li_3742, li_3754, li_3766, li_4095, li_4096, li_4300, li_9011, li_9999, li_10000, li_36864, li_65536, li_1000000, ll_0, ll_1, ll_100, ll_11, ll_16, ll_20, ll_3, ll_32, ll_50, ll_8, ll_96, ll_99, ll_9999, ne_m1, e_if, e_ret, e_rz0, e_rz1, e_rzb, e_call, bCallX_eq, nI_add, nI_mul, nI_succ1, le_i, lt_i, eq_i, m1_i, m1_le, m1_lt, m1_ge, m1_eq, ite_true, ite_false, if_true, if_false, r_n hu (show 289 < 4300 by decide) e9, show ¬ (wLa W).length ≤ k by omega, t2, bt0, Bool.true_eq_false, r_c ht, r_n ht (show 314 + k < 4300 by omega) e4, hk]
        · have hn := fs_no P (wLa W).length k (by omega)
          rw [hn] at t2
          obtain ⟨t3, g1, g2⟩ := ih (k + 1) t (by omega) (by omega) (hF.tr t1)
          refine ⟨t3, g1, ?_⟩
          rw [qX9_whomFor_2]
          simp (disch := omega) only [r_c hu, e_callV hu.k, li_0, li_1, li_2, li_3, li_4, li_5, li_6, li_7, li_8, li_9, li_10, li_11, li_12, li_13, li_14, li_15, li_16, li_17, li_20, li_24, li_25, li_29, li_31, li_32, li_33, li_37, li_40, li_41, li_48, li_49, li_50, li_56, li_57, li_59, li_60, li_61, li_62, li_63, li_70, li_73, li_85, li_97, li_98, li_99, li_100, li_101, li_102, li_103, li_104, li_105, li_107, li_108, li_109, li_110, li_111, li_112, li_114, li_115, li_116, li_117, li_118, li_119, li_121, li_122, li_140, li_193, li_200, li_240, li_255, li_289, li_290, li_300, li_302, li_314, li_326, li_860, li_880, li_900, li_999, li_1024, li_2801, li_3440, li_3441, li_3442, li_3443, li_3444, li_3447, li_3448, li_3449, li_3457, li_3465, li_3469, li_3473, li_3477, li_3501, li_3513, li_3525, li_3537, li_3633, li_3730, li_3742, li_3754, li_3766, li_4095, li_4096, li_4300, li_9011, li_9999, li_10000, li_36864, li_65536, li_1000000, ll_0, ll_1, ll_100, ll_11, ll_16, ll_20, ll_3, ll_32, ll_50, ll_8, ll_96, ll_99, ll_9999, ne_m1, e_if, e_ret, e_rz0, e_rz1, e_rzb, e_call, bCallX_eq, nI_add, nI_mul, nI_succ1, le_i, lt_i, eq_i, m1_i, m1_le, m1_lt, m1_ge, m1_eq, ite_true, ite_false, if_true, if_false, r_n hu (show 289 < 4300 by decide) e9, show ¬ (wLa W).length ≤ k by omega, t2, bt0]
          exact g2
      · have hkl : k = (wLa W).length := by omega
        have hfk : fs P (wLa W).length = (wLa W).length := by omega
        refine ⟨u, hF, ?_⟩
        rw [qX9_whomFor_2, hfk]
        simp (disch := omega) only [r_c hu, li_0, li_1, li_2, li_3, li_4, li_5, li_6, li_7, li_8, li_9, li_10, li_11, li_12, li_13, li_14, li_15, li_16, li_17, li_20, li_24, li_25, li_29, li_31, li_32, li_33, li_37, li_40, li_41, li_48, li_49, li_50, li_56, li_57, li_59, li_60, li_61, li_62, li_63, li_70, li_73, li_85, li_97, li_98, li_99, li_100, li_101, li_102, li_103, li_104, li_105, li_107, li_108, li_109, li_110, li_111, li_112, li_114, li_115, li_116, li_117, li_118, li_119, li_121, li_122, li_140, li_193, li_200, li_240, li_255, li_289, li_290, li_300, li_302, li_314, li_326, li_860, li_880, li_900, li_999, li_1024, li_2801, li_3440, li_3441, li_3442, li_3443, li_3444, li_3447, li_3448, li_3449, li_3457, li_3465, li_3469, li_3473, li_3477, li_3501, li_3513, li_3525, li_3537, li_3633, li_3730, li_3742, li_3754, li_3766, li_4095, li_4096, li_4300, li_9011, li_9999, li_10000, li_36864, li_65536, li_1000000, ll_0, ll_1, ll_100, ll_11, ll_16, ll_20, ll_3, ll_32, ll_50, ll_8, ll_96, ll_99, ll_9999, ne_m1, e_if, e_ret, e_rz0, e_rz1, e_rzb, e_call, bCallX_eq, nI_add, nI_mul, nI_succ1, le_i, lt_i, eq_i, m1_i, m1_le, m1_lt, m1_ge, m1_eq, ite_true, ite_false, if_true, if_false, r_n hu (show 289 < 4300 by decide) e9, hkl, Nat.le_refl, Nat.lt_irrefl]
  exact key fu 0 s (by omega) (by unfold fu; omega) FI.rf

/-! WHAT IS WRITTEN: ropes of the class -/
theorem e_GI {k a j : Nat} {α : Type} (f : Int32 → mM α) (s : mS) : bGI k a j f s = if (sH s a).1 = k then f (sI s a j) s else none := rfl
theorem e_GR {k a j : Nat} {α : Type} (f : Nat → mM α) (s : mS) : bGR k a j f s = if (sH s a).1 = k then f (sP s a j) s else none := rfl
theorem e_PI {k a j : Nat} {x : Int32} {α : Type} (m : mM α) (s : mS) : bPI k a j x m s = if (sH s a).1 = k then m (wI s a j x) else none := rfl
theorem e_PZ {k a j : Nat} (b : Bool) {α : Type} (m : mM α) (s : mS) : bPZ k a j (nI b.toNat) m s = if (sH s a).1 = k then m (wI s a j (nI b.toNat)) else none := by
  show (if (sH s a).1 = k ∧ (nI b.toNat = 0 ∨ nI b.toNat = 1) then _ else _) = _
  cases b <;> simp [show nI 0 = 0 from rfl, show nI 1 = 1 from rfl]
theorem e_PZ0 {k a j : Nat} {α : Type} (m : mM α) (s : mS) : bPZ k a j (nI 0) m s = if (sH s a).1 = k then m (wI s a j (nI 0)) else none := e_PZ false m s
theorem e_PZ1 {k a j : Nat} {α : Type} (m : mM α) (s : mS) : bPZ k a j (nI 1) m s = if (sH s a).1 = k then m (wI s a j (nI 1)) else none := e_PZ true m s
theorem e_AIx {k a i : Nat} {α : Type} (f : Int32 → mM α) (s : mS) (h : (sH s a).1 = k ∧ i < (sH s a).2 ∧ (sH s a).2 < 2147483648) : bAI k a (nI i) f s = f (sI s a i) s := xAI (n := (sH s a).2) (by rw [← h.1]) h.2.1 h.2.2
theorem e_SIx {a i : Nat} {x : Int32} {α : Type} (m : mM α) (s : mS) (h : (sH s a).1 = 11 ∧ i < (sH s a).2 ∧ (sH s a).2 < 2147483648) : bSI a (nI i) x m s = m (wI s a i x) := xSI (n := (sH s a).2) (by rw [← h.1]) h.2.1 h.2.2
theorem sI_wI_eq (s : mS) (a j : Nat) (x : Int32) : sI (wI s a j x) a j = x := if_pos ⟨rfl, rfl⟩
theorem sI_wI_ne {s : mS} {a j b i : Nat} {x : Int32} (h : b ≠ a ∨ i ≠ j) : sI (wI s a j x) b i = sI s b i := if_neg (by omega)
/-- only ints of the cells A are written -/
def FI (A : Nat → Prop) (s t : mS) : Prop := (∀ b, ¬ A b → sI t b = sI s b) ∧ t.2 = s.2
theorem FI.rf {A : Nat → Prop} {s : mS} : FI A s s := ⟨fun _ _ => rfl, rfl⟩
theorem FI.tr {A : Nat → Prop} {s t u : mS} (h1 : FI A s t) (h2 : FI A t u) : FI A s u := ⟨fun b hb => (h2.1 b hb).trans (h1.1 b hb), h2.2.trans h1.2⟩
theorem FI.mo {A B : Nat → Prop} {s t : mS} (h : FI A s t) (hAB : ∀ b, A b → B b) : FI B s t := ⟨fun b hb => h.1 b (fun ha => hb (hAB b ha)), h.2⟩
theorem FI.w {A : Nat → Prop} {s : mS} {a : Nat} (j : Nat) (x : Int32) (ha : A a) : FI A s (wI s a j x) := ⟨fun b hb => by
  funext i
  exact sI_wI_ne (Or.inl (fun e : b = a => hb (by rw [e]; exact ha))), rfl⟩
theorem FI.H {A : Nat → Prop} {s t : mS} (h : FI A s t) : sH t = sH s := by show t.2.2.2.1 = s.2.2.2.1; rw [h.2]
theorem FI.P {A : Nat → Prop} {s t : mS} (h : FI A s t) : sP t = sP s := by show t.2.2.1 = s.2.2.1; rw [h.2]
theorem FI.L {A : Nat → Prop} {s t : mS} (h : FI A s t) : sL t = sL s := by show t.2.1 = s.2.1; rw [h.2]
theorem FI.Z {A : Nat → Prop} {s t : mS} (h : FI A s t) : sZ t = sZ s := by show t.2.2.2.2.1 = s.2.2.2.2.1; rw [h.2]
theorem FI.W {A : Nat → Prop} {s t : mS} (h : FI A s t) : sW t = sW s := by show t.2.2.2.2.2 = s.2.2.2.2.2; rw [h.2]
theorem RoS.mv {s t : mS} {x : Nat} (h : RoS s x) (h2 : t.2 = s.2) : RoS t x := by
  have e1 : sH t = sH s := by show t.2.2.2.1 = s.2.2.2.1; rw [h2]
  have e2 : sP t = sP s := by show t.2.2.1 = s.2.2.1; rw [h2]
  unfold RoS
  rw [e1, e2]
  exact h
theorem RoD.mv {s t : mS} {x : Nat} {ρ : rR} (h : RoD s x ρ) (h0 : sI t x = sI s x) (h1 : sI t (x + 1) = sI s (x + 1)) (h2 : sI t (x + 2) = sI s (x + 2)) : RoD t x ρ := by
  unfold RoD
  rw [h0, h1, h2]
  exact h
abbrev rAt (x : Nat) : Nat → Prop := fun b => b = x ∨ b = x + 1 ∨ b = x + 2
theorem RoD.fi {A : Nat → Prop} {s t : mS} {x : Nat} {ρ : rR} (h : RoD s x ρ) (hF : FI A s t) (h0 : ¬ A x) (h1 : ¬ A (x + 1)) (h2 : ¬ A (x + 2)) : RoD t x ρ := h.mv (hF.1 _ h0) (hF.1 _ h1) (hF.1 _ h2)
/-- a loop that counts up and changes the state -/
theorem loop_s {α : Type} (f : Nat → Nat → mM α) (I : Nat → mS → Prop) (N : Nat) (Q : α × mS → Prop) (hs : ∀ n k s, k < N → I k s → ∃ s', I (k + 1) s' ∧ f (n + 1) k s = f n (k + 1) s') (he : ∀ n s, I N s → ∃ q, f (n + 1) N s = some q ∧ Q q) : ∀ n k s, k ≤ N → N < n + k → I k s → ∃ q, f n k s = some q ∧ Q q := by
  intro n
  induction n with
  | zero => intro k s h1 h2 _; omega
  | succ n ih =>
    intro k s h1 h2 hI
    by_cases hk : k = N
    · subst hk; exact he n s hI
    · obtain ⟨s', h3, h4⟩ := hs n k s (by omega) hI
      rw [h4]
      exact ih (k + 1) s' (by omega) (by omega) h3
theorem pY_app {ps qs : List (Nat × Nat)} {k : Nat} (h : k < ps.length) : pY (ps ++ qs) k = pY ps k := by
  unfold pY
  rw [List.getD_eq_getElem?_getD, List.getD_eq_getElem?_getD, List.getElem?_append_left h]
theorem pA_app {ps qs : List (Nat × Nat)} {k : Nat} (h : k < ps.length) : pA (ps ++ qs) k = pA ps k := by
  unfold pA
  rw [List.getD_eq_getElem?_getD, List.getD_eq_getElem?_getD, List.getElem?_append_left h]
theorem pY_app2 {ps qs : List (Nat × Nat)} {k : Nat} (h : ps.length ≤ k) : pY (ps ++ qs) k = pY qs (k - ps.length) := by
  unfold pY
  rw [List.getD_eq_getElem?_getD, List.getD_eq_getElem?_getD, List.getElem?_append_right h]
theorem pA_app2 {ps qs : List (Nat × Nat)} {k : Nat} (h : ps.length ≤ k) : pA (ps ++ qs) k = pA qs (k - ps.length) := by
  unfold pA
  rw [List.getD_eq_getElem?_getD, List.getD_eq_getElem?_getD, List.getElem?_append_right h]
theorem qS_app {ps : List (Nat × Nat)} (qs : List (Nat × Nat)) : ∀ k, k ≤ ps.length → qS (ps ++ qs) k = qS ps k
  | 0, _ => rfl
  | k + 1, h => by rw [qS_s, qS_s, qS_app qs k (by omega), pY_app (by omega)]
def qT (ps : List (Nat × Nat)) : Nat := qS ps ps.length
theorem qT_snoc (ps : List (Nat × Nat)) (y g : Nat) : qT (ps ++ [(y, g)]) = qT ps + y := by
  unfold qT
  rw [List.length_append, show [(y, g)].length = 1 from rfl, qS_s, qS_app _ _ (Nat.le_refl _), pY_app2 (Nat.le_refl _), Nat.sub_self]
  rfl
theorem take_snoc {qs : List (Nat × Nat)} {k : Nat} (h : k < qs.length) : qs.take (k + 1) = qs.take k ++ [(pY qs k, pA qs k)] := by
  rw [List.take_add_one]
  congr 1
  unfold pY pA
  rw [List.getD_eq_getElem?_getD, List.getElem?_eq_getElem h]
  rfl
/-- pieces that may be -/
def piOk (ps : List (Nat × Nat)) : Prop := ∀ k, k < ps.length → 1 ≤ pY ps k ∧ pY ps k ≤ 200 ∧ pA ps k ≤ 300
theorem piOk_0 : piOk [] := fun k h => absurd h (by show ¬ k < 0; omega)
theorem piOk_snoc {ps : List (Nat × Nat)} {y g : Nat} (h : piOk ps) (h1 : 1 ≤ y) (h2 : y ≤ 200) (h3 : g ≤ 300) : piOk (ps ++ [(y, g)]) := by
  intro k hk
  rw [List.length_append, show [(y, g)].length = 1 from rfl] at hk
  by_cases hk2 : k < ps.length
  · rw [pY_app hk2, pA_app hk2]; exact h k hk2
  · rw [pY_app2 (by omega), pA_app2 (by omega), show k - ps.length = 0 by omega]
    exact ⟨h1, h2, h3⟩
section TW
variable {s : mS} {x : Nat} {ρ : rR}
theorem t_clear (hS : RoS s x) : ∃ t, fX3_clear x s = some ((), t) ∧ FI (rAt x) s t ∧ RoD t x r0 := by
  refine ⟨wI (wI (wI (wI (wI (wI s x 0 mI) x 1 mI) x 2 (nI 0)) x 3 (nI 0)) x 4 (nI 0)) x 5 (nI 0), ?_, ?_, ?_⟩
  · unfold fX3_clear
    simp only [e_GI, e_GR, e_PI, e_SIx, e_AIx, sH_wI, sP_wI, sI_wI_eq, sI_wI_ne, e_PZ0, li_0, li_1, li_2, li_3, li_4, li_5, li_6, li_7, li_8, li_9, li_10, li_11, li_12, li_13, li_14, li_15, li_16, li_17, li_20, li_24, li_25, li_29, li_31, li_32, li_33, li_37, li_40, li_41, li_48, li_49, li_50, li_56, li_57, li_59, li_60, li_61, li_62, li_63, li_70, li_73, li_85, li_97, li_98, li_99, li_100, li_101, li_102, li_103, li_104, li_105, li_107, li_108, li_109, li_110, li_111, li_112, li_114, li_115, li_116, li_117, li_118, li_119, li_121, li_122, li_140, li_193, li_200, li_240, li_255, li_289, li_290, li_300, li_302, li_314, li_326, li_860, li_880, li_900, li_999, li_1024, li_2801, li_3440, li_3441, li_3442, li_3443, li_3444, li_3447, li_3448, li_3449, li_3457, li_3465, li_3469, li_3473, li_3477, li_3501, li_3513, li_3525, li_3537, li_3633, li_3730, li_3742, li_3754, li_3766, li_4095, li_4096, li_4300, li_9011, li_9999, li_10000, li_36864, li_65536, li_1000000, ll_0, ll_1, ll_100, ll_11, ll_16, ll_20, ll_3, ll_32, ll_50, ll_8, ll_96, ll_99, ll_9999, ne_m1, e_if, e_ret, e_rz0, e_rz1, e_rzb, e_call, bCallX_eq, nI_add, nI_mul, nI_succ1, le_i, lt_i, eq_i, m1_i, m1_le, m1_lt, m1_ge, m1_eq, ite_true, ite_false, if_true, if_false, hS.1]
  · exact (((((FI.w 0 _ (Or.inl rfl)).tr (FI.w 1 _ (Or.inl rfl))).tr (FI.w 2 _ (Or.inl rfl))).tr (FI.w 3 _ (Or.inl rfl))).tr (FI.w 4 _ (Or.inl rfl))).tr (FI.w 5 _ (Or.inl rfl))
  · refine ⟨?_, ?_, ?_, ?_, ?_, ?_, fun k h => absurd h (by show ¬ k < 0; omega)⟩ <;> simp (disch := omega) only [sI_wI_eq, sI_wI_ne] <;> rfl
theorem t_add (hS : RoS s x) (hD : RoD s x ρ) (hN : rN ρ < 8) {y g : Nat} : ∃ t, fX3_add x (nI y) (nI g) s = some ((), t) ∧ FI (rAt x) s t ∧ RoD t x (rO ρ, rB ρ, rH ρ, rS ρ, rP ρ ++ [(y, g)]) := by
  obtain ⟨d0, d1, d2, d3, d4, d5, d6⟩ := hD
  obtain ⟨q1, q2, q3, q4, q5⟩ := hS
  refine ⟨wI (wI (wI (wI s (x + 1) (rN ρ) (nI y)) (x + 2) (rN ρ) (nI g)) x 2 (nI (rN ρ + 1))) x 3 (nI (rL ρ + y)), ?_, ?_, ?_⟩
  · unfold fX3_add
    simp (disch := first | omega | (rw [q4]; exact ⟨rfl, hN, by decide⟩) | (rw [sH_wI, q5]; exact ⟨rfl, hN, by decide⟩)) only [e_GI, e_GR, e_PI, e_SIx, e_AIx, sH_wI, sP_wI, sI_wI_eq, sI_wI_ne, li_0, li_1, li_2, li_3, li_4, li_5, li_6, li_7, li_8, li_9, li_10, li_11, li_12, li_13, li_14, li_15, li_16, li_17, li_20, li_24, li_25, li_29, li_31, li_32, li_33, li_37, li_40, li_41, li_48, li_49, li_50, li_56, li_57, li_59, li_60, li_61, li_62, li_63, li_70, li_73, li_85, li_97, li_98, li_99, li_100, li_101, li_102, li_103, li_104, li_105, li_107, li_108, li_109, li_110, li_111, li_112, li_114, li_115, li_116, li_117, li_118, li_119, li_121, li_122, li_140, li_193, li_200, li_240, li_255, li_289, li_290, li_300, li_302, li_314, li_326, li_860, li_880, li_900, li_999, li_1024, li_2801, li_3440, li_3441, li_3442, li_3443, li_3444, li_3447, li_3448, li_3449, li_3457, li_3465, li_3469, li_3473, li_3477, li_3501, li_3513, li_3525, li_3537, li_3633, li_3730, li_3742, li_3754, li_3766, li_4095, li_4096, li_4300, li_9011, li_9999, li_10000, li_36864, li_65536, li_1000000, ll_0, ll_1, ll_100, ll_11, ll_16, ll_20, ll_3, ll_32, ll_50, ll_8, ll_96, ll_99, ll_9999, ne_m1, e_if, e_ret, e_rz0, e_rz1, e_rzb, e_call, bCallX_eq, nI_add, nI_mul, nI_succ1, le_i, lt_i, eq_i, m1_i, m1_le, m1_lt, m1_ge, m1_eq, ite_true, ite_false, if_true, if_false, q1, q2, q3, d2, d3, show ¬ 8 ≤ rN ρ by omega]
  · exact (((FI.w _ _ (Or.inr (Or.inl rfl))).tr (FI.w _ _ (Or.inr (Or.inr rfl)))).tr (FI.w 2 _ (Or.inl rfl))).tr (FI.w 3 _ (Or.inl rfl))
  · have hl : (rP ρ ++ [(y, g)]).length = rN ρ + 1 := by rw [List.length_append]; rfl
    refine ⟨?_, ?_, ?_, ?_, ?_, ?_, fun k hk => ?_⟩
    · simp (disch := omega) only [sI_wI_ne]; exact d0
    · simp (disch := omega) only [sI_wI_ne]; exact d1
    · simp (disch := omega) only [sI_wI_eq, sI_wI_ne]; show _ = nI (rP ρ ++ [(y, g)]).length; rw [hl]
    · simp (disch := omega) only [sI_wI_eq]
      show _ = nI (qT (rP ρ ++ [(y, g)])); rw [qT_snoc]; rfl
    · simp (disch := omega) only [sI_wI_ne]; exact d4
    · simp (disch := omega) only [sI_wI_ne]; exact d5
    · have hk : k < (rP ρ ++ [(y, g)]).length := hk
      rw [hl] at hk
      show _ = nI (pY (rP ρ ++ [(y, g)]) k) ∧ _ = nI (pA (rP ρ ++ [(y, g)]) k)
      by_cases hk2 : k < rN ρ
      · rw [pY_app hk2, pA_app hk2]
        simp (disch := omega) only [sI_wI_ne]
        exact d6 k hk2
      · have e : k = rN ρ := by omega
        subst e
        rw [pY_app2 (Nat.le_refl _), pA_app2 (Nat.le_refl _), Nat.sub_self]
        simp (disch := omega) only [sI_wI_eq, sI_wI_ne]
        exact ⟨rfl, rfl⟩
theorem t_tieOn {y : Nat} {σ : rR} (hS : RoS s x) (hD : RoD s x ρ) (hS2 : RoS s y) (hD2 : RoD s y σ) (hxy : x + 2 < y ∨ y + 2 < x) (hN : rN ρ + rN σ ≤ 8) (h1 : rS ρ ≤ 15) (h2 : rS σ ≤ 15) : ∃ t, fX3_tieOn x y s = some ((), t) ∧ FI (fun b => rAt x b ∨ rAt y b) s t ∧ RoD t x (rO ρ, rB ρ, rH ρ, max (rS ρ) (rS σ), rP ρ ++ rP σ) ∧ RoD t y r0 := by
  unfold fX3_tieOn
  have hA : ∀ b, rAt x b → rAt x b ∨ rAt y b := fun b h => Or.inl h
  have key := loop_s (fun n k => fX3_tieOn_2 n x y (nI k)) (fun k u => FI (rAt x) s u ∧ RoD u x (rO ρ, rB ρ, rH ρ, rS ρ, rP ρ ++ (rP σ).take k)) (rN σ) (fun q => FI (fun b => rAt x b ∨ rAt y b) s q.2 ∧ RoD q.2 x (rO ρ, rB ρ, rH ρ, max (rS ρ) (rS σ), rP ρ ++ rP σ) ∧ RoD q.2 y r0) ?_ ?_ fu 0 s (by omega) (by unfold fu; omega) ⟨FI.rf, by rw [List.take_zero, List.append_nil]; exact hD⟩
  · obtain ⟨⟨⟨⟩, t⟩, h3, h4⟩ := key
    exact ⟨t, h3, h4⟩
  · rintro n k u hk ⟨hF, hu⟩
    have hk' : ¬ rN σ ≤ k := by omega
    have hSu := hS.mv hF.2
    have hS2u := hS2.mv hF.2
    have hD2u := hD2.fi hF (by show ¬ (y = x ∨ y = x + 1 ∨ y = x + 2); omega) (by show ¬ (y + 1 = x ∨ y + 1 = x + 1 ∨ y + 1 = x + 2); omega) (by show ¬ (y + 2 = x ∨ y + 2 = x + 1 ∨ y + 2 = x + 2); omega)
    have hl : (rP ρ ++ (rP σ).take k).length = rN ρ + k := by rw [List.length_append, List.length_take, Nat.min_eq_left (Nat.le_of_lt hk)]
    obtain ⟨t, e1, e2, e3⟩ := t_add hSu hu (by show (rP ρ ++ (rP σ).take k).length < 8; rw [hl]; omega) (y := pY (rP σ) k) (g := pA (rP σ) k)
    refine ⟨t, ⟨hF.tr e2, ?_⟩, ?_⟩
    · rw [take_snoc hk, ← List.append_assoc]; exact e3
    · show fX3_tieOn_2 (n + 1) x y _ u = _
      rw [qX3_tieOn_2]
      simp (disch := omega) only [xGIe hS2u.1 hD2u.2.2.1, xGR hS2u.1 hS2u.2.1, xGR hS2u.1 hS2u.2.2.1, xAIe hS2u.2.2.2.1 (show k < 8 by omega) (by decide) (hD2u.2.2.2.2.2.2 k hk).1, xAIe hS2u.2.2.2.2 (show k < 8 by omega) (by decide) (hD2u.2.2.2.2.2.2 k hk).2, e_callV hSu.1, e1, li_0, li_1, li_2, li_3, li_4, li_5, li_6, li_7, li_8, li_9, li_10, li_11, li_12, li_13, li_14, li_15, li_16, li_17, li_20, li_24, li_25, li_29, li_31, li_32, li_33, li_37, li_40, li_41, li_48, li_49, li_50, li_56, li_57, li_59, li_60, li_61, li_62, li_63, li_70, li_73, li_85, li_97, li_98, li_99, li_100, li_101, li_102, li_103, li_104, li_105, li_107, li_108, li_109, li_110, li_111, li_112, li_114, li_115, li_116, li_117, li_118, li_119, li_121, li_122, li_140, li_193, li_200, li_240, li_255, li_289, li_290, li_300, li_302, li_314, li_326, li_860, li_880, li_900, li_999, li_1024, li_2801, li_3440, li_3441, li_3442, li_3443, li_3444, li_3447, li_3448, li_3449, li_3457, li_3465, li_3469, li_3473, li_3477, li_3501, li_3513, li_3525, li_3537, li_3633, li_3730, li_3742, li_3754, li_3766, li_4095, li_4096, li_4300, li_9011, li_9999, li_10000, li_36864, li_65536, li_1000000, ll_0, ll_1, ll_100, ll_11, ll_16, ll_20, ll_3, ll_32, ll_50, ll_8, ll_96, ll_99, ll_9999, ne_m1, e_if, e_ret, e_rz0, e_rz1, e_rzb, e_call, bCallX_eq, nI_add, nI_mul, nI_succ1, le_i, lt_i, eq_i, m1_i, m1_le, m1_lt, m1_ge, m1_eq, ite_true, ite_false, if_true, if_false, hk']
  · rintro n u ⟨hF, hu⟩
    rw [List.take_length] at hu
    have hSu := hS.mv hF.2
    have hS2u := hS2.mv hF.2
    have hD2u := hD2.fi hF (by show ¬ (y = x ∨ y = x + 1 ∨ y = x + 2); omega) (by show ¬ (y + 1 = x ∨ y + 1 = x + 1 ∨ y + 1 = x + 2); omega) (by show ¬ (y + 2 = x ∨ y + 2 = x + 1 ∨ y + 2 = x + 2); omega)
    obtain ⟨t, e1, e2, e3⟩ := t_clear (s := wI u x 5 (nI (max (rS ρ) (rS σ)))) (x := y) (hS2u.mv rfl)
    obtain ⟨d0, d1, d2, d3, d4, d5, d6⟩ := hu
    have d5 : sI u x 5 = nI (rS ρ) := d5
    refine ⟨((), t), ?_, ?_, ?_, e3⟩
    · show fX3_tieOn_2 (n + 1) x y _ u = _
      rw [qX3_tieOn_2]
      unfold fX3_tieOn_32
      simp (disch := omega) only [xGIe hS2u.1 hD2u.2.2.1, xGIe hSu.1 d5, xGIe hS2u.1 hD2u.2.2.2.2.2.1, xPI hSu.1, li_0, li_1, li_2, li_3, li_4, li_5, li_6, li_7, li_8, li_9, li_10, li_11, li_12, li_13, li_14, li_15, li_16, li_17, li_20, li_24, li_25, li_29, li_31, li_32, li_33, li_37, li_40, li_41, li_48, li_49, li_50, li_56, li_57, li_59, li_60, li_61, li_62, li_63, li_70, li_73, li_85, li_97, li_98, li_99, li_100, li_101, li_102, li_103, li_104, li_105, li_107, li_108, li_109, li_110, li_111, li_112, li_114, li_115, li_116, li_117, li_118, li_119, li_121, li_122, li_140, li_193, li_200, li_240, li_255, li_289, li_290, li_300, li_302, li_314, li_326, li_860, li_880, li_900, li_999, li_1024, li_2801, li_3440, li_3441, li_3442, li_3443, li_3444, li_3447, li_3448, li_3449, li_3457, li_3465, li_3469, li_3473, li_3477, li_3501, li_3513, li_3525, li_3537, li_3633, li_3730, li_3742, li_3754, li_3766, li_4095, li_4096, li_4300, li_9011, li_9999, li_10000, li_36864, li_65536, li_1000000, ll_0, ll_1, ll_100, ll_11, ll_16, ll_20, ll_3, ll_32, ll_50, ll_8, ll_96, ll_99, ll_9999, ne_m1, e_if, e_ret, e_rz0, e_rz1, e_rzb, e_call, bCallX_eq, nI_add, nI_mul, nI_succ1, le_i, lt_i, eq_i, m1_i, m1_le, m1_lt, m1_ge, m1_eq, ite_true, ite_false, if_true, if_false, Nat.le_refl, jMax_i]
      rw [x_callV (s := wI u x 5 (nI (max (rS ρ) (rS σ)))) (t := t) (x := ()) hS2u.1 e1]
      rfl
    · exact ((hF.mo hA).tr (FI.w 5 _ (Or.inl (Or.inl rfl)))).tr (e2.mo fun b h => Or.inr h)
    · have g0 := e2.1 x (by show ¬ (x = y ∨ x = y + 1 ∨ x = y + 2); omega)
      have g1 := e2.1 (x + 1) (by show ¬ (x + 1 = y ∨ x + 1 = y + 1 ∨ x + 1 = y + 2); omega)
      have g2 := e2.1 (x + 2) (by show ¬ (x + 2 = y ∨ x + 2 = y + 1 ∨ x + 2 = y + 2); omega)
      unfold RoD
      rw [g0, g1, g2]
      refine ⟨?_, ?_, ?_, ?_, ?_, ?_, fun k hk => ?_⟩ <;> simp (disch := omega) only [sI_wI_eq, sI_wI_ne]
      · exact d0
      · exact d1
      · exact d2
      · exact d3
      · exact d4
      · exact d6 k hk
end TW

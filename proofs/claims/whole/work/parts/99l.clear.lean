/-! A BLOCK AND A WORLD CLEARED -/
/-- the 860 places from b on are set, nothing else was written -/
def Cb (t s : mS) (b : Nat) (P : Nat → Bool) : Prop := FI (fun c => c = 118) t s ∧ (∀ j, ¬ (b ≤ j ∧ j < b + 860) → sI s 118 j = sI t 118 j) ∧ ∀ i, i < 860 → sI s 118 (b + i) = if P i then mI else nI 0
section CLEAR
variable {t s v : mS} {b : Nat}
theorem Cb.rt {P : Nat → Bool} (hT : RT t) (h : Cb t s b P) : RT s := hT.mv h.1.2
theorem Cb.put {P P' : Nat → Bool} {i : Nat} (h : Cb t s b P) (hi : i < 860) (h1 : P' i = true) (h2 : ∀ j, j ≠ i → P' j = P j) : Cb t (wI s 118 (b + i) mI) b P' := by
  obtain ⟨a1, a2, a3⟩ := h
  refine ⟨a1.tr (FI.w _ _ rfl), fun j hj => ?_, fun j hj => ?_⟩
  · rw [sI_wI_ne (Or.inr (by omega))]; exact a2 j hj
  · by_cases h0 : j = i
    · rw [h0, sI_wI_eq, h1, if_pos rfl]
    · rw [sI_wI_ne (Or.inr (by omega)), h2 j h0]; exact a3 j hj
/-- which places of a block are cleared to -1 -/
def cP (i : Nat) : Bool := decide ((37 ≤ i ∧ i < 61) ∨ (9 ≤ i ∧ i < 17))
def cP3 (k i : Nat) : Bool := decide ((37 ≤ i ∧ i < 61) ∨ (9 ≤ i ∧ i < 9 + k))
def cP2 (k i : Nat) : Bool := decide ((37 ≤ i ∧ i < 37 + k) ∨ (49 ≤ i ∧ i < 49 + k))
theorem x_clr3 (hT : RT t) (hb : b ≤ 3440) (hs : Cb t s b (cP3 0)) : ∃ u, fX9_clear_62 113 (nI b) s = some ((), u) ∧ Cb t u b cP := by
  have key := loop_s (fun n k => fX9_clear_64 n 113 (nI b) (nI k)) (fun k u => Cb t u b (cP3 k)) 8 (fun q => Cb t q.2 b cP) (fun n k u hk hI => ?_) (fun n u hI => ?_) fu 0 s (by decide) (by unfold fu; omega) hs
  · obtain ⟨⟨⟨⟩, u⟩, h1, h2⟩ := key
    exact ⟨u, h1, h2⟩
  · have hTu := hI.rt hT
    refine ⟨wI u 118 (b + (9 + k)) mI, hI.put (by omega) (decide_eq_true (Or.inr ⟨by omega, by omega⟩)) (fun j hj => ?_), ?_⟩
    · unfold cP3
      by_cases h0 : (37 ≤ j ∧ j < 61) ∨ (9 ≤ j ∧ j < 9 + k)
      · rw [decide_eq_true h0, decide_eq_true (by omega)]
      · rw [decide_eq_false h0, decide_eq_false (by omega)]
    · show fX9_clear_64 (n + 1) 113 (nI b) (nI k) u = fX9_clear_64 n 113 (nI b) (nI (k + 1)) _
      rw [qX9_clear_64, e_if, if_neg (by rw [li_8, le_i (by omega) (by omega)]; omega), rt_c hTu, li_9, nI_add, nI_add, rt_cell hTu (by omega), nI_succ1, show b + 9 + k = b + (9 + k) by omega]
      rfl
  · refine ⟨((), u), ?_, ?_⟩
    · show fX9_clear_64 (n + 1) 113 (nI b) (nI 8) u = _
      rw [qX9_clear_64, e_if, if_pos (by decide)]
      rfl
    · exact hI
theorem x_clr2 (hT : RT t) (hb : b ≤ 3440) (hs : Cb t s b (cP2 0)) : ∃ u, fX9_clear_24 113 (nI b) s = some ((), u) ∧ Cb t u b cP := by
  have key := loop_s (fun n k => fX9_clear_26 n 113 (nI b) (nI k)) (fun k u => Cb t u b (cP2 k)) 12 (fun q => Cb t q.2 b cP) (fun n k u hk hI => ?_) (fun n u hI => ?_) fu 0 s (by decide) (by unfold fu; omega) hs
  · obtain ⟨⟨⟨⟩, u⟩, h1, h2⟩ := key
    exact ⟨u, h1, h2⟩
  · have hTu := hI.rt hT
    have hTu2 : RT (wI u 118 (b + (37 + k)) mI) := hTu.w
    have h1 : Cb t (wI u 118 (b + (37 + k)) mI) b (fun i => decide ((37 ≤ i ∧ i < 37 + (k + 1)) ∨ (49 ≤ i ∧ i < 49 + k))) := hI.put (by omega) (decide_eq_true (Or.inl ⟨by omega, by omega⟩)) (fun j hj => by
      unfold cP2
      by_cases h0 : (37 ≤ j ∧ j < 37 + k) ∨ (49 ≤ j ∧ j < 49 + k)
      · rw [decide_eq_true h0, decide_eq_true (by omega)]
      · rw [decide_eq_false h0, decide_eq_false (by omega)])
    refine ⟨wI (wI u 118 (b + (37 + k)) mI) 118 (b + (49 + k)) mI, h1.put (by omega) (decide_eq_true (Or.inr ⟨by omega, by omega⟩)) (fun j hj => ?_), ?_⟩
    · unfold cP2
      by_cases h0 : (37 ≤ j ∧ j < 37 + (k + 1)) ∨ (49 ≤ j ∧ j < 49 + k)
      · rw [decide_eq_true h0, decide_eq_true (by omega)]
      · rw [decide_eq_false h0, decide_eq_false (by omega)]
    · show fX9_clear_26 (n + 1) 113 (nI b) (nI k) u = fX9_clear_26 n 113 (nI b) (nI (k + 1)) _
      rw [qX9_clear_26, e_if, if_neg (by rw [li_12, le_i (by omega) (by omega)]; omega), rt_c hTu, li_37, nI_add, nI_add, rt_cell hTu (by omega), show b + 37 + k = b + (37 + k) by omega]
      rw [show (-1 : Int32) = mI from rfl, rt_c hTu2, li_49, nI_add, nI_add, rt_cell hTu2 (by omega), nI_succ1, show b + 49 + k = b + (49 + k) by omega]
  · have h3 : Cb t u b (cP3 0) := ⟨hI.1, hI.2.1, fun i hi => by
      rw [hI.2.2 i hi]
      unfold cP2 cP3
      by_cases h0 : (37 ≤ i ∧ i < 37 + 12) ∨ (49 ≤ i ∧ i < 49 + 12)
      · rw [decide_eq_true h0, decide_eq_true (by omega)]
      · rw [decide_eq_false h0, decide_eq_false (by omega)]⟩
    obtain ⟨w, e1, e2⟩ := x_clr3 hT hb h3
    refine ⟨((), w), ?_, e2⟩
    show fX9_clear_26 (n + 1) 113 (nI b) (nI 12) u = _
    rw [qX9_clear_26, e_if, if_pos (by decide)]
    exact e1
theorem x_clear (hT : RT t) (hb : b ≤ 3440) : ∃ u, fX9_clear 113 (nI b) t = some ((), u) ∧ Cb t u b cP := by
  have key := loop_s (fun n k => fX9_clear_2 n 113 (nI b) (nI k)) (fun k u => FI (fun c => c = 118) t u ∧ (∀ j, ¬ (b ≤ j ∧ j < b + 860) → sI u 118 j = sI t 118 j) ∧ ∀ i, i < k → sI u 118 (b + i) = nI 0) 860 (fun q => Cb t q.2 b cP) (fun n k u hk hI => ?_) (fun n u hI => ?_) fu 0 t (by decide) (by unfold fu; omega) ⟨⟨fun _ _ => rfl, rfl⟩, fun _ _ => rfl, fun i hi => absurd hi (by omega)⟩
  · obtain ⟨⟨⟨⟩, u⟩, h1, h2⟩ := key
    exact ⟨u, h1, h2⟩
  · obtain ⟨a1, a2, a3⟩ := hI
    have hTu : RT u := hT.mv a1.2
    refine ⟨wI u 118 (b + k) (nI 0), ⟨a1.tr (FI.w _ _ rfl), fun j hj => ?_, fun i hi => ?_⟩, ?_⟩
    · rw [sI_wI_ne (Or.inr (by omega))]; exact a2 j hj
    · by_cases h0 : i = k
      · rw [h0, sI_wI_eq]
      · rw [sI_wI_ne (Or.inr (by omega))]; exact a3 i (by omega)
    · show fX9_clear_2 (n + 1) 113 (nI b) (nI k) u = fX9_clear_2 n 113 (nI b) (nI (k + 1)) _
      rw [qX9_clear_2, e_if, if_neg (by rw [li_860, le_i (by omega) (by omega)]; omega), rt_c hTu, nI_add, rt_cell hTu (by omega), nI_succ1]
      rfl
  · obtain ⟨a1, a2, a3⟩ := hI
    have h2 : Cb t u b (cP2 0) := ⟨a1, a2, fun i hi => by
      unfold cP2
      rw [decide_eq_false (by omega), a3 i hi]
      rfl⟩
    obtain ⟨w, e1, e2⟩ := x_clr2 hT hb h2
    refine ⟨((), w), ?_, e2⟩
    show fX9_clear_2 (n + 1) 113 (nI b) (nI 860) u = _
    rw [qX9_clear_2, e_if, if_pos (by rw [li_860, le_i (by omega) (by omega)]; omega)]
    exact e1
/-- the class's world cleared, cells of its fields and its ropes -/
def clS (v : mS) (a : Nat) : mS := wP (wI (wI (wI (wI (wI (wI (wI (wI (wI v a 0 (nI 0)) a 1 (nI 0)) a 2 (nI 0)) a 3 (nI 0)) a 4 (nI 0)) a 5 (nI 0)) a 6 (nI 0)) a 7 (nI 0)) a 11 (nI 0)) a 16 0
theorem c_clear {a : Nat} (hw : WoS v a) : ∃ u, fX7_clear a v = some ((), u) ∧ FI (fun c => a + 7 < c ∧ c < a + 44) (clS v a) u ∧ WoS u a ∧ WoD u a w0 := by
  have hk : (sH v a).1 = 7 := hw.1
  have hwc : WoS (clS v a) a := by
    unfold clS
    exact (((((((((hw.w).w).w).w).w).w).w).w).w).p
  have key := loop_s (fun n k => fX7_clear_52 n a (nI k)) (fun k u => FI (fun c => a + 7 < c ∧ c < a + 44) (clS v a) u ∧ ∀ r, r < k → RoD u (a + 8 + 3 * r) r0) 12 (fun q => FI (fun c => a + 7 < c ∧ c < a + 44) (clS v a) q.2 ∧ ∀ r, r < 12 → RoD q.2 (a + 8 + 3 * r) r0) (fun n k u hk hI => ?_) (fun n u hI => ?_) fu 0 (clS v a) (by decide) (by unfold fu; omega) ⟨⟨fun _ _ => rfl, rfl⟩, fun r hr => absurd hr (by omega)⟩
  · obtain ⟨⟨⟨⟩, u⟩, h1, h2, h3⟩ := key
    have g0 : sI u a = sI (clS v a) a := h2.1 a (by show ¬ (_ ∧ _); omega)
    refine ⟨u, ?_, h2, hwc.fi h2, ?_, ?_, ?_, ?_, ?_, ?_, ?_, ?_, ?_, fun p hp => absurd hp (by show ¬ p < 0; omega), fun f hf => absurd hf (by show ¬ f < 0; omega), fun r hr => h3 r hr⟩
    · unfold fX7_clear
      rw [xPI hk]
      rw [xPI (s := wI v a 0 0) hk, xPI (s := wI (wI v a 0 0) a 1 0) hk, xPI (s := wI (wI (wI v a 0 0) a 1 0) a 2 0) hk, xPI (s := wI (wI (wI (wI v a 0 0) a 1 0) a 2 0) a 3 0) hk, xPI (s := wI (wI (wI (wI (wI v a 0 0) a 1 0) a 2 0) a 3 0) a 4 0) hk, xPI (s := wI (wI (wI (wI (wI (wI v a 0 0) a 1 0) a 2 0) a 3 0) a 4 0) a 5 0) hk, xPI (s := wI (wI (wI (wI (wI (wI (wI v a 0 0) a 1 0) a 2 0) a 3 0) a 4 0) a 5 0) a 6 0) hk, xPI (s := wI (wI (wI (wI (wI (wI (wI (wI v a 0 0) a 1 0) a 2 0) a 3 0) a 4 0) a 5 0) a 6 0) a 7 0) hk, xPR (s := wI (wI (wI (wI (wI (wI (wI (wI (wI v a 0 0) a 1 0) a 2 0) a 3 0) a 4 0) a 5 0) a 6 0) a 7 0) a 11 0) hk]
      exact h1
    all_goals (rw [g0]; unfold clS; rw [sI_wP]; simp (disch := omega) only [sI_wI_eq, sI_wI_ne]; rfl)
  · obtain ⟨a1, a2⟩ := hI
    have hwu : WoS u a := hwc.fi a1
    obtain ⟨c1, c2⟩ := hwu.2.2.2.2.2.2.2.2.2.2.2.2.2.2.2 k hk
    obtain ⟨w, e1, e2, e3⟩ := t_clear c2
    have e2' : ∀ b, ¬ (b = a + 8 + 3 * k ∨ b = a + 8 + 3 * k + 1 ∨ b = a + 8 + 3 * k + 2) → sI w b = sI u b := fun b hb => e2.1 b hb
    refine ⟨w, ⟨a1.tr (e2.mo (fun b hb => ?_)), fun r hr => ?_⟩, ?_⟩
    · have hb : b = a + 8 + 3 * k ∨ b = a + 8 + 3 * k + 1 ∨ b = a + 8 + 3 * k + 2 := hb
      exact ⟨by omega, by omega⟩
    · by_cases h0 : r = k
      · rw [h0]; exact e3
      · exact (a2 r (by omega)).mv (e2' _ (by omega)) (e2' _ (by omega)) (e2' _ (by omega))
    · show fX7_clear_52 (n + 1) a (nI k) u = fX7_clear_52 n a (nI (k + 1)) w
      rw [qX7_clear_52, e_if, if_neg (by rw [li_12, le_i (by omega) (by omega)]; omega), xGR hwu.1 hwu.2.2.2.1, xAR hwu.2.2.2.2.2.2.2.2.2.2.1 hk (by decide) c1, e_callV c2.1, x_call e1, nI_succ1]
  · refine ⟨((), u), ?_, hI⟩
    show fX7_clear_52 (n + 1) a (nI 12) u = _
    rw [qX7_clear_52, e_if, if_pos (by decide)]
    rfl
end CLEAR

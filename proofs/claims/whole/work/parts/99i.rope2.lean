/-! THE PART OF A ROPE, WHOLE -/
def rop (W : wW) (r : Nat) (ρ : rR) : wW := (wYr W, wWa W, wBo W, wSi W, wRa W, wRb W, wDr W, wPe W, wPa W, wDi W, wFl W, wFd W, (fun i => if i = r then ρ else wRo W i), wLa W)
section ROPEB
variable {v t v0 t0 u : mS} {C : Nat → Nat} {N a n nr x y : Nat} {nt : tN} {W : wW} {wt : Bool}
theorem roR_n {i r o l h s : Nat} (h1 : i ≠ 3477 + r) (h2 : i ≠ 3501 + r) (h3 : i ≠ 3513 + r) (h4 : i ≠ 3525 + r) : sI (roR t r o l h s) 118 i = sI t 118 i := by
  unfold roR
  rw [sI_wI_ne (Or.inl (by decide)), sI_wI_ne (Or.inr h4), sI_wI_ne (Or.inr h3), sI_wI_ne (Or.inr h2), sI_wI_ne (Or.inr h1)]
theorem roR_x {r o l h s : Nat} (hr : r < 12) : sI (roR t r o l h s) 118 (3477 + r) = nI o ∧ sI (roR t r o l h s) 118 (3501 + r) = nI h ∧ sI (roR t r o l h s) 118 (3513 + r) = nI s ∧ sI (roR t r o l h s) 118 (3525 + r) = nI l := by
  unfold roR
  refine ⟨?_, ?_, ?_, ?_⟩
  · rw [sI_wI_ne (Or.inl (by decide)), sI_wI_ne (Or.inr (by omega)), sI_wI_ne (Or.inr (by omega)), sI_wI_ne (Or.inr (by omega)), sI_wI_eq]
  · rw [sI_wI_ne (Or.inl (by decide)), sI_wI_ne (Or.inr (by omega)), sI_wI_ne (Or.inr (by omega)), sI_wI_eq]
  · rw [sI_wI_ne (Or.inl (by decide)), sI_wI_ne (Or.inr (by omega)), sI_wI_eq]
  · rw [sI_wI_ne (Or.inl (by decide)), sI_wI_eq]
theorem roR_3 {j r o l h s : Nat} (hj : j ≠ 21) : sI (roR t r o l h s) 113 j = sI t 113 j := by
  unfold roR
  rw [sI_wI_ne (Or.inr hj), sI_wI_ne (Or.inl (by decide)), sI_wI_ne (Or.inl (by decide)), sI_wI_ne (Or.inl (by decide)), sI_wI_ne (Or.inl (by decide))]
theorem roR_ok {r o l h s : Nat} (g : RG u C N a) : RG (roR u r o l h s) C N a := by
  unfold roR
  exact (((g.c.c).c).c).i (by decide)
theorem KR.jw {o sl : Nat} {ho : Bool} {ps : List (Nat × Nat)} (hJ : JW v0 t0 C W n nr nt wt) (hI : JI C N W n nr nt) (h : KR v0 v t0 u C n nr x y nt) (hr : nr < 6) (hD : RoD v (56 + 3 * nr) (some o, none, ho, sl, ps)) (hP : PC u nr ps) (hsl : sl ≤ 15) (hps : 1 ≤ ps.length ∧ ps.length ≤ 4 ∧ ∀ k, k < ps.length → 1 ≤ pY ps k ∧ pY ps k ≤ 200 ∧ pA ps k ≤ 300) (ho' : o < wPe W) : JW (wI v 107 3 (nI (nr + 1))) (roR u nr o ps.length ho.toNat sl) C (rop W nr (some o, none, ho, sl, ps)) (n + 1) (nr + 1) (addT nt n x y (8 + nr)) wt := by
  obtain ⟨⟨a1, a2, a3, a4, a5, a6⟩, b1, b2, b3, b4, b5⟩ := hJ
  obtain ⟨⟨c1, c2, c3, c4⟩, d1, d2, d3, d4, d5⟩ := h
  have e7 : ∀ b, b ≠ 107 → sI (wI v 107 3 (nI (nr + 1))) b = sI v b := fun b hb => by
    funext j
    exact sI_wI_ne (Or.inl hb)
  have g48 : ∀ j, sI (wI v 107 3 (nI (nr + 1))) 48 j = sI v0 48 j := fun j => by
    rw [e7 48 (by decide), c3 48 ⟨by decide, by decide⟩ (by omega)]
  have gw : ∀ b, wA 48 b → ¬ (56 + 3 * nr ≤ b ∧ b ≤ 58 + 3 * nr) → sI (wI v 107 3 (nI (nr + 1))) b = sI v0 b := fun b hb h0 => by
    rw [e7 b (by have := hb.2; omega), c3 b hb h0]
  obtain ⟨f0, f1, f2, f3, f4, f5, f6, f7, f11, fp, ff, fr⟩ := a2
  obtain ⟨r0', r1, r2, r3, r4, r5, r6, r7, r8, rp, rf, rr, rw', rl⟩ := b1
  obtain ⟨w1, w2, w3, w4, w5, w6, w7, w8, w9, w10, w11, w12, w13, w14, w15, w16⟩ := rw'
  obtain ⟨x1, x2, x3, x4⟩ := roR_x (t := u) (r := nr) (o := o) (l := ps.length) (h := ho.toNat) (s := sl) (by omega)
  obtain ⟨p1, p2, p3⟩ := hps
  have hg : ∀ i, i ≠ 3477 + nr → i ≠ 3501 + nr → i ≠ 3513 + nr → i ≠ 3525 + nr → ¬ (3537 + 8 * nr ≤ i ∧ i < 3545 + 8 * nr) → ¬ (3633 + 8 * nr ≤ i ∧ i < 3641 + 8 * nr) → sI (roR u nr o ps.length ho.toNat sl) 118 i = sI t0 118 i := fun i h1 h2 h3 h4 h5 h6 => by
    rw [roR_n h1 h2 h3 h4, d2 i h5 h6]
  have hrI : rI (some o, none, ho, sl, ps) := ⟨by show ps.length ≤ 8; omega, p3, hsl, fun p hp => by cases hp; omega, fun p hp => (by cases hp), fun h0 => absurd h0 (by show ¬ ps.length = 0; omega)⟩
  refine ⟨⟨(a1.fi c1).mv rfl, ⟨?_, ?_, ?_, ?_, ?_, ?_, ?_, ?_, ?_, ?_, ?_, ?_⟩, ?_, ?_, ?_, ?_⟩, ⟨?_, ?_, ?_, ?_, ?_, ?_, ?_, ?_, ?_, ?_, ?_, ?_, ?_, ?_⟩, ?_, ?_, ?_, ?_⟩
  · rw [g48 0]; exact f0
  · rw [g48 1]; exact f1
  · rw [g48 2]; exact f2
  · rw [g48 3]; exact f3
  · rw [g48 4]; exact f4
  · rw [g48 5]; exact f5
  · rw [g48 6]; exact f6
  · rw [g48 7]; exact f7
  · rw [g48 11]; exact f11
  · intro p hp
    rw [gw 49 ⟨by decide, by decide⟩ (by omega), gw 50 ⟨by decide, by decide⟩ (by omega)]
    exact fp p hp
  · intro i hi
    rw [gw 52 ⟨by decide, by decide⟩ (by omega), gw 53 ⟨by decide, by decide⟩ (by omega), gw 54 ⟨by decide, by decide⟩ (by omega)]
    exact ff i hi
  · intro q hq
    show RoD _ (48 + 8 + 3 * q) (if q = nr then (some o, none, ho, sl, ps) else wRo W q)
    by_cases h0 : q = nr
    · rw [if_pos h0, h0]
      exact hD.mv (e7 _ (by omega)) (e7 _ (by omega)) (e7 _ (by omega))
    · rw [if_neg h0]
      exact (fr q hq).mv (gw _ ⟨by omega, by omega⟩ (by omega)) (gw _ ⟨by omega, by omega⟩ (by omega)) (gw _ ⟨by omega, by omega⟩ (by omega))
  · show sP v 48 16 = 0
    rw [c1.P]; exact a3
  · obtain ⟨n1, n2⟩ := c4
    refine ⟨by rw [sI_wI_ne (Or.inr (by decide))]; exact n1, fun i hi => ?_⟩
    rw [e7 108 (by decide), e7 109 (by decide), e7 110 (by decide)]
    exact n2 i hi
  · rw [sI_wI_ne (Or.inr (by decide)), c2 2 (by decide) (by decide) (by decide)]; exact a5
  · exact sI_wI_eq _ _ _ _
  · show sI _ 118 (3440 + 0) = _
    rw [hg _ (by omega) (by omega) (by omega) (by omega) (by omega) (by omega)]; exact r0'
  · show sI _ 118 (3440 + 1) = _
    rw [hg _ (by omega) (by omega) (by omega) (by omega) (by omega) (by omega)]; exact r1
  · show sI _ 118 (3440 + 2) = _
    rw [hg _ (by omega) (by omega) (by omega) (by omega) (by omega) (by omega)]; exact r2
  · show sI _ 118 (3440 + 3) = _
    rw [hg _ (by omega) (by omega) (by omega) (by omega) (by omega) (by omega)]; exact r3
  · show sI _ 118 (3440 + 4) = _
    rw [hg _ (by omega) (by omega) (by omega) (by omega) (by omega) (by omega)]; exact r4
  · show sI _ 118 (3440 + 5) = _
    rw [hg _ (by omega) (by omega) (by omega) (by omega) (by omega) (by omega)]; exact r5
  · show sI _ 118 (3440 + 6) = _
    rw [hg _ (by omega) (by omega) (by omega) (by omega) (by omega) (by omega)]; exact r6
  · show sI _ 118 (3440 + 7) = _
    rw [hg _ (by omega) (by omega) (by omega) (by omega) (by omega) (by omega)]; exact r7
  · show sI _ 118 (3440 + 8) = _
    rw [hg _ (by omega) (by omega) (by omega) (by omega) (by omega) (by omega)]; exact r8
  · intro p hp
    have hp8 : p < 8 := Nat.lt_of_lt_of_le hp w8
    show sI _ 118 _ = _ ∧ sI _ 118 _ = _
    rw [hg _ (by omega) (by omega) (by omega) (by omega) (by omega) (by omega), hg _ (by omega) (by omega) (by omega) (by omega) (by omega) (by omega)]
    exact rp p hp
  · intro i hi
    have hi4 : i < 4 := Nat.lt_of_lt_of_le hi w11
    show sI _ 118 _ = _ ∧ sI _ 118 _ = _ ∧ sI _ 118 _ = _
    rw [hg _ (by omega) (by omega) (by omega) (by omega) (by omega) (by omega), hg _ (by omega) (by omega) (by omega) (by omega) (by omega) (by omega), hg _ (by omega) (by omega) (by omega) (by omega) (by omega) (by omega)]
    exact rf i hi
  · intro q hq
    show RoR _ q (if q = nr then (some o, none, ho, sl, ps) else wRo W q)
    by_cases h0 : q = nr
    · rw [if_pos h0, h0]
      refine ⟨?_, fun _ => ⟨?_, ?_, ?_, ?_, fun k hk => ?_⟩⟩
      · show sI _ 118 (3440 + (85 + nr)) = _
        rw [show 3440 + (85 + nr) = 3525 + nr by omega]; exact x4
      · show sI _ 118 (3440 + (37 + nr)) = _
        rw [show 3440 + (37 + nr) = 3477 + nr by omega]; exact x1
      · show sI _ 118 (3440 + (49 + nr)) = _
        rw [hg _ (by omega) (by omega) (by omega) (by omega) (by omega) (by omega), show 3440 + (49 + nr) = 3489 + nr by omega]
        exact b5.2 nr (Nat.le_refl _) (by omega)
      · show sI _ 118 (3440 + (61 + nr)) = _
        rw [show 3440 + (61 + nr) = 3501 + nr by omega]; exact x2
      · show sI _ 118 (3440 + (73 + nr)) = _
        rw [show 3440 + (73 + nr) = 3513 + nr by omega]; exact x3
      · have hk : k < ps.length := hk
        show sI _ 118 (3440 + (97 + 8 * nr + k)) = _ ∧ sI _ 118 (3440 + (193 + 8 * nr + k)) = _
        rw [roR_n (by omega) (by omega) (by omega) (by omega), roR_n (by omega) (by omega) (by omega) (by omega), show 3440 + (97 + 8 * nr + k) = 3537 + 8 * nr + k by omega, show 3440 + (193 + 8 * nr + k) = 3633 + 8 * nr + k by omega]
        exact hP k hk
    · rw [if_neg h0]
      exact (rr q hq).mv (w13 q).1 fun i hi => by
        show sI _ 118 (3440 + i) = sI t0 118 (3440 + i)
        exact hg _ (by omega) (by omega) (by omega) (by omega) (by omega) (by omega)
  · refine ⟨w1, w2, w3, w4, w5, w6, w7, w8, w9, w10, w11, w12, fun i => ?_, fun i q hq => ?_, fun i q hq => ?_, w16⟩
    · show rI (if i = nr then (some o, none, ho, sl, ps) else wRo W i)
      by_cases h0 : i = nr
      · rw [if_pos h0]; exact hrI
      · rw [if_neg h0]; exact w13 i
    · have hq : rO (if i = nr then (some o, none, ho, sl, ps) else wRo W i) = some q := hq
      show q < wPe W
      by_cases h0 : i = nr
      · rw [if_pos h0] at hq; cases hq; exact ho'
      · rw [if_neg h0] at hq; exact w14 i q hq
    · have hq : rB (if i = nr then (some o, none, ho, sl, ps) else wRo W i) = some q := hq
      show q < wPe W
      by_cases h0 : i = nr
      · rw [if_pos h0] at hq; cases hq
      · rw [if_neg h0] at hq; exact w15 i q hq
  · obtain ⟨l1, l2, l3⟩ := rl
    rw [hI.2.2] at l1 l2 l3
    show LaR _ (wLa W)
    rw [hI.2.2]
    refine ⟨?_, fun k hk => absurd hk (by show ¬ k < 0; omega), fun j hj => absurd hj (by show ¬ j < 0; omega)⟩
    show sI _ 118 (3440 + 289) = _
    rw [hg _ (by omega) (by omega) (by omega) (by omega) (by omega) (by omega)]; exact l1
  · refine RNT.add b2 hI.1 (Or.inr rfl) (Or.inr rfl) (fun j hj => ?_) ?_
    · show sL u 120 j = _
      exact d3 j (by omega)
    · show sL u 120 (56 + (8 + nr)) = _
      rw [show 56 + (8 + nr) = 64 + nr by omega]; exact d4
  · rw [roR_3 (by decide), d5 23 (by omega)]; exact b3
  · exact sI_wI_eq _ _ _ _
  · refine ⟨fun p h1 h2 => ?_, fun q h1 h2 => ?_⟩
    · rw [hg _ (by omega) (by omega) (by omega) (by omega) (by omega) (by omega), hg _ (by omega) (by omega) (by omega) (by omega) (by omega) (by omega)]
      exact b5.1 p h1 h2
    · rw [hg _ (by omega) (by omega) (by omega) (by omega) (by omega) (by omega)]
      exact b5.2 q (by omega) h2
end ROPEB

/-! MORE THAT IS READ -/
theorem pc_mono' {a b : Nat} : ∀ n, (∀ i, i < n → b.testBit i = true → a.testBit i = true) → it (fun k n => n + (b.testBit k).toNat) 0 n ≤ it (fun k n => n + (a.testBit k).toNat) 0 n
  | 0, _ => Nat.le_refl _
  | n + 1, h => by
    have h1 := pc_mono' n (fun i hi => h i (by omega))
    have h2 := h n (by omega)
    rw [it_s, it_s]
    cases hb : b.testBit n with
    | false => simp only [Bool.toNat_false]; omega
    | true => rw [h2 hb]; omega
theorem pc_strict' {a b : Nat} : ∀ n, (∀ i, i < n → b.testBit i = true → a.testBit i = true) → (∃ i, i < n ∧ a.testBit i = true ∧ b.testBit i = false) → it (fun k n => n + (b.testBit k).toNat) 0 n < it (fun k n => n + (a.testBit k).toNat) 0 n
  | 0, _, ⟨i, h, _⟩ => by omega
  | n + 1, h, ⟨i, h3, h4, h5⟩ => by
    rw [it_s, it_s]
    by_cases hi : i = n
    · subst hi
      have h1 := pc_mono' i (fun j hj => h j (by omega))
      rw [h4, h5]
      simp only [Bool.toNat_false, Bool.toNat_true]
      omega
    · have h1 := pc_strict' n (fun j hj => h j (by omega)) ⟨i, by omega, h4, h5⟩
      have h2 := h n (by omega)
      cases hb : b.testBit n with
      | false => simp only [Bool.toNat_false]; omega
      | true => rw [h2 hb]; omega
theorem pc_mono {a b : Nat} (h : ∀ i, i < 12 → b.testBit i = true → a.testBit i = true) : pc b ≤ pc a := pc_mono' 12 h
theorem pc_strict {a b : Nat} (h : ∀ i, i < 12 → b.testBit i = true → a.testBit i = true) (h2 : ∃ i, i < 12 ∧ a.testBit i = true ∧ b.testBit i = false) : pc b < pc a := pc_strict' 12 h h2
theorem pc_ex {a b : Nat} (h : pc b < pc a) : ∃ i, i < 12 ∧ a.testBit i = true ∧ b.testBit i = false := by
  rcases Classical.em (∃ i, i < 12 ∧ a.testBit i = true ∧ b.testBit i = false) with h2 | h2
  · exact h2
  · refine absurd (pc_mono (a := b) (b := a) fun i h3 h4 => ?_) (by omega)
    cases h5 : b.testBit i with
    | true => rfl
    | false => exact absurd ⟨i, h3, h4, h5⟩ h2
theorem pc_two : ∀ r, r < 12 → pc (2 ^ r) = 1 := by decide +kernel
theorem pc_one {m r : Nat} (hr : r < 12) (hb : m.testBit r = true) : pc m = 1 ↔ ∀ i, i < 12 → i ≠ r → m.testBit i = false := by
  have h0 := pc_two r hr
  constructor
  · intro h i hi hir
    cases h1 : m.testBit i with
    | false => rfl
    | true =>
      have h2 : pc (2 ^ r) < pc m := pc_strict (fun j _ h4 => by
        rw [Nat.testBit_two_pow, decide_eq_true_eq] at h4
        subst h4; exact hb) ⟨i, hi, h1, by rw [Nat.testBit_two_pow]; simp; omega⟩
      omega
  · intro h
    have h1 : pc (2 ^ r) ≤ pc m := pc_mono (fun j _ h4 => by
        rw [Nat.testBit_two_pow, decide_eq_true_eq] at h4
        subst h4; exact hb)
    have h2 : pc m ≤ pc (2 ^ r) := pc_mono (fun j hj h4 => by
        rw [Nat.testBit_two_pow, decide_eq_true_eq]
        by_cases h5 : j = r
        · exact h5.symm
        · rw [h j hj h5] at h4; cases h4)
    omega
def wYA1 (W : wW) (f t r : Nat) (n : Nat) (j : Nat) : Nat := it (fun k n => if f ≤ pA (rP (wRo W r)) k + wYr W ∧ pA (rP (wRo W r)) k + wYr W ≤ t then n + pY (rP (wRo W r)) k else n) n j
def wYA (W : wW) (f t : Nat) : Nat := it (fun r n => wYA1 W f t r n (rN (wRo W r))) 0 12
def wSs (W : wW) (p : Nat) : Nat := mk (fun r => wSv W r p (wDe W)) 12
def wNd (W : wW) : Nat := it (fun p m => if wDk W p && decide (pc (wSs W p) = 1) then m ||| wSs W p else m) 0 (wPe W)
theorem wSs_lt (W : wW) (p : Nat) : wSs W p < 4096 := mk_lt _ 12
theorem wNd_lt' (W : wW) : ∀ n, it (fun p m => if wDk W p && decide (pc (wSs W p) = 1) then m ||| wSs W p else m) 0 n < 4096
  | 0 => by rw [it_0]; decide
  | n + 1 => by
    have h1 := wNd_lt' W n
    rw [it_s]
    split
    · exact Nat.or_lt_two_pow (n := 12) h1 (wSs_lt W n)
    · exact h1
/-- the world without a rope -/
def wSetRo (W : wW) (f : Nat → rR) : wW := (W.1, W.2.1, W.2.2.1, W.2.2.2.1, W.2.2.2.2.1, W.2.2.2.2.2.1, W.2.2.2.2.2.2.1, W.2.2.2.2.2.2.2.1, W.2.2.2.2.2.2.2.2.1, W.2.2.2.2.2.2.2.2.2.1, W.2.2.2.2.2.2.2.2.2.2.1, W.2.2.2.2.2.2.2.2.2.2.2.1, f, W.2.2.2.2.2.2.2.2.2.2.2.2.2)
def up {α : Type} (f : Nat → α) (k : Nat) (x : α) : Nat → α := fun j => if j = k then x else f j
theorem up_s {α : Type} (f : Nat → α) (k : Nat) (x : α) : up f k x k = x := if_pos rfl
theorem up_n {α : Type} (f : Nat → α) {k j : Nat} (x : α) (h : j ≠ k) : up f k x j = f j := if_neg h
def wGo (W : wW) (r : Nat) : wW := wSetRo W (up (wRo W) r r0)
theorem wGo_ok {W : wW} (h : wOk W) (r : Nat) : wOk (wGo W r) := by
  obtain ⟨iY, iW, iB, iS, iR, iRb, iD, iP, iPa, iDi, iF, iFd, iRo, iOw, iBo, iLa⟩ := h
  refine ⟨iY, iW, iB, iS, iR, iRb, iD, iP, iPa, iDi, iF, iFd, fun q => ?_, fun q p => ?_, fun q p => ?_, iLa⟩
  · show rI (up (wRo W) r r0 q)
    by_cases hq : q = r
    · rw [hq, up_s]; exact r0_I
    · rw [up_n _ _ hq]; exact iRo q
  · show rO (up (wRo W) r r0 q) = some p → p < wPe W
    by_cases hq : q = r
    · rw [hq, up_s]; intro e; cases e
    · rw [up_n _ _ hq]; exact iOw q p
  · show rB (up (wRo W) r r0 q) = some p → p < wPe W
    by_cases hq : q = r
    · rw [hq, up_s]; intro e; cases e
    · rw [up_n _ _ hq]; exact iBo q p
theorem wNd_bit (W : wW) (r : Nat) : ∀ n, (it (fun p m => if wDk W p && decide (pc (wSs W p) = 1) then m ||| wSs W p else m) 0 n).testBit r = ex (fun p => (wDk W p && decide (pc (wSs W p) = 1)) && (wSs W p).testBit r) n
  | 0 => by simp [it, ex]
  | n + 1 => by
    have h := wNd_bit W r n
    unfold ex at h ⊢
    rw [it_s, it_s]
    split
    · rename_i hc
      rw [Nat.testBit_or, h]
      simp only [hc, Bool.true_and]
    · rename_i hc
      rw [h]
      simp [hc]
theorem wSv_go (W : wW) (r q p d : Nat) : wSv (wGo W r) q p d = (decide (q ≠ r) && wSv W q p d) := by
  unfold wSv
  show (rT (up (wRo W) r r0 q) && (decide (rHo (up (wRo W) r r0 q) = some p) && decide (d ≤ rE (up (wRo W) r r0 q)))) = _
  by_cases hq : q = r
  · rw [hq, up_s]; simp [rT, r0, rN, rP]
  · rw [up_n _ _ hq]; simp [hq]
theorem wNd_eq {W : wW} (hW : wOk W) : wNd W = mk (fun r => rT (wRo W r) && decide (pc (wDs (wGo W r)) < pc (wDs W))) 12 := by
  have i8 := hW.2.2.2.2.2.2.2.1
  apply Nat.eq_of_testBit_eq
  intro r
  rw [mk_bit]
  unfold wNd
  rw [wNd_bit]
  rw [Bool.eq_iff_iff, ex_iff, Bool.and_eq_true, Bool.and_eq_true, decide_eq_true_eq, decide_eq_true_eq]
  have hsub : ∀ p, wDk (wGo W r) p = (wAl W p && (decide (wDe W ≤ wBo W) && ex (fun q => decide (q ≠ r) && wSv W q p (wDe W)) 12)) := by
    intro p
    show (wAl W p && (decide (wDe W ≤ wBo W) && ex (fun q => wSv (wGo W r) q p (wDe W)) 12)) = _
    rw [ex_congr 12 (fun i _ => wSv_go W r i p (wDe W))]
  have hle : ∀ p, wDk (wGo W r) p = true → wDk W p = true := by
    intro p hp
    rw [hsub] at hp
    unfold wDk
    rw [Bool.and_eq_true, Bool.and_eq_true, ex_iff] at hp ⊢
    obtain ⟨h1, h2, q, h3, h4⟩ := hp
    rw [Bool.and_eq_true] at h4
    exact ⟨h1, h2, q, h3, h4.2⟩
  have hds : ∀ i, (wDs (wGo W r)).testBit i = (decide (i < wPe W) && wDk (wGo W r) i) := fun i => mk_bit _ _ _
  have hds0 : ∀ i, (wDs W).testBit i = (decide (i < wPe W) && wDk W i) := fun i => mk_bit _ _ _
  constructor
  · rintro ⟨p, hp, h1⟩
    rw [Bool.and_eq_true, Bool.and_eq_true, decide_eq_true_eq] at h1
    obtain ⟨⟨h1, h2⟩, h3⟩ := h1
    have h3' := h3
    unfold wSs at h3
    rw [mk_bit, Bool.and_eq_true, decide_eq_true_eq] at h3
    obtain ⟨hr, h4⟩ := h3
    have h5 := (pc_one hr h3').mp h2
    refine ⟨hr, ?_, ?_⟩
    · unfold wSv at h4
      rw [Bool.and_eq_true] at h4
      exact h4.1
    · refine pc_strict (fun i _ hi => ?_) ⟨p, by omega, ?_, ?_⟩
      · rw [hds, Bool.and_eq_true] at hi
        rw [hds0, Bool.and_eq_true]
        exact ⟨hi.1, hle i hi.2⟩
      · rw [hds0, h1]; simp [hp]
      · rw [hds, hsub]
        have : ex (fun q => decide (q ≠ r) && wSv W q p (wDe W)) 12 = false := by
          cases h6 : ex (fun q => decide (q ≠ r) && wSv W q p (wDe W)) 12 with
          | false => rfl
          | true =>
            rw [ex_iff] at h6
            obtain ⟨q, h7, h8⟩ := h6
            rw [Bool.and_eq_true, decide_eq_true_eq] at h8
            have h9 := h5 q h7 h8.1
            unfold wSs at h9
            rw [mk_bit, h8.2] at h9
            simp [h7] at h9
        rw [this]; simp
  · rintro ⟨hr, h1, h2⟩
    obtain ⟨p, hp, h3, h4⟩ := pc_ex h2
    rw [hds0, Bool.and_eq_true, decide_eq_true_eq] at h3
    rw [hds, hsub] at h4
    obtain ⟨h3, h5⟩ := h3
    have h5' := h5
    unfold wDk at h5
    rw [Bool.and_eq_true, Bool.and_eq_true, ex_iff] at h5
    obtain ⟨h6, h7, q, hq, h8⟩ := h5
    have hn : ∀ i, i < 12 → i ≠ r → wSv W i p (wDe W) = false := by
      intro i hi hir
      cases h9 : wSv W i p (wDe W) with
      | false => rfl
      | true =>
        have : ex (fun q => decide (q ≠ r) && wSv W q p (wDe W)) 12 = true := by
          rw [ex_iff]
          exact ⟨i, hi, by rw [h9]; simp [hir]⟩
        rw [this, h6, h7] at h4
        simp [h3] at h4
    have hqr : q = r := by
      rcases Classical.em (q = r) with h | h
      · exact h
      · rw [hn q hq h] at h8; cases h8
    subst hqr
    have hb : (wSs W p).testBit q = true := by
      unfold wSs
      rw [mk_bit, h8]; simp [hq]
    refine ⟨p, h3, ?_⟩
    rw [Bool.and_eq_true, Bool.and_eq_true, decide_eq_true_eq]
    refine ⟨⟨h5', (pc_one hq hb).mpr fun i hi hir => ?_⟩, hb⟩
    unfold wSs
    rw [mk_bit, hn i hi hir]; simp

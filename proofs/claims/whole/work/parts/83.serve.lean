/-! WHO IS SERVED: sets of ropes for people, and the class's numbers -/
section SERVE
variable {th ho : Nat → Bool} {R : Nat → Nat} {D : Nat}
def al (th : Nat → Bool) (R : Nat → Nat) (D r : Nat) : Bool := th r && decide (D ≤ R r)
def iG (th ho : Nat → Bool) (R : Nat → Nat) (D r : Nat) : Bool := th r && (!decide (D ≤ R r) && (!ho r && decide (1 < R r)))
def kV (th ho : Nat → Bool) (R : Nat → Nat) (D P : Nat) : Prop := (∀ r, r < 12 → P.testBit r = true → th r = true ∧ (1 < ca P → ho r = false)) ∧ D ≤ 1 + sm (fun r => R r - 1) 12 P
def vO (th ho : Nat → Bool) (R : Nat → Nat) (D : Nat) : Nat → Nat → Nat → Prop
  | 0, _, _ => True
  | n + 1, c, S => ∃ P, P ≠ 0 ∧ sb P S ∧ kV th ho R D P ∧ ca P - 1 ≤ c ∧ vO th ho R D n (c - (ca P - 1)) (df S P)
def cn (th ho : Nat → Bool) (R : Nat → Nat) (D k : Nat) : Nat := it (fun r n => if iG th ho R D r then n + 1 else n) 0 k
def gp (th ho : Nat → Bool) (R : Nat → Nat) (D k : Nat) : Nat → Nat := it (fun r G => if iG th ho R D r then up G (cn th ho R D r) r else G) (fun _ => 0) k
theorem cn_s (k : Nat) : cn th ho R D (k + 1) = if iG th ho R D k then cn th ho R D k + 1 else cn th ho R D k := rfl
theorem gp_s (k : Nat) : gp th ho R D (k + 1) = if iG th ho R D k then up (gp th ho R D k) (cn th ho R D k) k else gp th ho R D k := rfl
theorem cn_le : ∀ k, cn th ho R D k ≤ k
  | 0 => Nat.le_refl _
  | k + 1 => by
    have := cn_le k
    rw [cn_s]
    split <;> omega
theorem gp_at : ∀ k r, r < k → iG th ho R D r = true → cn th ho R D r < cn th ho R D k ∧ gp th ho R D k (cn th ho R D r) = r
  | 0, r, h, _ => by omega
  | k + 1, r, h, hg => by
    rw [cn_s, gp_s]
    by_cases hrk : r = k
    · subst hrk
      rw [hg, if_pos rfl, if_pos rfl, up_s]
      exact ⟨by omega, rfl⟩
    · obtain ⟨h1, h2⟩ := gp_at k r (by omega) hg
      by_cases hk : iG th ho R D k = true
      · rw [if_pos hk, if_pos hk, up_n _ _ (by omega)]
        exact ⟨by omega, h2⟩
      · rw [if_neg hk, if_neg hk]
        exact ⟨h1, h2⟩
theorem cn_ex : ∀ k i, i < cn th ho R D k → ∃ r, r < k ∧ iG th ho R D r = true ∧ cn th ho R D r = i
  | 0, i, h => absurd h (Nat.not_lt_zero _)
  | k + 1, i, h => by
    rw [cn_s] at h
    by_cases hk : iG th ho R D k = true
    · rw [if_pos hk] at h
      by_cases hi : i = cn th ho R D k
      · exact ⟨k, by omega, hk, hi.symm⟩
      · obtain ⟨r, h1, h2, h3⟩ := cn_ex k i (by omega)
        exact ⟨r, by omega, h2, h3⟩
    · rw [if_neg hk] at h
      obtain ⟨r, h1, h2, h3⟩ := cn_ex k i h
      exact ⟨r, by omega, h2, h3⟩
def im (th ho : Nat → Bool) (R : Nat → Nat) (D S : Nat) : Nat := mk (fun i => S.testBit (gp th ho R D 12 i)) (cn th ho R D 12)
def gi (th ho : Nat → Bool) (R : Nat → Nat) (D i : Nat) : Nat := R (gp th ho R D 12 i) - 1
def sG (th ho : Nat → Bool) (R : Nat → Nat) (D : Nat) (f : Nat → Nat) (P k : Nat) : Nat := it (fun r n => if iG th ho R D r && P.testBit r then n + f r else n) 0 k
theorem sG_s (f : Nat → Nat) (P k : Nat) : sG th ho R D f P (k + 1) = if iG th ho R D k && P.testBit k then sG th ho R D f P k + f k else sG th ho R D f P k := rfl
theorem im_bit (S i : Nat) : (im th ho R D S).testBit i = (decide (i < cn th ho R D 12) && S.testBit (gp th ho R D 12 i)) := mk_bit _ i _
theorem im_lt (S : Nat) : im th ho R D S < 2 ^ 12 := Nat.lt_of_lt_of_le (mk_lt _ _) (Nat.pow_le_pow_right (by decide) (cn_le 12))
theorem im_at {S r : Nat} (hr : r < 12) (hg : iG th ho R D r = true) : (im th ho R D S).testBit (cn th ho R D r) = S.testBit r := by
  obtain ⟨h1, h2⟩ := gp_at 12 r hr hg
  rw [im_bit, h2, decide_eq_true h1, Bool.true_and]
theorem im_sm (f : Nat → Nat) (P : Nat) : ∀ k, k ≤ 12 → sG th ho R D f P k = sm (fun i => f (gp th ho R D 12 i)) (cn th ho R D k) (im th ho R D P)
  | 0, _ => rfl
  | k + 1, hk => by
    have ih := im_sm f P k (by omega)
    rw [sG_s, cn_s]
    by_cases hg : iG th ho R D k = true
    · obtain ⟨h1, h2⟩ := gp_at 12 k (by omega) hg
      rw [if_pos hg, sm_s, im_at (by omega) hg, hg, Bool.true_and, ih, h2]
    · rw [if_neg hg]
      have hg : iG th ho R D k = false := by simpa using hg
      rw [hg, Bool.false_and]
      exact ih
theorem sG_le (f : Nat → Nat) (P : Nat) : ∀ k, sG th ho R D f P k ≤ sm f k P
  | 0 => Nat.le_refl _
  | k + 1 => by
    have ih := sG_le f P k
    rw [sG_s, sm_s]
    cases P.testBit k with
    | false => simpa using ih
    | true => cases iG th ho R D k <;> simp <;> omega
theorem sG_eq (f : Nat → Nat) (P : Nat) : ∀ k, (∀ r, r < k → P.testBit r = true → iG th ho R D r = true ∨ f r = 0) → sG th ho R D f P k = sm f k P
  | 0, _ => rfl
  | k + 1, h => by
    have ih := sG_eq f P k (fun r hr => h r (by omega))
    rw [sG_s, sm_s, ih]
    cases hP : P.testBit k with
    | false => simp
    | true =>
      rcases h k (by omega) hP with h1 | h1
      · rw [h1]; simp
      · rw [h1]; simp
theorem im_ca (P : Nat) : ca (im th ho R D P) = sG th ho R D (fun _ => 1) P 12 := by
  rw [im_sm (fun _ => 1) P 12 (Nat.le_refl _)]
  exact sm_in _ (fun i hi => by rw [im_bit, decide_eq_false (by omega), Bool.false_and]) 12 (cn_le 12)
theorem im_ca_le (P : Nat) : ca (im th ho R D P) ≤ ca P := by
  rw [im_ca]
  exact sG_le _ _ 12
theorem im_sb {P S : Nat} (h : sb P S) : sb (im th ho R D P) (im th ho R D S) := fun i hi => by
  rw [im_bit] at hi ⊢
  cases hc : decide (i < cn th ho R D 12) with
  | false => rw [hc] at hi; cases hi
  | true =>
    rw [hc, Bool.true_and] at hi
    rw [Bool.true_and]
    exact h _ hi
theorem gp_lt {i : Nat} (hi : i < cn th ho R D 12) : gp th ho R D 12 i < 12 := by
  obtain ⟨r, h1, h2, h3⟩ := cn_ex 12 i hi
  rw [← h3, (gp_at 12 r h1 h2).2]
  exact h1
theorem im_df (S P : Nat) : im th ho R D (df S P) = df (im th ho R D S) (im th ho R D P) := tb_ext (im_lt _) (df_lt _ _) (fun i hi => by
  rw [df_b _ _ hi, im_bit, im_bit, im_bit]
  by_cases hc : i < cn th ho R D 12
  · rw [decide_eq_true hc, df_b _ _ (gp_lt hc)]
    simp
  · rw [decide_eq_false hc]
    simp)
def aln (th : Nat → Bool) (R : Nat → Nat) (D S : Nat) : Nat := sm (fun r => if al th R D r then 1 else 0) 12 S
theorem aln_df {P S : Nat} (h : sb P S) : aln th R D S = aln th R D P + aln th R D (df S P) := sm_df _ h 12 (Nat.le_refl _)
theorem aln_mem {S r : Nat} (hr : r < 12) (h : S.testBit r = true) (ha : al th R D r = true) : 1 ≤ aln th R D S := by
  have := sm_mem (fun r => if al th R D r then 1 else 0) h 12 hr
  rw [ha] at this
  exact this
theorem aln_no {S : Nat} (h : ∀ r, r < 12 → S.testBit r = true → al th R D r = false) : aln th R D S = 0 := by
  have h1 : aln th R D S = sm (fun _ => 0) 12 S := Nat.le_antisymm (sm_le _ _ 12 (fun r hr hb => by rw [h r hr hb]; simp)) (sm_le _ _ 12 (fun r hr hb => Nat.zero_le _))
  rw [h1]
  have h2 : ∀ n, sm (fun _ => 0) n S = 0 := fun n => by
    induction n with
    | zero => rfl
    | succ n ih => rw [sm_s, ih]; simp
  exact h2 12
theorem aln_ex {S : Nat} (h : 0 < aln th R D S) : ∃ r, r < 12 ∧ S.testBit r = true ∧ al th R D r = true := by
  rcases Classical.em (∃ r, r < 12 ∧ S.testBit r = true ∧ al th R D r = true) with h1 | h1
  · exact h1
  · rw [aln_no (fun r hr hb => by
      cases ha : al th R D r with
      | false => rfl
      | true => exact absurd ⟨r, hr, hb, ha⟩ h1)] at h
    omega
theorem vO_mo : ∀ (n c c' S S' : Nat), c ≤ c' → sb S S' → S' < 2 ^ 12 → vO th ho R D n c S → vO th ho R D n c' S'
  | 0, _, _, _, _, _, _, _, _ => trivial
  | n + 1, c, c', S, S', hc, hs, hS', h => by
    obtain ⟨P, h1, h2, h3, h4, h5⟩ := h
    refine ⟨P, h1, sb_tr h2 hs, h3, by omega, vO_mo n _ _ _ _ (by omega) (fun i hi => ?_) (df_lt _ _) h5⟩
    have hi12 := bit_l12 (df_lt S P) hi
    rw [df_b _ _ hi12] at hi ⊢
    cases hq : P.testBit i with
    | true => rw [hq] at hi; simp at hi
    | false =>
      rw [hq] at hi
      rw [hs i (by simpa using hi)]
      rfl
theorem vO_dn : ∀ (n c S : Nat), S < 2 ^ 12 → vO th ho R D (n + 1) c S → vO th ho R D n c S
  | 0, _, _, _, _ => trivial
  | n + 1, c, S, hS, h => by
    obtain ⟨P, h1, h2, h3, h4, h5⟩ := h
    exact ⟨P, h1, h2, h3, h4, vO_dn n _ _ (df_lt _ _) h5⟩
theorem vO_dn' {n c S : Nat} (hS : S < 2 ^ 12) : ∀ m, n ≤ m → vO th ho R D m c S → vO th ho R D n c S
  | 0, hm, h => by rw [show n = 0 by omega]; trivial
  | m + 1, hm, h => by
    by_cases hk : n = m + 1
    · rw [hk]; exact h
    · exact vO_dn' hS m (by omega) (vO_dn m c S hS h)
/-- ropes that reach alone -/
theorem vO_al (hR : ∀ r, th r = true → 1 ≤ R r) : ∀ (a c S : Nat), S < 2 ^ 12 → aln th R D S = a → vO th ho R D a c S
  | 0, _, _, _, _ => trivial
  | a + 1, c, S, hS, h => by
    obtain ⟨r, h1, h2, h3⟩ := aln_ex (th := th) (R := R) (D := D) (S := S) (by omega)
    have h4 : th r = true ∧ D ≤ R r := by
      unfold al at h3
      simpa using h3
    have h5 := hR r h4.1
    have h6 := aln_df (th := th) (R := R) (D := D) (sb_pow h2)
    have h7 : aln th R D (2 ^ r) = 1 := by
      unfold aln
      rw [sm_pow, if_pos h1, h3]
      rfl
    refine ⟨2 ^ r, fun e => by have := Nat.two_pow_pos r; omega, sb_pow h2, ⟨fun q hq hb => ?_, ?_⟩, ?_, ?_⟩
    · rw [Nat.testBit_two_pow] at hb
      have : r = q := by simpa using hb
      subst this
      exact ⟨h4.1, fun h => by rw [ca_pow h1] at h; omega⟩
    · rw [sm_pow, if_pos h1]
      omega
    · rw [ca_pow h1]
      omega
    · exact vO_al hR a _ _ (df_lt _ _) (by omega)
/-- from sets for people to full sets -/
theorem vO_c (hR : ∀ r, th r = true → 1 ≤ R r) : ∀ (n c S : Nat), S < 2 ^ 12 → vO th ho R D n c S → n ≤ aln th R D S ∨ cI (gi th ho R D) (cn th ho R D 12) (max 1 (D - 1)) (n - aln th R D S) c (im th ho R D S)
  | 0, _, _, _, _ => Or.inl (Nat.zero_le _)
  | n + 1, c, S, hS, h => by
    obtain ⟨P, h1, h2, h3, h4, h5⟩ := h
    have hP := sb_lt h2 hS
    have ih := vO_c hR n _ _ (df_lt S P) h5
    have ha := aln_df (th := th) (R := R) (D := D) h2
    rw [im_df] at ih
    by_cases hle : n + 1 ≤ aln th R D S
    · exact Or.inl hle
    · right
      by_cases h0 : 1 ≤ aln th R D P
      · rcases ih with ih | ih
        · omega
        · exact cI_mo _ _ _ _ _ (Nat.sub_le c _) (df_sb _ _) (im_lt _) (cI_dn' (df_lt _ _) _ (by omega) ih)
      · have h0 : aln th R D P = 0 := by omega
        have hno : ∀ r, r < 12 → P.testBit r = true → th r = true ∧ R r < D := fun r hr hb => by
          have ht := (h3.1 r hr hb).1
          refine ⟨ht, ?_⟩
          rcases Nat.lt_or_ge (R r) D with h | h
          · exact h
          · have := aln_mem (th := th) (R := R) (D := D) hr hb (by unfold al; rw [ht, decide_eq_true h]; rfl)
            omega
        obtain ⟨r0, hr0⟩ := ex_bit h1
        have hr12 := bit_l12 hP hr0
        have hq0 := hno r0 hr12 hr0
        have hR0 := hR r0 hq0.1
        have hc1 : 1 < ca P := by
          rcases Nat.lt_or_ge 1 (ca P) with h | h
          · exact h
          · have e1 := ca_df (sb_pow hr0)
            rw [ca_pow hr12] at e1
            have e2 := ca_z (df_lt P (2 ^ r0)) (by omega)
            have e3 := sm_df (fun r => R r - 1) (sb_pow hr0) 12 (Nat.le_refl _)
            rw [e2, sm_z, sm_pow, if_pos hr12] at e3
            have := h3.2
            omega
        have hG : ∀ r, r < 12 → P.testBit r = true → iG th ho R D r = true ∨ R r - 1 = 0 := fun r hr hb => by
          obtain ⟨q1, q2⟩ := hno r hr hb
          have q3 := (h3.1 r hr hb).2 hc1
          by_cases q4 : 1 < R r
          · left
            unfold iG
            rw [q1, q3, decide_eq_true q4, decide_eq_false (by omega)]
            rfl
          · right; omega
        have hs := sG_eq (th := th) (ho := ho) (R := R) (D := D) (fun r => R r - 1) P 12 hG
        have hs2 := im_sm (th := th) (ho := ho) (R := R) (D := D) (fun r => R r - 1) P 12 (Nat.le_refl _)
        have hN : max 1 (D - 1) ≤ sm (gi th ho R D) (cn th ho R D 12) (im th ho R D P) := by
          show _ ≤ sm (fun i => R (gp th ho R D 12 i) - 1) _ _
          have := h3.2
          rw [← hs2, hs]
          omega
        have hca := im_ca_le (th := th) (ho := ho) (R := R) (D := D) P
        rcases ih with ih | ih
        · rw [show n + 1 - aln th R D S = 0 + 1 by omega]
          exact ⟨_, im_sb h2, hN, by omega, trivial⟩
        · rw [show n + 1 - aln th R D S = (n - aln th R D (df S P)) + 1 by omega]
          exact ⟨_, im_sb h2, hN, by omega, cI_mo _ _ _ _ _ (by omega) (fun _ h => h) (df_lt _ _) ih⟩
def rm (th ho : Nat → Bool) (R : Nat → Nat) (D Q : Nat) : Nat := mk (fun r => iG th ho R D r && Q.testBit (cn th ho R D r)) 12
/-- .. and back -/
theorem c_vO (hR : ∀ r, th r = true → 1 ≤ R r) : ∀ (k c S : Nat), S < 2 ^ 12 → cI (gi th ho R D) (cn th ho R D 12) (max 1 (D - 1)) k c (im th ho R D S) → vO th ho R D (k + aln th R D S) c S
  | 0, c, S, hS, _ => by
    rw [Nat.zero_add]
    exact vO_al hR _ _ _ hS rfl
  | k + 1, c, S, hS, h => by
    obtain ⟨Q, h1, h2, h3, h4⟩ := h
    obtain ⟨P, hP⟩ : ∃ P, P = rm th ho R D Q := ⟨_, rfl⟩
    have hPb : ∀ r, P.testBit r = (decide (r < 12) && (iG th ho R D r && Q.testBit (cn th ho R D r))) := fun r => by rw [hP]; exact mk_bit _ r 12
    have hPG : ∀ r, P.testBit r = true → r < 12 ∧ iG th ho R D r = true ∧ Q.testBit (cn th ho R D r) = true := fun r hr => by
      rw [hPb] at hr
      simpa using hr
    have hPlt : P < 2 ^ 12 := by rw [hP]; exact mk_lt _ 12
    have hQ : im th ho R D P = Q := by
      refine tb_ext (im_lt _) (sb_lt h1 (im_lt _)) (fun i _ => ?_)
      by_cases hc : i < cn th ho R D 12
      · obtain ⟨r, r1, r2, r3⟩ := cn_ex 12 i hc
        rw [← r3, im_at r1 r2, hPb, decide_eq_true r1, r2]
        simp
      · rw [im_bit, decide_eq_false hc, Bool.false_and]
        cases hb : Q.testBit i with
        | false => rfl
        | true =>
          have := h1 i hb
          rw [im_bit, decide_eq_false hc] at this
          cases this
    have hsb : sb P S := fun r hr => by
      obtain ⟨a1, a2, a3⟩ := hPG r hr
      have := h1 _ a3
      rw [im_at a1 a2] at this
      exact this
    have hs2 := im_sm (th := th) (ho := ho) (R := R) (D := D) (fun r => R r - 1) P 12 (Nat.le_refl _)
    rw [hQ] at hs2
    have h2 : max 1 (D - 1) ≤ sm (fun i => R (gp th ho R D 12 i) - 1) (cn th ho R D 12) Q := h2
    have hle := sG_le (th := th) (ho := ho) (R := R) (D := D) (fun r => R r - 1) P 12
    have hcaP : ca P = ca Q := by
      have e1 := im_ca (th := th) (ho := ho) (R := R) (D := D) P
      rw [hQ, sG_eq (fun _ => 1) P 12 (fun r hr hb => Or.inl (hPG r hb).2.1)] at e1
      exact e1.symm
    have hal : aln th R D P = 0 := aln_no (fun r hr hb => by
      have := (hPG r hb).2.1
      unfold iG at this
      unfold al
      cases hd : decide (D ≤ R r) with
      | false => rw [Bool.and_false]
      | true => rw [hd] at this; simp at this)
    have ha := aln_df (th := th) (R := R) (D := D) hsb
    rw [show k + 1 + aln th R D S = (k + aln th R D (df S P)) + 1 by omega]
    refine ⟨P, fun e => ?_, hsb, ⟨fun r hr hb => ?_, by omega⟩, by omega, ?_⟩
    · have h9 : 1 ≤ sm (fun r => R r - 1) 12 P := by omega
      rw [e, sm_z] at h9
      omega
    · have := (hPG r hb).2.1
      unfold iG at this
      have h6 : th r = true ∧ R r < D ∧ ho r = false ∧ 1 < R r := by simpa using this
      exact ⟨h6.1, fun _ => h6.2.2.1⟩
    · refine c_vO hR k _ _ (df_lt _ _) ?_
      rw [im_df, hQ, hcaP]
      exact h4
theorem b4095 {i : Nat} (hi : i < 12) : (4095 : Nat).testBit i = true := by
  rw [show (4095 : Nat) = 2 ^ 12 - 1 from rfl, Nat.testBit_two_pow_sub_one]
  exact decide_eq_true hi
theorem vO_iff (hR : ∀ r, th r = true → 1 ≤ R r) (hD : D ≤ 999) {n c : Nat} : vO th ho R D n c 4095 ↔ n ≤ aln th R D 4095 ∨ ∃ U, U < 2 ^ cn th ho R D 12 ∧ gF (gi th ho R D) (cn th ho R D 12) (max 1 (D - 1)) U / 1024 = n - aln th R D 4095 ∧ ca U ≤ c + (n - aln th R D 4095) := by
  have hN : 0 < max 1 (D - 1) := by omega
  have hN1 : max 1 (D - 1) ≤ 1000 := by omega
  have h12 := cn_le (th := th) (ho := ho) (R := R) (D := D) 12
  have hbig : (4095 : Nat) < 2 ^ 12 := by decide
  have hin : ∀ i, (im th ho R D 4095).testBit i = true → i < cn th ho R D 12 := fun i hi => by
    rcases Nat.lt_or_ge i (cn th ho R D 12) with h | h
    · exact h
    · rw [im_bit, decide_eq_false (by omega)] at hi
      cases hi
  constructor
  · intro h
    rcases vO_c hR n c 4095 hbig h with h | h
    · exact Or.inl h
    · obtain ⟨U, u1, u2, u3⟩ := cI_gF h12 hN hN1 (im_lt _) hin h
      refine Or.inr ⟨U, Nat.lt_pow_two_of_testBit U (fun i hi => ?_), u2, u3⟩
      cases hb : U.testBit i with
      | false => rfl
      | true => have := hin i (u1 i hb); omega
  · intro h
    by_cases hle : n ≤ aln th R D 4095
    · exact vO_dn' hbig _ hle (vO_al hR _ _ _ hbig rfl)
    · rcases h with h | ⟨U, u1, u2, u3⟩
      · exact absurd h hle
      · have hU : U < 2 ^ 12 := Nat.lt_of_lt_of_le u1 (Nat.pow_le_pow_right (by decide) h12)
        have a1 := gF_ach (g := gi th ho R D) h12 hN hN1 U hU
        rw [u2] at a1
        have a2 := aI_cI h12 hN _ _ _ a1
        have a3 : cI (gi th ho R D) (cn th ho R D 12) (max 1 (D - 1)) (n - aln th R D 4095) c (im th ho R D 4095) := by
          refine cI_mo _ _ _ _ _ (by omega) (fun i hi => ?_) (im_lt _) a2
          have hi2 : i < cn th ho R D 12 := by
            rcases Nat.lt_or_ge i (cn th ho R D 12) with h | h
            · exact h
            · rw [Nat.testBit_lt_two_pow (Nat.lt_of_lt_of_le u1 (Nat.pow_le_pow_right (by decide) h))] at hi
              cases hi
          rw [im_bit, decide_eq_true hi2, b4095 (gp_lt hi2)]
          rfl
        have a4 := c_vO hR _ _ _ hbig a3
        rw [show n - aln th R D 4095 + aln th R D 4095 = n by omega] at a4
        exact a4
end SERVE

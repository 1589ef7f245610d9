/-! SETS OF NUMBERS AS BITS: sums over them, what is left without some -/
def sm (w : Nat → Nat) (n S : Nat) : Nat := it (fun i m => if S.testBit i then m + w i else m) 0 n
theorem sm_s (w : Nat → Nat) (n S : Nat) : sm w (n + 1) S = if S.testBit n then sm w n S + w n else sm w n S := rfl
theorem sm_0 (w : Nat → Nat) (S : Nat) : sm w 0 S = 0 := rfl
def sb (P S : Nat) : Prop := ∀ i, P.testBit i = true → S.testBit i = true
def df (S P : Nat) : Nat := mk (fun i => S.testBit i && !P.testBit i) 12
theorem df_lt (S P : Nat) : df S P < 2 ^ 12 := mk_lt _ 12
theorem df_bit (S P i : Nat) : (df S P).testBit i = (decide (i < 12) && (S.testBit i && !P.testBit i)) := mk_bit _ i 12
theorem df_b {i : Nat} (S P : Nat) (hi : i < 12) : (df S P).testBit i = (S.testBit i && !P.testBit i) := by rw [df_bit, decide_eq_true hi, Bool.true_and]
theorem df_sb (S P : Nat) : sb (df S P) S := fun i h => by
  rw [df_bit] at h
  cases hs : S.testBit i with
  | true => rfl
  | false => rw [hs] at h; simp at h
theorem sb_tr {P Q S : Nat} (h1 : sb P Q) (h2 : sb Q S) : sb P S := fun i h => h2 i (h1 i h)
theorem bit_out {S i : Nat} (hS : S < 2 ^ 12) (hi : 12 ≤ i) : S.testBit i = false := Nat.testBit_lt_two_pow (Nat.lt_of_lt_of_le hS (Nat.pow_le_pow_right (by decide) hi))
theorem sb_lt {P S : Nat} (h : sb P S) (hS : S < 2 ^ 12) : P < 2 ^ 12 := Nat.lt_of_le_of_lt (Nat.le_of_testBit h) hS
theorem sm_congr {w w' : Nat → Nat} {P Q : Nat} (n : Nat) (h : ∀ i, i < n → P.testBit i = Q.testBit i) (hw : ∀ i, i < n → w i = w' i) : sm w n P = sm w' n Q := it_congr n (fun k x hk => by rw [h k hk, hw k hk])
theorem sm_df (w : Nat → Nat) {P S : Nat} (h : sb P S) : ∀ n, n ≤ 12 → sm w n S = sm w n P + sm w n (df S P)
  | 0, _ => rfl
  | n + 1, hn => by
    have ih := sm_df w h n (by omega)
    rw [sm_s, sm_s, sm_s, df_b S P (show n < 12 by omega)]
    cases hP : P.testBit n with
    | true => rw [h n hP]; simp; omega
    | false => cases hS : S.testBit n <;> simp <;> omega
theorem sm_sb (w : Nat → Nat) {P S : Nat} (h : sb P S) (n : Nat) (hn : n ≤ 12) : sm w n P ≤ sm w n S := by
  rw [sm_df w h n hn]
  omega
theorem sm_mem (w : Nat → Nat) {S i : Nat} (hS : S.testBit i = true) : ∀ n, i < n → w i ≤ sm w n S
  | 0, h => by omega
  | n + 1, h => by
    rw [sm_s]
    by_cases hin : i = n
    · subst hin
      rw [hS]
      simp
    · have := sm_mem w hS n (by omega)
      split <;> omega
theorem sm_z (w : Nat → Nat) : ∀ n, sm w n 0 = 0
  | 0 => rfl
  | n + 1 => by rw [sm_s, Nat.zero_testBit, sm_z w n]; rfl
theorem sm_pow (w : Nat → Nat) (i : Nat) : ∀ n, sm w n (2 ^ i) = if i < n then w i else 0
  | 0 => by rw [sm_0, if_neg (by omega)]
  | n + 1 => by
    rw [sm_s, sm_pow w i n, Nat.testBit_two_pow]
    by_cases h : i = n
    · subst h; simp
    · by_cases h2 : i < n
      · simp [h, h2, show i < n + 1 by omega]
      · simp [h, h2, show ¬ i < n + 1 by omega]
theorem sm_le (w w' : Nat → Nat) {P : Nat} : ∀ n, (∀ i, i < n → P.testBit i = true → w i ≤ w' i) → sm w n P ≤ sm w' n P
  | 0, _ => Nat.le_refl _
  | n + 1, h => by
    have ih := sm_le w w' (P := P) n (fun i hi => h i (by omega))
    rw [sm_s, sm_s]
    cases hP : P.testBit n with
    | true => have := h n (by omega) hP; simp; omega
    | false => simpa using ih
theorem sm_in (w : Nat → Nat) {S n : Nat} (h : ∀ i, n ≤ i → S.testBit i = false) : ∀ m, n ≤ m → sm w m S = sm w n S
  | 0, hm => by rw [show n = 0 by omega]
  | m + 1, hm => by
    by_cases hnm : n = m + 1
    · rw [hnm]
    · rw [sm_s, h m (by omega), sm_in w h m (by omega)]
      rfl
def ca (S : Nat) : Nat := sm (fun _ => 1) 12 S
theorem pc_ca (S : Nat) : pc S = ca S := by
  unfold pc ca sm
  refine it_congr 12 (fun k x _ => ?_)
  cases S.testBit k <;> simp
theorem ca_df {P S : Nat} (h : sb P S) : ca S = ca P + ca (df S P) := sm_df _ h 12 (Nat.le_refl _)
theorem ca_pow {i : Nat} (hi : i < 12) : ca (2 ^ i) = 1 := by
  unfold ca
  rw [sm_pow, if_pos hi]
theorem ca_z {S : Nat} (hS : S < 2 ^ 12) (h : ca S = 0) : S = 0 := by
  apply Nat.eq_of_testBit_eq
  intro i
  rw [Nat.zero_testBit]
  cases hb : S.testBit i with
  | false => rfl
  | true =>
    have hi : i < 12 := by
      rcases Nat.lt_or_ge i 12 with h | h
      · exact h
      · rw [bit_out hS h] at hb; cases hb
    have := sm_mem (fun _ => 1) hb 12 hi
    unfold ca at h
    omega
theorem ca_p {S : Nat} (hS : S < 2 ^ 12) (h0 : S ≠ 0) : 1 ≤ ca S := by
  rcases Nat.eq_zero_or_pos (ca S) with h | h
  · exact absurd (ca_z hS h) h0
  · exact h
theorem ca_le (S : Nat) : ca S ≤ 12 := by
  rw [← pc_ca]
  exact pc_le S
theorem sb_pow {S i : Nat} (h : S.testBit i = true) : sb (2 ^ i) S := fun j hj => by
  rw [Nat.testBit_two_pow] at hj
  have : i = j := by simpa using hj
  rw [← this]
  exact h
theorem df_pow_lt {S i : Nat} (h : S.testBit i = true) : df S (2 ^ i) < S := by
  have h1 : df S (2 ^ i) ≤ S := Nat.le_of_testBit (df_sb S _)
  have h2 : df S (2 ^ i) ≠ S := fun e => by
    have h3 := df_bit S (2 ^ i) i
    rw [e, h, Nat.testBit_two_pow_self] at h3
    simp at h3
  omega
theorem bit_l12 {S i : Nat} (hS : S < 2 ^ 12) (h : S.testBit i = true) : i < 12 := by
  rcases Nat.lt_or_ge i 12 with h1 | h1
  · exact h1
  · rw [bit_out hS h1] at h; cases h
theorem ex_bit {S : Nat} (h0 : S ≠ 0) : ∃ i, S.testBit i = true := Nat.exists_testBit_of_ne_zero h0
theorem tb_ext {S T : Nat} (hS : S < 2 ^ 12) (hT : T < 2 ^ 12) (h : ∀ i, i < 12 → S.testBit i = T.testBit i) : S = T := by
  apply Nat.eq_of_testBit_eq
  intro i
  rcases Nat.lt_or_ge i 12 with h1 | h1
  · exact h i h1
  · rw [bit_out hS h1, bit_out hT h1]
theorem df_cm {S P Q : Nat} : df (df S P) Q = df (df S Q) P := tb_ext (df_lt _ _) (df_lt _ _) (fun i hi => by
  rw [df_b _ _ hi, df_b _ _ hi, df_b _ _ hi, df_b _ _ hi]
  cases S.testBit i <;> cases P.testBit i <;> cases Q.testBit i <;> rfl)
/-- the greatest of numbers, 0 without any -/
def mx (P : Nat → Bool) (f : Nat → Nat) (n : Nat) : Nat := it (fun i m => if P i then max m (f i) else m) 0 n
theorem mx_s (P : Nat → Bool) (f : Nat → Nat) (n : Nat) : mx P f (n + 1) = if P n then max (mx P f n) (f n) else mx P f n := rfl
theorem mx_ge (P : Nat → Bool) (f : Nat → Nat) {i : Nat} (hP : P i = true) : ∀ n, i < n → f i ≤ mx P f n
  | 0, h => by omega
  | n + 1, h => by
    rw [mx_s]
    by_cases hin : i = n
    · subst hin
      rw [hP]
      simp
      omega
    · have := mx_ge P f hP n (by omega)
      split <;> omega
theorem mx_at (P : Nat → Bool) (f : Nat → Nat) : ∀ n, mx P f n = 0 ∨ ∃ i, i < n ∧ P i = true ∧ mx P f n = f i
  | 0 => Or.inl rfl
  | n + 1 => by
    have ih := mx_at P f n
    rw [mx_s]
    cases hP : P n with
    | false =>
      rw [if_neg (by decide)]
      rcases ih with h | ⟨i, h1, h2, h3⟩
      · exact Or.inl h
      · exact Or.inr ⟨i, by omega, h2, h3⟩
    | true =>
      rw [if_pos rfl]
      rcases Nat.le_total (mx P f n) (f n) with h | h
      · exact Or.inr ⟨n, by omega, hP, Nat.max_eq_right h⟩
      · rw [Nat.max_eq_left h]
        rcases ih with h | ⟨i, h1, h2, h3⟩
        · exact Or.inl h
        · exact Or.inr ⟨i, by omega, h2, h3⟩

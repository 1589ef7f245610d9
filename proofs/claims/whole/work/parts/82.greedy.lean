/-! HOW MANY SETS COME FULL: the class's numbers for sets of ropes -/
section GREEDY
variable {g : Nat → Nat} {n N : Nat}
/-- one rope more to a set that is begun -/
def wi (N b m : Nat) : Nat := if b % 1024 + m < N then b + m else b - b % 1024 + 1024
def stp (g : Nat → Nat) (n N : Nat) (F : Nat → Nat) (S : Nat) : Nat := mx (fun i => S.testBit i) (fun i => wi N (F (df S (2 ^ i))) (g i)) n
def tb (g : Nat → Nat) (n N : Nat) : Nat → (Nat → Nat)
  | 0 => fun _ => 0
  | k + 1 => up (tb g n N k) k (stp g n N (tb g n N k) k)
def gF (g : Nat → Nat) (n N S : Nat) : Nat := tb g n N (S + 1) S
theorem tb_s (k : Nat) : tb g n N (k + 1) = up (tb g n N k) k (stp g n N (tb g n N k) k) := rfl
theorem tb_st {S : Nat} : ∀ k, S < k → tb g n N k S = gF g n N S
  | 0, h => by omega
  | k + 1, h => by
    by_cases hk : S = k
    · subst hk; rfl
    · rw [tb_s, up_n _ _ hk]
      exact tb_st k (by omega)
theorem mx_congr {P : Nat → Bool} {f f' : Nat → Nat} (n : Nat) (h : ∀ i, i < n → P i = true → f i = f' i) : mx P f n = mx P f' n := it_congr n (fun k x hk => by
  cases hP : P k with
  | false => rfl
  | true => rw [h k hk hP])
theorem gF_eq (S : Nat) : gF g n N S = stp g n N (gF g n N) S := by
  show tb g n N (S + 1) S = _
  rw [tb_s, up_s]
  exact mx_congr n (fun i _ hP => by rw [tb_st S (df_pow_lt hP)])
theorem wi_mod {b m : Nat} (hN : 0 < N) (hN1 : N ≤ 1000) (h : b % 1024 < N) : wi N b m % 1024 < N := by
  unfold wi
  split <;> omega
theorem wi_div {b m : Nat} (hN : 0 < N) (hN1 : N ≤ 1000) (h : b % 1024 < N) : b / 1024 ≤ wi N b m / 1024 ∧ wi N b m / 1024 ≤ b / 1024 + 1 := by
  unfold wi
  split <;> omega
theorem wi_mono {b c m : Nat} (hN : 0 < N) (hN1 : N ≤ 1000) (hb : b % 1024 < N) (hc : c % 1024 < N) (h : b ≤ c) : wi N b m ≤ wi N c m := by
  unfold wi
  split <;> split <;> omega
theorem gF_mod (hN : 0 < N) (hN1 : N ≤ 1000) : ∀ S, gF g n N S % 1024 < N := by
  intro S
  induction S using Nat.strongRecOn with
  | _ S ih =>
    rw [gF_eq]
    rcases mx_at (fun i => S.testBit i) (fun i => wi N (gF g n N (df S (2 ^ i))) (g i)) n with h | ⟨i, h1, h2, h3⟩
    · unfold stp
      rw [h]
      exact hN
    · unfold stp
      rw [h3]
      exact wi_mod hN hN1 (ih _ (df_pow_lt h2))
theorem gF_ge {S i : Nat} (hi : i < n) (hS : S.testBit i = true) : wi N (gF g n N (df S (2 ^ i))) (g i) ≤ gF g n N S := by
  rw [gF_eq S]
  exact mx_ge (fun i => S.testBit i) (fun i => wi N (gF g n N (df S (2 ^ i))) (g i)) hS n hi
theorem gF_at (S : Nat) : gF g n N S = 0 ∨ ∃ i, i < n ∧ S.testBit i = true ∧ gF g n N S = wi N (gF g n N (df S (2 ^ i))) (g i) := by
  have h := mx_at (fun i => S.testBit i) (fun i => wi N (gF g n N (df S (2 ^ i))) (g i)) n
  rw [gF_eq S]
  exact h
theorem gF_card (hn : n ≤ 12) (hN : 0 < N) (hN1 : N ≤ 1000) : ∀ S, gF g n N S / 1024 ≤ ca S := by
  intro S
  induction S using Nat.strongRecOn with
  | _ S ih =>
    rcases gF_at (g := g) (n := n) (N := N) S with h | ⟨i, h1, h2, h3⟩
    · rw [h]; simp
    · have e1 := ih _ (df_pow_lt h2)
      have e2 := (wi_div (m := g i) hN hN1 (gF_mod (g := g) (n := n) hN hN1 (df S (2 ^ i)))).2
      have e3 := ca_df (sb_pow h2)
      rw [ca_pow (by omega)] at e3
      rw [h3]
      omega
theorem gF_lt (hn : n ≤ 12) (hN : 0 < N) (hN1 : N ≤ 1000) (S : Nat) : gF g n N S < 13312 := by
  have h1 := gF_card (g := g) hn hN hN1 S
  have h2 := ca_le S
  omega
/-- sets that come full one behind another, and what lies in one begun -/
def aI (g : Nat → Nat) (n N : Nat) : Nat → Nat → Nat → Prop
  | 0, x, T => x ≤ sm g n T
  | k + 1, x, T => ∃ Q, sb Q T ∧ N ≤ sm g n Q ∧ aI g n N k x (df T Q)
theorem aI_add (hn : n ≤ 12) {i : Nat} (hi : i < n) : ∀ (k x T : Nat), T < 2 ^ 12 → T.testBit i = true → aI g n N k x (df T (2 ^ i)) → aI g n N k (x + g i) T
  | 0, x, T, hT, hb, h => by
    have h : x ≤ sm g n (df T (2 ^ i)) := h
    show x + g i ≤ sm g n T
    rw [sm_df g (sb_pow hb) n hn, sm_pow, if_pos hi]
    omega
  | k + 1, x, T, hT, hb, h => by
    obtain ⟨Q, h1, h2, h3⟩ := h
    have hQi : Q.testBit i = false := by
      cases hq : Q.testBit i with
      | false => rfl
      | true =>
        have := h1 i hq
        rw [df_b _ _ (by omega), Nat.testBit_two_pow_self] at this
        simp at this
    refine ⟨Q, sb_tr h1 (df_sb _ _), h2, aI_add hn hi k x (df T Q) (df_lt _ _) ?_ ?_⟩
    · rw [df_b _ _ (by omega), hb, hQi]; rfl
    · rw [df_cm]; exact h3
theorem aI_cl : ∀ (k x T : Nat), T < 2 ^ 12 → aI g n N k x T → N ≤ x → aI g n N (k + 1) 0 T
  | 0, x, T, hT, h, hx => ⟨T, fun _ h => h, Nat.le_trans hx h, Nat.zero_le _⟩
  | k + 1, x, T, hT, h, hx => by
    obtain ⟨Q, h1, h2, h3⟩ := h
    exact ⟨Q, h1, h2, aI_cl k x _ (df_lt _ _) h3 hx⟩
theorem gF_ach (hn : n ≤ 12) (hN : 0 < N) (hN1 : N ≤ 1000) : ∀ S, S < 2 ^ 12 → aI g n N (gF g n N S / 1024) (gF g n N S % 1024) S := by
  intro S
  induction S using Nat.strongRecOn with
  | _ S ih =>
    intro hS
    rcases gF_at (g := g) (n := n) (N := N) S with h | ⟨i, h1, h2, h3⟩
    · rw [h]
      exact Nat.zero_le _
    · have e1 := ih _ (df_pow_lt h2) (df_lt _ _)
      have e2 := gF_mod (g := g) (n := n) hN hN1 (df S (2 ^ i))
      have e3 := aI_add hn h1 _ _ S hS h2 e1
      rw [h3]
      unfold wi
      generalize gF g n N (df S (2 ^ i)) = b at e1 e2 e3
      split
      · rename_i hlt
        rw [show (b + g i) / 1024 = b / 1024 by omega, show (b + g i) % 1024 = b % 1024 + g i by omega]
        exact e3
      · rename_i hlt
        rw [show (b - b % 1024 + 1024) / 1024 = b / 1024 + 1 by omega, show (b - b % 1024 + 1024) % 1024 = 0 by omega]
        exact aI_cl _ _ S hS e3 (by omega)
/-- so many full sets of at most so many ropes above one each -/
def cI (g : Nat → Nat) (n N : Nat) : Nat → Nat → Nat → Prop
  | 0, _, _ => True
  | k + 1, c, T => ∃ Q, sb Q T ∧ N ≤ sm g n Q ∧ ca Q - 1 ≤ c ∧ cI g n N k (c - (ca Q - 1)) (df T Q)
theorem sm_pos_ca (hn : n ≤ 12) {Q : Nat} (h : 0 < sm g n Q) : 1 ≤ ca Q := by
  rcases Nat.eq_zero_or_pos (ca Q) with h0 | h0
  · have hz : ∀ i, i < n → Q.testBit i = (0 : Nat).testBit i := fun i hi => by
      rw [Nat.zero_testBit]
      cases hb : Q.testBit i with
      | false => rfl
      | true =>
        have := sm_mem (fun _ => 1) hb 12 (by omega)
        unfold ca at h0
        omega
    rw [sm_congr n hz (fun _ _ => rfl), sm_z] at h
    omega
  · exact h0
theorem aI_ca (hn : n ≤ 12) (hN : 0 < N) : ∀ (k x T : Nat), aI g n N k x T → k ≤ ca T
  | 0, _, _, _ => Nat.zero_le _
  | k + 1, x, T, h => by
    obtain ⟨Q, h1, h2, h3⟩ := h
    have e1 := aI_ca hn hN k x _ h3
    have e2 := ca_df h1
    have e3 := sm_pos_ca (g := g) hn (show 0 < sm g n Q by omega)
    omega
theorem aI_cI (hn : n ≤ 12) (hN : 0 < N) : ∀ (k x T : Nat), aI g n N k x T → cI g n N k (ca T - k) T
  | 0, _, _, _ => trivial
  | k + 1, x, T, h => by
    obtain ⟨Q, h1, h2, h3⟩ := h
    have e1 := aI_ca hn hN k x _ h3
    have e2 := ca_df h1
    have e3 := sm_pos_ca (g := g) hn (show 0 < sm g n Q by omega)
    refine ⟨Q, h1, h2, by omega, ?_⟩
    have e4 := aI_cI hn hN k x _ h3
    rw [show ca T - (k + 1) - (ca Q - 1) = ca (df T Q) - k by omega]
    exact e4
/-- a full set more -/
theorem gF_grow (hn : n ≤ 12) (hN : 0 < N) (hN1 : N ≤ 1000) {A Q k : Nat} (hA : A < 2 ^ 12) (hd : ∀ i, Q.testBit i = true → A.testBit i = false) (hk : 1024 * k ≤ gF g n N A) : ∀ j, j ≤ n → 1024 * (k + 1) ≤ gF g n N (A ||| mk (fun i => Q.testBit i) j) ∨ (sm g j Q < N ∧ 1024 * k + sm g j Q ≤ gF g n N (A ||| mk (fun i => Q.testBit i) j))
  | 0, _ => by
    right
    refine ⟨hN, ?_⟩
    rw [show mk (fun i => Q.testBit i) 0 = 0 from rfl, Nat.or_zero, sm_0]
    exact hk
  | j + 1, hj => by
    have ih := gF_grow hn hN hN1 hA hd hk j (by omega)
    have hm1 := mk_lt (fun i => Q.testBit i) (j + 1)
    have hm0 := mk_lt (fun i => Q.testBit i) j
    cases hq : Q.testBit j with
    | false =>
      have e : mk (fun i => Q.testBit i) (j + 1) = mk (fun i => Q.testBit i) j := by
        show (if Q.testBit j then _ else _) = _
        rw [hq]; rfl
      rw [e, sm_s, hq]
      exact ih
    | true =>
      have e : df (A ||| mk (fun i => Q.testBit i) (j + 1)) (2 ^ j) = A ||| mk (fun i => Q.testBit i) j := by
        have h2 : mk (fun i => Q.testBit i) j < 2 ^ 12 := Nat.lt_of_lt_of_le hm0 (Nat.pow_le_pow_right (by decide) (by omega))
        refine tb_ext (df_lt _ _) (or_lt hA h2) (fun i hi => ?_)
        rw [df_b _ _ hi, Nat.testBit_or, Nat.testBit_or, mk_bit, mk_bit, Nat.testBit_two_pow]
        by_cases hij : j = i
        · subst hij
          rw [hd j hq]
          simp
        · by_cases hlt : i < j
          · simp [hij, hlt, show i < j + 1 by omega]
          · simp [hij, hlt, show ¬ i < j + 1 by omega]
      have hb : (A ||| mk (fun i => Q.testBit i) (j + 1)).testBit j = true := by
        rw [Nat.testBit_or, mk_bit, hq]
        simp
      have h3 := gF_ge (g := g) (n := n) (N := N) (show j < n by omega) hb
      rw [e] at h3
      have h4 := gF_mod (g := g) (n := n) hN hN1 (A ||| mk (fun i => Q.testBit i) j)
      generalize gF g n N (A ||| mk (fun i => Q.testBit i) j) = b at ih h3 h4
      generalize gF g n N (A ||| mk (fun i => Q.testBit i) (j + 1)) = b2 at h3 ⊢
      rw [sm_s, hq, if_pos rfl]
      unfold wi at h3
      generalize sm g j Q = sq at ih ⊢
      split at h3 <;> omega
theorem cI_cu (hn : n ≤ 12) (hN : 0 < N) (hN1 : N ≤ 1000) : ∀ (k c T : Nat), T < 2 ^ 12 → (∀ i, T.testBit i = true → i < n) → cI g n N k c T → ∃ U, sb U T ∧ 1024 * k ≤ gF g n N U ∧ ca U ≤ c + k
  | 0, c, T, hT, hTn, _ => ⟨0, fun i h => (by rw [Nat.zero_testBit] at h; cases h), Nat.zero_le _, by
      have : ca 0 = 0 := sm_z _ 12
      omega⟩
  | k + 1, c, T, hT, hTn, h => by
    obtain ⟨Q, h1, h2, h3, h4⟩ := h
    obtain ⟨U, u1, u2, u3⟩ := cI_cu hn hN hN1 k _ (df T Q) (df_lt _ _) (fun i hi => hTn i (df_sb _ _ i hi)) h4
    have hU := sb_lt (sb_tr u1 (df_sb _ _)) hT
    have hd : ∀ i, Q.testBit i = true → U.testBit i = false := fun i hi => by
      cases hu : U.testBit i with
      | false => rfl
      | true =>
        have := u1 i hu
        rw [df_b _ _ (by have := hTn i (h1 i hi); omega), hi] at this
        simp at this
    have hg := gF_grow hn hN hN1 hU hd u2 n (Nat.le_refl _)
    have hQ : mk (fun i => Q.testBit i) n = Q := by
      apply Nat.eq_of_testBit_eq
      intro i
      rw [mk_bit]
      cases hq : Q.testBit i with
      | false => simp
      | true => simp [hTn i (h1 i hq)]
    rw [hQ] at hg
    have hc := ca_df (P := Q) (S := U ||| Q) (fun i hi => by rw [Nat.testBit_or, hi]; simp)
    have he : df (U ||| Q) Q = U := by
      refine tb_ext (df_lt _ _) hU (fun i hi => ?_)
      rw [df_b _ _ hi, Nat.testBit_or]
      cases hq : Q.testBit i with
      | false => simp
      | true => rw [hd i hq]; simp
    rw [he] at hc
    refine ⟨U ||| Q, fun i hi => ?_, ?_, by have := sm_pos_ca (g := g) hn (show 0 < sm g n Q by omega); omega⟩
    · rw [Nat.testBit_or] at hi
      rcases (Bool.or_eq_true _ _ ▸ hi : _ ∨ _) with h | h
      · exact df_sb _ _ i (u1 i h)
      · exact h1 i h
    · rcases hg with hg | hg
      · exact hg
      · omega
theorem gF_dn (hn : n ≤ 12) (hN : 0 < N) (hN1 : N ≤ 1000) {k : Nat} : ∀ U, k ≤ gF g n N U / 1024 → ∃ T, sb T U ∧ gF g n N T / 1024 = k ∧ ca T ≤ ca U := by
  intro U
  induction U using Nat.strongRecOn with
  | _ U ih =>
    intro h
    by_cases hk : gF g n N U / 1024 = k
    · exact ⟨U, fun _ h => h, hk, Nat.le_refl _⟩
    · rcases gF_at (g := g) (n := n) (N := N) U with h0 | ⟨i, h1, h2, h3⟩
      · rw [h0] at h hk
        omega
      · have e2 := (wi_div (m := g i) hN hN1 (gF_mod (g := g) (n := n) hN hN1 (df U (2 ^ i)))).2
        obtain ⟨T, t1, t2, t3⟩ := ih _ (df_pow_lt h2) (by rw [h3] at h hk; omega)
        exact ⟨T, sb_tr t1 (df_sb _ _), t2, Nat.le_trans t3 (sm_sb _ (df_sb _ _) 12 (Nat.le_refl _))⟩
/-- what the class finds: so many full sets of ropes among T, of the fewest ropes -/
theorem cI_gF (hn : n ≤ 12) (hN : 0 < N) (hN1 : N ≤ 1000) {k c T : Nat} (hT : T < 2 ^ 12) (hTn : ∀ i, T.testBit i = true → i < n) : cI g n N k c T → ∃ U, sb U T ∧ gF g n N U / 1024 = k ∧ ca U ≤ c + k := fun h => by
  obtain ⟨U, u1, u2, u3⟩ := cI_cu hn hN hN1 k c T hT hTn h
  obtain ⟨V, v1, v2, v3⟩ := gF_dn (g := g) hn hN hN1 (k := k) U (by omega)
  exact ⟨V, sb_tr v1 u1, v2, by omega⟩
theorem cI_mo : ∀ (k c c' T T' : Nat), c ≤ c' → sb T T' → T' < 2 ^ 12 → cI g n N k c T → cI g n N k c' T'
  | 0, _, _, _, _, _, _, _, _ => trivial
  | k + 1, c, c', T, T', hc, hT, hT', h => by
    obtain ⟨Q, h1, h2, h3, h4⟩ := h
    refine ⟨Q, sb_tr h1 hT, h2, by omega, cI_mo k _ _ _ _ (by omega) (fun i hi => ?_) (df_lt _ _) h4⟩
    have hi12 := bit_l12 (df_lt T Q) hi
    rw [df_b _ _ hi12] at hi ⊢
    cases hq : Q.testBit i with
    | true => rw [hq] at hi; simp at hi
    | false =>
      rw [hq] at hi
      rw [hT i (by simpa using hi)]
      rfl
theorem cI_dn : ∀ (k c T : Nat), T < 2 ^ 12 → cI g n N (k + 1) c T → cI g n N k c T
  | 0, _, _, _, _ => trivial
  | k + 1, c, T, hT, h => by
    obtain ⟨Q, h1, h2, h3, h4⟩ := h
    exact ⟨Q, h1, h2, h3, cI_dn k _ _ (df_lt _ _) h4⟩
theorem cI_dn' {k c T : Nat} (hT : T < 2 ^ 12) : ∀ m, k ≤ m → cI g n N m c T → cI g n N k c T
  | 0, hm, h => by rw [show k = 0 by omega]; trivial
  | m + 1, hm, h => by
    by_cases hk : k = m + 1
    · rw [hk]; exact h
    · exact cI_dn' hT m (by omega) (cI_dn m c T hT h)
end GREEDY

/-! THE CODE OF A STEP, the class -/
theorem or_nI (a b : Nat) : nI a ||| nI b = nI (a ||| b) := by
  apply Int32.toBitVec_inj.mp
  show BitVec.ofNat 32 a ||| BitVec.ofNat 32 b = BitVec.ofNat 32 (a ||| b)
  apply BitVec.eq_of_getLsbD_eq
  intro i hi
  rw [BitVec.getLsbD_or, BitVec.getLsbD_ofNat, BitVec.getLsbD_ofNat, BitVec.getLsbD_ofNat, Nat.testBit_or]
  cases decide (i < 32) <;> simp
theorem or_sum {a b i : Nat} (h : b < 2 ^ i) : (a * 2 ^ i) ||| b = a * 2 ^ i + b := by
  rw [← Nat.shiftLeft_eq, Nat.shiftLeft_add_eq_or_of_lt h]
theorem sh4 : ∀ k, k < 8 → nI k <<< ((4 : Int32) &&& 31) = nI (k * 2 ^ 4) := by decide +kernel
theorem sh8 : ∀ k, k < 256 → nI k <<< ((8 : Int32) &&& 31) = nI (k * 2 ^ 8) := by decide +kernel
theorem sh16 : ∀ k, k < 1000 → nI k <<< ((16 : Int32) &&& 31) = nI (k * 2 ^ 16) := by decide +kernel
theorem c_step {s : mS} {p k q n : Nat} (hp : p < 16) (hk : k < 8) (hq : q < 256) (hn : n < 1000) : fX0_step (nI p) (nI k) (nI q) (nI n) s = some (nI (p + k * 16 + q * 256 + n * 65536), s) := by
  have h1 : p ||| (k * 2 ^ 4) = k * 2 ^ 4 + p := by rw [Nat.or_comm]; exact or_sum hp
  have h2 : (k * 2 ^ 4 + p) ||| (q * 2 ^ 8) = q * 2 ^ 8 + (k * 2 ^ 4 + p) := by rw [Nat.or_comm]; exact or_sum (by omega)
  have h3 : (q * 2 ^ 8 + (k * 2 ^ 4 + p)) ||| (n * 2 ^ 16) = n * 2 ^ 16 + (q * 2 ^ 8 + (k * 2 ^ 4 + p)) := by rw [Nat.or_comm]; exact or_sum (by omega)
  unfold fX0_step
  rw [sh4 k hk, sh8 q hq, sh16 n hn, or_nI, or_nI, or_nI, h1, h2, h3, show n * 2 ^ 16 + (q * 2 ^ 8 + (k * 2 ^ 4 + p)) = p + k * 16 + q * 256 + n * 65536 by omega]
  rfl
theorem lC_0 {k : Nat} (hk : k < 2) : lCode (k, 0, 0) = nI (0 + k * 16 + 61 * 256 + 1 * 65536) := by
  unfold lCode
  rw [if_pos hk, Nat.zero_add]
theorem lC_1 {k q n : Nat} (h2 : ¬ k < 2) (hk : k < 8) : lCode (k, q, n) = nI (0 + k * 16 + q * 256 + n * 65536) := by
  unfold lCode
  rw [if_neg h2, if_pos hk, Nat.zero_add]
theorem lC_2 {p : Nat} (hp : p = 1 ∨ p = 2 ∨ p = 3) : lCode (p + 7, 0, 0) = nI (p + 0 * 16 + 0 * 256 + 0 * 65536) := by
  rcases hp with h | h | h <;> subst h <;> rfl

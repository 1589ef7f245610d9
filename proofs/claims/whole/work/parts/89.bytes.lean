/-! BYTES OF A TEXT, AND ITS TOKENS -/
theorem loop_sx {α : Type} (f : Nat → Nat → mM α) (P : Nat → Bool) (I : Nat → mS → Prop) (N : Nat) (g : Nat → mM α) (hx : ∀ n k s, k < N → P k = true → I k s → f (n + 1) k s = g k s) (hs : ∀ n k s, k < N → P k = false → I k s → ∃ s', I (k + 1) s' ∧ f (n + 1) k s = f n (k + 1) s') (he : ∀ n s, I N s → f (n + 1) N s = g N s) : ∀ n s, N < n → I 0 s → ∃ v, f n 0 s = g (fs P N) v ∧ I (fs P N) v := by
  have key : ∀ n k s, k ≤ fs P N → N < n + k → I k s → ∃ v, f n k s = g (fs P N) v ∧ I (fs P N) v := by
    intro n
    induction n with
    | zero => intro k s h1 h2 _; have := fs_le P N; omega
    | succ n ih =>
      intro k s h1 h2 hI
      have h3 := fs_le P N
      by_cases hk : k = fs P N
      · subst hk
        refine ⟨s, ?_, hI⟩
        by_cases h4 : fs P N < N
        · exact hx n _ s h4 (fs_yes P N h4) hI
        · have h5 : fs P N = N := by omega
          rw [h5] at hI ⊢
          exact he n s hI
      · obtain ⟨s', h4, h5⟩ := hs n k s (by omega) (fs_no P N k (by omega)) hI
        rw [h5]
        exact ih (k + 1) s' (by omega) (by omega) h4
  intro n s hn hI
  exact key n 0 s (by omega) (by omega) hI
def xb (n : Nat) : Int32 := (Int8.ofNat n).toInt32
set_option maxRecDepth 100000 in
theorem xb_and' : ∀ n, n < 256 → xb n &&& 255 = nI n := by decide +kernel
set_option maxRecDepth 100000 in
theorem xb_eq' : ∀ n, n < 256 → ∀ c, c < 128 → (xb n = nI c ↔ n = c) := by decide +kernel
set_option maxRecDepth 100000 in
theorem xb_lt' : ∀ n, n < 256 → ∀ c, c < 129 → (xb n < nI c ↔ (n < c ∨ 128 ≤ n)) := by decide +kernel
set_option maxRecDepth 100000 in
theorem xb_gt' : ∀ n, n < 256 → ∀ c, c < 128 → (nI c < xb n ↔ (c < n ∧ n < 128)) := by decide +kernel
set_option maxRecDepth 100000 in
theorem xb_n : ∀ n, n < 128 → xb n = nI n := by decide +kernel
set_option maxRecDepth 100000 in
theorem xb_ch : ∀ n, n < 128 → ((Int32.toUInt32 (xb n)) % 65536).toInt32 = nI n := by decide +kernel
set_option maxRecDepth 100000 in
theorem i8_n : ∀ n, n < 128 → (Int32.toInt8 (nI n)).toInt32 = nI n := by decide +kernel
set_option maxRecDepth 100000 in
theorem ch_n : ∀ n, n < 128 → ((Int32.toUInt32 (nI n &&& (255 : Int32))) % 65536).toInt32 = nI n := by decide +kernel
set_option maxRecDepth 100000 in
theorem nar_ch : ∀ n, n < 128 → vp_nar .char (nI n) = nI n := by decide +kernel
theorem xb_qq {m n : Nat} (hm : m < 256) (hn : n < 256) : (xb m = xb n) = (m = n) := by
  apply propext
  constructor
  · intro h
    have e1 := xb_and' m hm
    rw [h, xb_and' n hn] at e1
    have : n = m := by rw [eq_i (by omega) (by omega)] at e1; exact e1
    exact this.symm
  · intro h; rw [h]
theorem xb_eq {n c : Nat} (hn : n < 256) (hc : c < 128) : (xb n = nI c) = (n = c) := propext (xb_eq' n hn c hc)
theorem xb_lt {n c : Nat} (hn : n < 256) (hc : c < 129) : (xb n < nI c) = (n < c ∨ 128 ≤ n) := propext (xb_lt' n hn c hc)
theorem xb_gt {n c : Nat} (hn : n < 256) (hc : c < 128) : (nI c < xb n) = (c < n ∧ n < 128) := propext (xb_gt' n hn c hc)
theorem isB_ex {x : Int32} (h : isB x) : ∃ n, n < 256 ∧ x = xb n := by
  refine ⟨x.toInt8.toBitVec.toNat, x.toInt8.toBitVec.isLt, ?_⟩
  have e : Int8.ofNat x.toInt8.toBitVec.toNat = x.toInt8 := by
    apply Int8.toBitVec_inj.mp
    apply BitVec.eq_of_toNat_eq
    show (BitVec.ofNat 8 _).toNat = _
    rw [BitVec.toNat_ofNat]
    exact Nat.mod_eq_of_lt x.toInt8.toBitVec.isLt
  unfold xb
  rw [e]
  exact h
def kbl (c : Nat) : Bool := decide (c = 32) || decide (c = 10)
def kle (c : Nat) : Bool := decide (97 ≤ c) && decide (c ≤ 122)
def kdg (c : Nat) : Bool := decide (48 ≤ c) && decide (c ≤ 57)
/-- one byte's number among a constant's; its length -/
def zc (z i : Nat) : Nat := ((zB z).getD i 0).toNatClampNeg
abbrev zl (z : Nat) : Nat := (zB z).length
def ksg (c : Nat) : Bool := ex (fun i => decide (zc 18 i = c)) 6
set_option maxRecDepth 100000 in
theorem zc_b : ∀ z, z < 35 → ∀ i, i < zl z → (zB z).getD i 0 = nI (zc z i) ∧ zc z i < 128 ∧ 10 ≤ zc z i := by decide +kernel
set_option maxRecDepth 100000 in
theorem zl_b : ∀ z, z < 35 → 0 < zl z ∧ zl z < 200 ∧ (z < 34 → zl z ≤ 8) := by decide +kernel
theorem zl_18 : zl 18 = 6 := by decide +kernel
/-- the first place from p on that is no blank -/
def sk (C : Nat → Nat) (N p : Nat) : Nat := p + fs (fun j => !kbl (C (p + j))) (N - p)
/-- behind the letters, the digits from a on -/
def ew (C : Nat → Nat) (N a : Nat) : Nat := a + fs (fun j => !kle (C (a + j))) (N - a)
def eg (C : Nat → Nat) (N a : Nat) : Nat := a + fs (fun j => !kdg (C (a + j))) (N - a)
def ed (C : Nat → Nat) (N a : Nat) : Nat := if N ≤ a then a else if kle (C a) then ew C N a else if kdg (C a) then eg C N a else a + 1
def kd (C : Nat → Nat) (N a : Nat) : Nat := if N ≤ a then 0 else if kle (C a) then 1 else if kdg (C a) then (if eg C N a - a ≤ 4 then 2 else 4) else if ksg (C a) then 3 else 4
/-- the number told by the first digits, at most four -/
def nv (C : Nat → Nat) (a k : Nat) : Nat := it (fun i w => if i < 4 then w * 10 + C (a + i) - 48 else w) 0 k
theorem nv_s (C : Nat → Nat) (a k : Nat) : nv C a (k + 1) = if k < 4 then nv C a k * 10 + C (a + k) - 48 else nv C a k := rfl
theorem nv_b (C : Nat → Nat) (a : Nat) : ∀ k, (∀ i, i < k → kdg (C (a + i)) = true) → nv C a k < 10 ^ (min k 4)
  | 0, _ => (by decide : 0 < 10 ^ 0)
  | k + 1, h => by
    have ih := nv_b C a k (fun i hi => h i (by omega))
    have hd := h k (by omega)
    have hd2 : 48 ≤ C (a + k) ∧ C (a + k) ≤ 57 := by
      unfold kdg at hd
      simpa using hd
    rw [nv_s]
    by_cases hk : k < 4
    · rw [if_pos hk]
      rw [Nat.min_eq_left (by omega)] at ih ⊢
      rw [Nat.pow_succ]
      omega
    · rw [if_neg hk]
      rw [Nat.min_eq_right (by omega)] at ih ⊢
      exact ih
theorem p10_4 : ∀ k, (10 : Nat) ^ (min k 4) ≤ 10000 := fun k => Nat.pow_le_pow_right (by decide) (Nat.min_le_right k 4)
theorem sk_ge (C : Nat → Nat) (N p : Nat) : p ≤ sk C N p := Nat.le_add_right _ _
theorem sk_le (C : Nat → Nat) {N p : Nat} (h : p ≤ N) : sk C N p ≤ N := by
  have := fs_le (fun j => !kbl (C (p + j))) (N - p)
  unfold sk
  omega
theorem ew_le (C : Nat → Nat) {N a : Nat} (h : a ≤ N) : ew C N a ≤ N := by
  have := fs_le (fun j => !kle (C (a + j))) (N - a)
  unfold ew
  omega
theorem eg_le (C : Nat → Nat) {N a : Nat} (h : a ≤ N) : eg C N a ≤ N := by
  have := fs_le (fun j => !kdg (C (a + j))) (N - a)
  unfold eg
  omega
theorem ew_gt (C : Nat → Nat) {N a : Nat} (h : a < N) (hl : kle (C a) = true) : a < ew C N a := by
  unfold ew
  rcases Nat.eq_zero_or_pos (fs (fun j => !kle (C (a + j))) (N - a)) with h0 | h0
  · have := fs_yes (fun j => !kle (C (a + j))) (N - a) (by omega)
    rw [h0, Nat.add_zero, hl] at this
    cases this
  · omega
theorem eg_gt (C : Nat → Nat) {N a : Nat} (h : a < N) (hl : kdg (C a) = true) : a < eg C N a := by
  unfold eg
  rcases Nat.eq_zero_or_pos (fs (fun j => !kdg (C (a + j))) (N - a)) with h0 | h0
  · have := fs_yes (fun j => !kdg (C (a + j))) (N - a) (by omega)
    rw [h0, Nat.add_zero, hl] at this
    cases this
  · omega
theorem ed_le (C : Nat → Nat) {N a : Nat} (h : a ≤ N) : ed C N a ≤ N := by
  unfold ed
  by_cases h1 : N ≤ a
  · rw [if_pos h1]; exact h
  · rw [if_neg h1]
    split
    · exact ew_le C h
    · split
      · exact eg_le C h
      · omega
theorem ed_ge (C : Nat → Nat) (N a : Nat) : a ≤ ed C N a := by
  unfold ed ew eg
  split
  · omega
  · split
    · omega
    · split <;> omega
theorem ed_gt (C : Nat → Nat) {N a : Nat} (h : a < N) : a < ed C N a := by
  unfold ed
  rw [if_neg (by omega)]
  cases h1 : kle (C a) with
  | true => exact ew_gt C h h1
  | false =>
    cases h2 : kdg (C a) with
    | true => exact eg_gt C h h2
    | false => simp
theorem ew_in (C : Nat → Nat) {N a i : Nat} (hi : a + i < ew C N a) : kle (C (a + i)) = true := by
  unfold ew at hi
  have := fs_no (fun j => !kle (C (a + j))) (N - a) i (by omega)
  simpa using this
theorem eg_in (C : Nat → Nat) {N a i : Nat} (hi : a + i < eg C N a) : kdg (C (a + i)) = true := by
  unfold eg at hi
  have := fs_no (fun j => !kdg (C (a + j))) (N - a) i (by omega)
  simpa using this
/-- the next token's place -/
def nx (C : Nat → Nat) (N a : Nat) : Nat := sk C N (ed C N a)
theorem nx_le (C : Nat → Nat) {N a : Nat} (h : a ≤ N) : nx C N a ≤ N := sk_le C (ed_le C h)
theorem nx_gt (C : Nat → Nat) {N a : Nat} (h : a < N) : a < nx C N a := Nat.lt_of_lt_of_le (ed_gt C h) (sk_ge C N _)
theorem kd_0 {C : Nat → Nat} {N a : Nat} (h : kd C N a = 0) : N ≤ a := by
  rcases Nat.lt_or_ge a N with h1 | h1
  · unfold kd at h
    rw [if_neg (by omega)] at h
    split at h
    · cases h
    · split at h
      · split at h <;> cases h
      · split at h <;> cases h
  · exact h1
theorem kd_1 {C : Nat → Nat} {N a : Nat} (h : kd C N a = 1) : a < N ∧ kle (C a) = true ∧ ed C N a = ew C N a := by
  rcases Nat.lt_or_ge a N with h1 | h1
  · unfold kd at h
    rw [if_neg (by omega)] at h
    cases h2 : kle (C a) with
    | true =>
      refine ⟨h1, rfl, ?_⟩
      unfold ed
      rw [if_neg (by omega), h2, if_pos rfl]
    | false =>
      rw [h2] at h
      simp at h
      split at h
      · split at h <;> cases h
      · split at h <;> cases h
  · unfold kd at h
    rw [if_pos h1] at h
    cases h
theorem kd_5 (C : Nat → Nat) (N a : Nat) : kd C N a < 5 := by
  unfold kd
  split
  · omega
  · split
    · omega
    · split
      · split <;> omega
      · split <;> omega
/-- a constant's bytes, its length -/
theorem l_latin {z : Nat} (hz : z < 35) (s : mS) : fJ0_isLatin1_aae02 z s = some (nI 1, s) := by
  unfold fJ0_isLatin1_aae02 bXk
  rw [e_if, if_neg (by decide), if_pos hz, e_if, if_pos (by decide)]
  rfl
theorem l_coder {z : Nat} (hz : z < 35) (s : mS) : fJ0_coder_7d493 z s = some (nI 0, s) := by
  unfold fJ0_coder_7d493 bXk
  rw [e_if, if_neg (by decide), if_pos hz]
  unfold bRetN
  rw [if_pos (by decide)]
  rfl
theorem e_callX {z : Nat} {β : Type} {F : mM β} {α : Type} {k : β → mM α} {s t : mS} {x : β} (hz : z < 35) (h : F s = some (x, t)) : bCallX z F k s = k x t := by rw [bCallX_eq F k s hz, x_call h]
theorem e_Xk {z : Nat} {α : Type} {m : mM α} {s : mS} (hz : z < 35) : bXk z m s = m s := if_pos hz
theorem e_Xl {z : Nat} {α : Type} {f : Int32 → mM α} {s : mS} (hz : z < 35) : bXl (36 + z) f s = f (nI (zl z)) s := by
  unfold bXl
  rw [if_pos ⟨by omega, by omega⟩, show 36 + z - 36 = z by omega]
theorem e_Xb {z i : Nat} {α : Type} {f : Int32 → mM α} {s : mS} (hz : z < 35) (hi : i < zl z) : bXb (36 + z) (nI i) f s = f (nI (zc z i)) s := by
  have h2 : (zB z).length < 200 := (zl_b z hz).2.1
  have hi2 : i < (zB z).length := hi
  unfold bXb
  rw [show 36 + z - 36 = z by omega, if_pos ⟨⟨by omega, by omega⟩, inB_nI hi (by omega)⟩, nI_clamp (by omega), (zc_b z hz i hi).1]
theorem l_len {z : Nat} (hz : z < 35) (s : mS) : fJ0_length_8abf5 z s = some (nI (zl z), s) := by
  have h2 := (zl_b z hz).2.1
  unfold fJ0_length_8abf5
  rw [e_Xk hz, e_Xl hz, e_callX hz (l_coder hz s), li_31, shr_i (by omega) (by omega)]
  show some (nI (zl z / 2 ^ 0), s) = _
  rw [Nat.pow_zero, Nat.div_one]
theorem l_char {z i : Nat} (hz : z < 35) (hi : i < zl z) (s : mS) : fJ0_charAt_5068e z (nI i) s = some (nI (zc z i), s) := by
  have h2 := (zl_b z hz).2.1
  have h3 := (zc_b z hz i hi).2.1
  have e3 : fJ3_checkIndex_8e157 (nI i) (nI (zl z)) s = some (nI i, s) := by
    unfold fJ3_checkIndex_8e157
    rw [e_if, if_neg (by rw [li_0, lt_i (by omega) (by omega)]; omega), e_if, if_pos (by rw [lt_i (by omega) (by omega)]; exact hi)]
    rfl
  have e2 : fJ0_checkIndex_df160 (nI i) (nI (zl z)) s = some ((), s) := by
    unfold fJ0_checkIndex_df160
    rw [x_call e3]
    rfl
  have e1 : fJ1_charAt_3b067 (36 + z) (nI i) s = some (nI (zc z i), s) := by
    unfold fJ1_charAt_3b067
    rw [e_Xl hz, x_call e2, e_Xb hz hi, ch_n _ h3]
    unfold bRetN
    rw [if_pos (nar_ch _ h3)]
  unfold fJ0_charAt_5068e
  rw [e_callX hz (l_latin hz s), e_if, if_neg (by decide), e_Xk hz, x_call e1]
  unfold bRetN
  rw [if_pos (nar_ch _ h3)]
theorem l_sign {c : Nat} (hc : c < 128) (s : mS) : ∃ x, fJ0_indexOf_0f7a4 18 (nI c) s = some (x, s) ∧ ((x < 0) ↔ ksg c = false) := by
  have h6 := zl_18
  have hloop : fJ1_indexOfChar_4cfef 54 (nI c) (nI 0) (nI 6) s = some (if fs (fun j => decide (zc 18 j = c)) 6 < 6 then nI (fs (fun j => decide (zc 18 j = c)) 6) else mI, s) := by
    unfold fJ1_indexOfChar_4cfef
    rw [i8_n c hc]
    refine loop_x (fun n k => fJ1_indexOfChar_4cfef_7 n 54 (nI 6) (nI c) (nI k) s) (fun j => decide (zc 18 j = c)) (fun j => some (if j < 6 then nI j else mI, s)) 6 ?_ ?_ ?_ fu (by unfold fu; omega)
    · intro n k hk hb
      have hb : zc 18 k = c := by simpa using hb
      show fJ1_indexOfChar_4cfef_7 (n + 1) 54 (nI 6) (nI c) (nI k) s = some (if k < 6 then nI k else mI, s)
      rw [qJ1_indexOfChar_4cfef_7, e_if, if_neg (by rw [le_i (by omega) (by omega)]; omega)]
      rw [show (54 : Nat) = 36 + 18 from rfl, e_Xb (by decide) (by omega), e_if, if_pos (by rw [hb]), if_pos hk]
      rfl
    · intro n k hk hb
      have hb : ¬ zc 18 k = c := by simpa using hb
      have h3 := (zc_b 18 (by decide) k (by omega)).2.1
      show fJ1_indexOfChar_4cfef_7 (n + 1) 54 (nI 6) (nI c) (nI k) s = fJ1_indexOfChar_4cfef_7 n 54 (nI 6) (nI c) (nI (k + 1)) s
      rw [qJ1_indexOfChar_4cfef_7, e_if, if_neg (by rw [le_i (by omega) (by omega)]; omega)]
      rw [show (54 : Nat) = 36 + 18 from rfl, e_Xb (by decide) (by omega), e_if, if_neg (by rw [eq_i (by omega) (by omega)]; exact hb), nI_succ1]
    · intro n
      show fJ1_indexOfChar_4cfef_7 (n + 1) 54 (nI 6) (nI c) (nI 6) s = some (if 6 < 6 then nI 6 else mI, s)
      rw [qJ1_indexOfChar_4cfef_7, e_if, if_pos (by decide)]
      rfl
  have hcan : fJ1_canEncode_9a6ad (nI c) s = some (nI 1, s) := by
    unfold fJ1_canEncode_9a6ad
    rw [e_if, if_neg (by rw [li_0, lt_i (by omega) (by omega)]; omega), e_if, if_neg (by rw [li_255, lt_i (by omega) (by omega)]; omega)]
    rfl
  have hmin : jMin (nI 6) (nI (zl 18)) = nI 6 := by rw [h6, jMin_i (by omega) (by omega)]; rfl
  have h1 : fJ1_indexOf_4cfef 54 (nI c) (0 : Int32) (nI 6) s = some (if fs (fun j => decide (zc 18 j = c)) 6 < 6 then nI (fs (fun j => decide (zc 18 j = c)) 6) else mI, s) := by
    unfold fJ1_indexOf_4cfef
    rw [x_call hcan, e_if, if_neg (by decide)]
    rw [show (54 : Nat) = 36 + 18 from rfl, e_Xl (by decide), hmin, show jMax (0 : Int32) 0 = nI 0 from rfl, e_if, if_pos (by decide)]
    rw [show (36 + 18 : Nat) = 54 from rfl, x_call hloop]
    rfl
  refine ⟨if fs (fun j => decide (zc 18 j = c)) 6 < 6 then nI (fs (fun j => decide (zc 18 j = c)) 6) else mI, ?_, ?_⟩
  · have h2 : fJ0_indexOf_7cf53 18 (nI c) (0 : Int32) s = some (if fs (fun j => decide (zc 18 j = c)) 6 < 6 then nI (fs (fun j => decide (zc 18 j = c)) 6) else mI, s) := by
      unfold fJ0_indexOf_7cf53
      rw [e_callX (by decide) (l_latin (by decide) s), e_if, if_neg (by decide), e_Xk (by decide), e_callX (by decide) (l_len (by decide) s), h6, show (36 + 18 : Nat) = 54 from rfl, x_call h1]
      rfl
    unfold fJ0_indexOf_0f7a4
    rw [e_callX (by decide) h2]
    rfl
  · have hle := fs_le (fun j => decide (zc 18 j = c)) 6
    by_cases hlt : fs (fun j => decide (zc 18 j = c)) 6 < 6
    · rw [if_pos hlt, li_0, lt_i (by omega) (by omega)]
      have hy := fs_yes (fun j => decide (zc 18 j = c)) 6 hlt
      have : ksg c = true := (ex_iff _ 6).mpr ⟨_, hlt, hy⟩
      rw [this]
      constructor
      · intro h; omega
      · intro h; cases h
    · rw [if_neg hlt]
      constructor
      · intro _
        cases hk : ksg c with
        | false => rfl
        | true =>
          obtain ⟨r, hr, hp⟩ := ex_t hk
          rw [fs_no (fun j => decide (zc 18 j = c)) 6 r (by omega)] at hp
          cases hp
      · intro _; decide

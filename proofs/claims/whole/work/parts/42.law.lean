/-! WHOM A LAW NAMES -/
def sAsk (fx : Nat → Nat) (q : Nat × Nat × Nat) : Bool := if q.1 < 2 then decide (fx q.1 = 1) else if q.2.1 = 60 then decide (fx q.1 < q.2.2) else if q.2.1 = 62 then decide (q.2.2 < fx q.1) else decide (fx q.1 = q.2.2)
def sNot : List Bool → List Bool
  | b :: l => (!b) :: l
  | [] => []
def sAnd : List Bool → List Bool
  | b :: c :: l => (c && b) :: l
  | l => l
def sOr : List Bool → List Bool
  | b :: c :: l => (c || b) :: l
  | l => l
def sStep (fx : Nat → Nat) (st : List Bool) (q : Nat × Nat × Nat) : List Bool := if q.1 < 8 then sAsk fx q :: st else if q.1 = 8 then sNot st else if q.1 = 9 then sAnd st else sOr st
def sRun (fx : Nat → Nat) : List Bool → List (Nat × Nat × Nat) → List Bool
  | st, [] => st
  | st, q :: l => sRun fx (sStep fx st q) l
def sHd : List Bool → Bool
  | b :: _ => b
  | [] => false
def lWhom (fx : Nat → Nat) : List (List (Nat × Nat × Nat) × Nat) → Nat
  | [] => 0
  | q :: L => if sHd (sRun fx [] q.1) then q.2 else lWhom fx L
def sE : List Bool → Nat
  | [] => 0
  | b :: l => b.toNat + 2 * sE l
theorem sE_lt : ∀ l : List Bool, sE l < 2 ^ l.length
  | [] => by decide
  | b :: l => by
    have := sE_lt l
    show b.toNat + 2 * sE l < 2 ^ (l.length + 1)
    rw [Nat.pow_succ]
    cases b <;> simp <;> omega
theorem sE_b {l : List Bool} (h : l.length ≤ 24) : sE l < 16777216 := Nat.lt_of_lt_of_le (sE_lt l) (Nat.pow_le_pow_right (n := 2) (by decide) h)
theorem or_b (m : Nat) (b : Bool) : m * 2 ||| b.toNat = b.toNat + 2 * m := by
  have h := Nat.two_pow_add_eq_or_of_lt (b := b.toNat) (i := 1) (by cases b <;> decide) m
  rw [show (2 : Nat) ^ 1 * m = m * 2 by omega] at h
  omega
theorem half (x y : Nat) (h1 : x / 2 = y / 2) (h2 : x % 2 = y % 2) : x = y := by omega
theorem xor_1 (m : Nat) (b : Bool) : (b.toNat + 2 * m) ^^^ 1 = (!b).toNat + 2 * m := by
  apply half
  · rw [Nat.xor_div_two]
    cases b <;> simp <;> omega
  · have := Nat.xor_mod_two_pow (a := b.toNat + 2 * m) (b := 1) (n := 1)
    rw [show (2 : Nat) ^ 1 = 2 by decide, show (b.toNat + 2 * m) % 2 = b.toNat by cases b <;> simp <;> omega] at this
    rw [this]
    cases b <;> simp <;> omega
theorem and_1 (m : Nat) (b : Bool) : (b.toNat + 2 * m) &&& 1 = b.toNat := by
  rw [Nat.and_one_is_mod]
  cases b <;> simp <;> omega
theorem and_mm (y : Nat) (hy : y < 2147483648) : nI y &&& mI = nI y := by
  apply i_ext
  rw [Int32.toBitVec_and, show mI.toBitVec = BitVec.allOnes 32 by decide, BitVec.and_allOnes, tn_i hy]
theorem and_m2 (y : Nat) (hy : y < 2147483648) : nI y &&& -(nI 2) = nI (2 * (y / 2)) := by
  apply i_ext
  rw [Int32.toBitVec_and, BitVec.toNat_and, tn_i hy, show (-(nI 2)).toBitVec.toNat = 4294967294 by decide]
  apply half
  · rw [Nat.and_div_two, show 4294967294 / 2 = 2 ^ 31 - 1 by decide, Nat.and_two_pow_sub_one_eq_mod]
    omega
  · have := Nat.and_mod_two_pow (a := y) (b := 4294967294) (n := 1)
    rw [show (2 : Nat) ^ 1 = 2 by decide, show 4294967294 % 2 = 0 by decide, Nat.and_zero] at this
    omega
theorem ushr1 {n : Nat} (hn : n < 2147483648) : ((nI n).toUInt32 >>> (Int32.toUInt32 (nI 1) &&& Int32.toUInt32 (nI 31))).toInt32 = nI (n / 2) := by
  have := pk_ushrN (n := n) (by omega) 1 1 (by decide)
  exact this
theorem and15 {n : Nat} (hn : n < 2147483648) : nI n &&& nI 15 = nI (n % 16) := by
  rw [and_i hn (by decide)]
  congr 1
  exact Nat.and_two_pow_sub_one_eq_mod n 4
theorem and255 {n : Nat} (hn : n < 2147483648) : nI n &&& nI 255 = nI (n % 256) := by
  rw [and_i hn (by decide)]
  congr 1
  exact Nat.and_two_pow_sub_one_eq_mod n 8
theorem e_sw0 (x : Int32) (k : Nat) {α : Type} (dm : mM α) (s : mS) : bSw x k [] dm s = dm s := rfl
theorem e_swc (x : Int32) (k : Nat) {α : Type} (q : Nat × mM α) (l : List (Nat × mM α)) (dm : mM α) (s : mS) : bSw x k (q :: l) dm s = if x = nI k then q.2 s else bSw x (k + 1) l dm s := rfl
/-- the facts of a rope, with so many heirs -/
def wFx (W : wW) (r : Nat) (hs : Nat) : Nat → Nat
  | 0 => (rH (wRo W r)).toNat
  | 1 => (decide (wDe W ≤ rE (wRo W r))).toNat
  | 2 => rL (wRo W r)
  | 3 => rE (wRo W r)
  | 4 => rK (wRo W r)
  | 5 => rA (wRo W r) + wYr W
  | 6 => pc hs
  | _ => wYr W
theorem wFx_b {W : wW} (hW : wOk W) (r hs i : Nat) : wFx W r hs i ≤ 1600 := by
  have h1 := rL_b (hW.2.2.2.2.2.2.2.2.2.2.2.2.1 r)
  have h2 := rE_b (hW.2.2.2.2.2.2.2.2.2.2.2.2.1 r)
  have h3 := rA_b (hW.2.2.2.2.2.2.2.2.2.2.2.2.1 r)
  have h4 := pc_le hs
  have h5 := hW.1
  have h6 := (hW.2.2.2.2.2.2.2.2.2.2.2.2.1 r).1
  unfold wFx
  split
  · cases rH (wRo W r) <;> simp
  · cases decide (wDe W ≤ rE (wRo W r)) <;> simp
  · omega
  · omega
  · show rN (wRo W r) - 1 ≤ 1600; omega
  · omega
  · omega
  · omega
theorem lCode_lt {q : Nat × Nat × Nat} (h : sOk q) : ∃ v, v < 2147483648 ∧ lCode q = nI v ∧ v % 16 = (if q.1 < 8 then 0 else q.1 - 7) ∧ (q.1 < 8 → (v / 16) % 16 = q.1 ∧ (v / 256) % 256 = (if q.1 < 2 then 61 else q.2.1) ∧ v / 65536 = (if q.1 < 2 then 1 else q.2.2)) := by
  obtain ⟨h1, h2, h3⟩ := h
  unfold lCode
  by_cases c1 : q.1 < 2
  · refine ⟨q.1 * 16 + 61 * 256 + 1 * 65536, by omega, by rw [if_pos c1], by rw [if_pos (by omega)]; omega, fun _ => ⟨by omega, by rw [if_pos c1]; omega, by rw [if_pos c1]; omega⟩⟩
  · by_cases c2 : q.1 < 8
    · refine ⟨q.1 * 16 + q.2.1 * 256 + q.2.2 * 65536, by omega, by rw [if_neg c1, if_pos c2], by rw [if_pos c2]; omega, fun _ => ⟨by omega, by rw [if_neg c1]; omega, by rw [if_neg c1]; omega⟩⟩
    · refine ⟨q.1 - 7, by omega, by rw [if_neg c1, if_neg c2], by rw [if_neg c2]; omega, fun h => absurd h c2⟩
theorem pow_4 : (2 : Nat) ^ 4 = 16 := by decide
theorem pow_8 : (2 : Nat) ^ 8 = 256 := by decide
theorem pow_16 : (2 : Nat) ^ 16 = 65536 := by decide
/-- a question, by the class -/
theorem l_isSo {s : mS} {g : Nat} {fx : Nat → Nat} {q : Nat × Nat × Nat} (hq : sOk q) (h8 : q.1 < 8) (hH : sH s g = (11, 8)) (hF : ∀ i, i < 8 → sI s g i = nI (fx i)) (hb : ∀ i, fx i ≤ 1600) : fX0_isSo (lCode q) g s = some (nI (sAsk fx q).toNat, s) := by
  obtain ⟨v, h1, h2, h3, h4⟩ := lCode_lt hq
  obtain ⟨e1, e2, e3⟩ := h4 h8
  have hfx := hb q.1
  have hq3 := hq.2.2
  have hq2 := hq.2.1
  unfold fX0_isSo fX0_isSo_20
  rw [h2]
  have d1 : v / 16 < 2147483648 := by omega
  have d2 : v / 256 < 2147483648 := by omega
  simp (disch := omega) only [xLen hH, li_0, li_1, li_2, li_3, li_4, li_5, li_6, li_7, li_8, li_9, li_10, li_11, li_12, li_13, li_14, li_15, li_16, li_17, li_20, li_24, li_25, li_29, li_31, li_32, li_33, li_37, li_40, li_41, li_48, li_49, li_50, li_56, li_57, li_59, li_60, li_61, li_62, li_63, li_70, li_73, li_85, li_97, li_98, li_99, li_100, li_101, li_102, li_103, li_104, li_105, li_107, li_108, li_109, li_110, li_111, li_112, li_114, li_115, li_116, li_117, li_118, li_119, li_121, li_122, li_140, li_193, li_200, li_240, li_255, li_289, li_290, li_300, li_302, li_314, li_326, li_860, li_880, li_900, li_999, li_1024, li_2801, li_3440, li_3441, li_3442, li_3443, li_3444, li_3447, li_3448, li_3449, li_3457, li_3465, li_3469, li_3473, li_3477, li_3501, li_3513, li_3525, li_3537, li_3633, li_3730, li_3742, li_3754, li_3766, li_4095, li_4096, li_4300, li_9011, li_9999, li_10000, li_36864, li_65536, li_1000000, ll_0, ll_1, ll_100, ll_11, ll_16, ll_20, ll_3, ll_32, ll_50, ll_8, ll_96, ll_99, ll_9999, ne_m1, e_if, e_ret, e_rz0, e_rz1, e_rzb, e_call, bCallX_eq, nI_add, nI_mul, nI_succ1, le_i, lt_i, eq_i, m1_i, m1_le, m1_lt, m1_ge, m1_eq, ite_true, ite_false, if_true, if_false, shr_i, and15, and255, pow_4, pow_8, pow_16, e1, e2, e3, show ¬ 8 ≤ q.1 by omega, xAIe hH h8 (by decide) (hF q.1 h8)]
  unfold sAsk
  by_cases c1 : q.1 < 2
  · simp (disch := omega) only [c1, if_true, li_0, li_1, li_2, li_3, li_4, li_5, li_6, li_7, li_8, li_9, li_10, li_11, li_12, li_13, li_14, li_15, li_16, li_17, li_20, li_24, li_25, li_29, li_31, li_32, li_33, li_37, li_40, li_41, li_48, li_49, li_50, li_56, li_57, li_59, li_60, li_61, li_62, li_63, li_70, li_73, li_85, li_97, li_98, li_99, li_100, li_101, li_102, li_103, li_104, li_105, li_107, li_108, li_109, li_110, li_111, li_112, li_114, li_115, li_116, li_117, li_118, li_119, li_121, li_122, li_140, li_193, li_200, li_240, li_255, li_289, li_290, li_300, li_302, li_314, li_326, li_860, li_880, li_900, li_999, li_1024, li_2801, li_3440, li_3441, li_3442, li_3443, li_3444, li_3447, li_3448, li_3449, li_3457, li_3465, li_3469, li_3473, li_3477, li_3501, li_3513, li_3525, li_3537, li_3633, li_3730, li_3742, li_3754, li_3766, li_4095, li_4096, li_4300, li_9011, li_9999, li_10000, li_36864, li_65536, li_1000000, ll_0, ll_1, ll_100, ll_11, ll_16, ll_20, ll_3, ll_32, ll_50, ll_8, ll_96, ll_99, ll_9999, ne_m1, e_if, e_ret, e_rz0, e_rz1, e_rzb, e_call, bCallX_eq, nI_add, nI_mul, nI_succ1, le_i, lt_i, eq_i, m1_i, m1_le, m1_lt, m1_ge, m1_eq, ite_true, ite_false, if_true, if_false, show ¬ (61 : Nat) = 60 by decide, show ¬ (61 : Nat) = 62 by decide]
    exact ite_10 (by simp)
  · simp only [c1, if_false]
    by_cases c2 : q.2.1 = 60
    · simp only [c2, if_true]
      exact ite_01 (by simp)
    · simp only [c2, if_false]
      by_cases c3 : q.2.1 = 62
      · simp only [c3, if_true]
        exact ite_01 (by simp)
      · simp only [c3, if_false]
        exact ite_10 (by simp)
theorem sStep_len {fx : Nat → Nat} {st : List Bool} {q : Nat × Nat × Nat} {l : List (Nat × Nat × Nat)} (h : sWf st.length (q :: l)) : sWf (sStep fx st q).length l ∧ (st.length ≤ 24 → (sStep fx st q).length ≤ 24) := by
  unfold sWf at h
  unfold sStep
  by_cases c1 : q.1 < 8
  · rw [if_pos c1] at h ⊢
    exact ⟨h.2, fun _ => by show st.length + 1 ≤ 24; omega⟩
  · rw [if_neg c1] at h ⊢
    by_cases c2 : q.1 = 8
    · rw [if_pos c2] at h ⊢
      cases st with
      | nil => exact absurd h.1 (by decide)
      | cons b st => exact ⟨h.2, fun h => h⟩
    · rw [if_neg c2] at h ⊢
      match st, h with
      | [], h => exact absurd h.1 (by decide)
      | [b], h => exact absurd h.1 (by show ¬ 2 ≤ 1; decide)
      | b :: c :: st, h =>
        have h2 : sWf (st.length + 1) l := h.2
        by_cases c3 : q.1 = 9
        · rw [if_pos c3]
          exact ⟨h2, fun h => by show st.length + 1 ≤ 24; have : st.length + 1 + 1 ≤ 24 := h; omega⟩
        · rw [if_neg c3]
          exact ⟨h2, fun h => by show st.length + 1 ≤ 24; have : st.length + 1 + 1 ≤ 24 := h; omega⟩
theorem sRun_len {fx : Nat → Nat} : ∀ (l : List (Nat × Nat × Nat)) (st : List Bool), sWf st.length l → (sRun fx st l).length = 1
  | [], st, h => h
  | q :: l, st, h => sRun_len l (sStep fx st q) (sStep_len h).1
/-- a law of the class at the cell b, its steps V behind it -/
def LaC (s : mS) (b : Nat) (V : List Int32) : Prop := (sH s b).1 = 0 ∧ sP s b 0 = b + 1 ∧ sH s (b + 1) = (11, V.length) ∧ V.length < 2000 ∧ ∀ j, j < V.length → sI s (b + 1) j = V.getD j 0
theorem l_step {s : mS} {b g : Nat} {V : List Int32} {fx : Nat → Nat} (hL : LaC s b V) (hH : sH s g = (11, 8)) (hF : ∀ i, i < 8 → sI s g i = nI (fx i)) (hb : ∀ i, fx i ≤ 1600) {q : Nat × Nat × Nat} {l : List (Nat × Nat × Nat)} {st : List Bool} {o : Nat} (hq : sOk q) (ho : o < V.length) (hV : V.getD o 0 = lCode q) (hw : sWf st.length (q :: l)) (h24 : st.length ≤ 24) (n : Nat) : fX0_whomFor_4 (n + 1) b g (nI (sE st)) (nI o) s = fX0_whomFor_4 n b g (nI (sE (sStep fx st q))) (nI (o + 1)) s := by
  obtain ⟨k1, k2, k3, k4, k5⟩ := hL
  obtain ⟨v, h1, h2, h3, h4⟩ := lCode_lt hq
  have hv : sI s (b + 1) o = nI v := by rw [k5 o ho, hV, h2]
  have hE := sE_b h24
  have h10 := hq.1
  rw [qX0_whomFor_4]
  simp (disch := omega) only [xGR k1 k2, xLen k3, li_0, li_1, li_2, li_3, li_4, li_5, li_6, li_7, li_8, li_9, li_10, li_11, li_12, li_13, li_14, li_15, li_16, li_17, li_20, li_24, li_25, li_29, li_31, li_32, li_33, li_37, li_40, li_41, li_48, li_49, li_50, li_56, li_57, li_59, li_60, li_61, li_62, li_63, li_70, li_73, li_85, li_97, li_98, li_99, li_100, li_101, li_102, li_103, li_104, li_105, li_107, li_108, li_109, li_110, li_111, li_112, li_114, li_115, li_116, li_117, li_118, li_119, li_121, li_122, li_140, li_193, li_200, li_240, li_255, li_289, li_290, li_300, li_302, li_314, li_326, li_860, li_880, li_900, li_999, li_1024, li_2801, li_3440, li_3441, li_3442, li_3443, li_3444, li_3447, li_3448, li_3449, li_3457, li_3465, li_3469, li_3473, li_3477, li_3501, li_3513, li_3525, li_3537, li_3633, li_3730, li_3742, li_3754, li_3766, li_4095, li_4096, li_4300, li_9011, li_9999, li_10000, li_36864, li_65536, li_1000000, ll_0, ll_1, ll_100, ll_11, ll_16, ll_20, ll_3, ll_32, ll_50, ll_8, ll_96, ll_99, ll_9999, ne_m1, e_if, e_ret, e_rz0, e_rz1, e_rzb, e_call, bCallX_eq, nI_add, nI_mul, nI_succ1, le_i, lt_i, eq_i, m1_i, m1_le, m1_lt, m1_ge, m1_eq, ite_true, ite_false, if_true, if_false, show ¬ V.length ≤ o by omega, xAIe k3 ho (by omega) hv, and15, e_swc, h3]
  unfold sStep
  by_cases c1 : q.1 < 8
  · simp (disch := omega) only [c1, if_true, li_0, li_1, li_2, li_3, li_4, li_5, li_6, li_7, li_8, li_9, li_10, li_11, li_12, li_13, li_14, li_15, li_16, li_17, li_20, li_24, li_25, li_29, li_31, li_32, li_33, li_37, li_40, li_41, li_48, li_49, li_50, li_56, li_57, li_59, li_60, li_61, li_62, li_63, li_70, li_73, li_85, li_97, li_98, li_99, li_100, li_101, li_102, li_103, li_104, li_105, li_107, li_108, li_109, li_110, li_111, li_112, li_114, li_115, li_116, li_117, li_118, li_119, li_121, li_122, li_140, li_193, li_200, li_240, li_255, li_289, li_290, li_300, li_302, li_314, li_326, li_860, li_880, li_900, li_999, li_1024, li_2801, li_3440, li_3441, li_3442, li_3443, li_3444, li_3447, li_3448, li_3449, li_3457, li_3465, li_3469, li_3473, li_3477, li_3501, li_3513, li_3525, li_3537, li_3633, li_3730, li_3742, li_3754, li_3766, li_4095, li_4096, li_4300, li_9011, li_9999, li_10000, li_36864, li_65536, li_1000000, ll_0, ll_1, ll_100, ll_11, ll_16, ll_20, ll_3, ll_32, ll_50, ll_8, ll_96, ll_99, ll_9999, ne_m1, e_if, e_ret, e_rz0, e_rz1, e_rzb, e_call, bCallX_eq, nI_add, nI_mul, nI_succ1, le_i, lt_i, eq_i, m1_i, m1_le, m1_lt, m1_ge, m1_eq, ite_true, ite_false, if_true, if_false]
    have hs : fX0_isSo (nI v) g s = some (nI (sAsk fx q).toNat, s) := by rw [← h2]; exact l_isSo hq c1 hH hF hb
    simp (disch := omega) only [xGR k1 k2, xAIe k3 ho (by omega) hv, hs, li_0, li_1, li_2, li_3, li_4, li_5, li_6, li_7, li_8, li_9, li_10, li_11, li_12, li_13, li_14, li_15, li_16, li_17, li_20, li_24, li_25, li_29, li_31, li_32, li_33, li_37, li_40, li_41, li_48, li_49, li_50, li_56, li_57, li_59, li_60, li_61, li_62, li_63, li_70, li_73, li_85, li_97, li_98, li_99, li_100, li_101, li_102, li_103, li_104, li_105, li_107, li_108, li_109, li_110, li_111, li_112, li_114, li_115, li_116, li_117, li_118, li_119, li_121, li_122, li_140, li_193, li_200, li_240, li_255, li_289, li_290, li_300, li_302, li_314, li_326, li_860, li_880, li_900, li_999, li_1024, li_2801, li_3440, li_3441, li_3442, li_3443, li_3444, li_3447, li_3448, li_3449, li_3457, li_3465, li_3469, li_3473, li_3477, li_3501, li_3513, li_3525, li_3537, li_3633, li_3730, li_3742, li_3754, li_3766, li_4095, li_4096, li_4300, li_9011, li_9999, li_10000, li_36864, li_65536, li_1000000, ll_0, ll_1, ll_100, ll_11, ll_16, ll_20, ll_3, ll_32, ll_50, ll_8, ll_96, ll_99, ll_9999, ne_m1, e_if, e_ret, e_rz0, e_rz1, e_rzb, e_call, bCallX_eq, nI_add, nI_mul, nI_succ1, le_i, lt_i, eq_i, m1_i, m1_le, m1_lt, m1_ge, m1_eq, ite_true, ite_false, if_true, if_false, bt0]
    unfold fX0_whomFor_77
    have hsh : nI (sE st) <<< (nI 1 &&& nI 31) = nI (sE st * 2) := by rw [shl_i (by omega) (by omega)]
    cases sAsk fx q with
    | false =>
      simp (disch := omega) only [if_true, hsh, or_i, li_0, li_1, li_2, li_3, li_4, li_5, li_6, li_7, li_8, li_9, li_10, li_11, li_12, li_13, li_14, li_15, li_16, li_17, li_20, li_24, li_25, li_29, li_31, li_32, li_33, li_37, li_40, li_41, li_48, li_49, li_50, li_56, li_57, li_59, li_60, li_61, li_62, li_63, li_70, li_73, li_85, li_97, li_98, li_99, li_100, li_101, li_102, li_103, li_104, li_105, li_107, li_108, li_109, li_110, li_111, li_112, li_114, li_115, li_116, li_117, li_118, li_119, li_121, li_122, li_140, li_193, li_200, li_240, li_255, li_289, li_290, li_300, li_302, li_314, li_326, li_860, li_880, li_900, li_999, li_1024, li_2801, li_3440, li_3441, li_3442, li_3443, li_3444, li_3447, li_3448, li_3449, li_3457, li_3465, li_3469, li_3473, li_3477, li_3501, li_3513, li_3525, li_3537, li_3633, li_3730, li_3742, li_3754, li_3766, li_4095, li_4096, li_4300, li_9011, li_9999, li_10000, li_36864, li_65536, li_1000000, ll_0, ll_1, ll_100, ll_11, ll_16, ll_20, ll_3, ll_32, ll_50, ll_8, ll_96, ll_99, ll_9999, ne_m1, e_if, e_ret, e_rz0, e_rz1, e_rzb, e_call, bCallX_eq, nI_add, nI_mul, nI_succ1, le_i, lt_i, eq_i, m1_i, m1_le, m1_lt, m1_ge, m1_eq, ite_true, ite_false, if_true, if_false]
      rw [show sE st * 2 ||| 0 = sE (false :: st) from or_b (sE st) false]
    | true =>
      simp (disch := omega) only [Bool.true_eq_false, if_false, hsh, or_i, li_0, li_1, li_2, li_3, li_4, li_5, li_6, li_7, li_8, li_9, li_10, li_11, li_12, li_13, li_14, li_15, li_16, li_17, li_20, li_24, li_25, li_29, li_31, li_32, li_33, li_37, li_40, li_41, li_48, li_49, li_50, li_56, li_57, li_59, li_60, li_61, li_62, li_63, li_70, li_73, li_85, li_97, li_98, li_99, li_100, li_101, li_102, li_103, li_104, li_105, li_107, li_108, li_109, li_110, li_111, li_112, li_114, li_115, li_116, li_117, li_118, li_119, li_121, li_122, li_140, li_193, li_200, li_240, li_255, li_289, li_290, li_300, li_302, li_314, li_326, li_860, li_880, li_900, li_999, li_1024, li_2801, li_3440, li_3441, li_3442, li_3443, li_3444, li_3447, li_3448, li_3449, li_3457, li_3465, li_3469, li_3473, li_3477, li_3501, li_3513, li_3525, li_3537, li_3633, li_3730, li_3742, li_3754, li_3766, li_4095, li_4096, li_4300, li_9011, li_9999, li_10000, li_36864, li_65536, li_1000000, ll_0, ll_1, ll_100, ll_11, ll_16, ll_20, ll_3, ll_32, ll_50, ll_8, ll_96, ll_99, ll_9999, ne_m1, e_if, e_ret, e_rz0, e_rz1, e_rzb, e_call, bCallX_eq, nI_add, nI_mul, nI_succ1, le_i, lt_i, eq_i, m1_i, m1_le, m1_lt, m1_ge, m1_eq, ite_true, ite_false, if_true, if_false]
      rw [show sE st * 2 ||| 1 = sE (true :: st) from or_b (sE st) true]
  · have hw' := hw
    unfold sWf at hw'
    rw [if_neg c1] at hw'
    by_cases c2 : q.1 = 8
    · rw [if_pos c2] at hw'
      cases st with
      | nil => exact absurd hw'.1 (by decide)
      | cons b0 st =>
        simp (disch := omega) only [c2, li_0, li_1, li_2, li_3, li_4, li_5, li_6, li_7, li_8, li_9, li_10, li_11, li_12, li_13, li_14, li_15, li_16, li_17, li_20, li_24, li_25, li_29, li_31, li_32, li_33, li_37, li_40, li_41, li_48, li_49, li_50, li_56, li_57, li_59, li_60, li_61, li_62, li_63, li_70, li_73, li_85, li_97, li_98, li_99, li_100, li_101, li_102, li_103, li_104, li_105, li_107, li_108, li_109, li_110, li_111, li_112, li_114, li_115, li_116, li_117, li_118, li_119, li_121, li_122, li_140, li_193, li_200, li_240, li_255, li_289, li_290, li_300, li_302, li_314, li_326, li_860, li_880, li_900, li_999, li_1024, li_2801, li_3440, li_3441, li_3442, li_3443, li_3444, li_3447, li_3448, li_3449, li_3457, li_3465, li_3469, li_3473, li_3477, li_3501, li_3513, li_3525, li_3537, li_3633, li_3730, li_3742, li_3754, li_3766, li_4095, li_4096, li_4300, li_9011, li_9999, li_10000, li_36864, li_65536, li_1000000, ll_0, ll_1, ll_100, ll_11, ll_16, ll_20, ll_3, ll_32, ll_50, ll_8, ll_96, ll_99, ll_9999, ne_m1, e_if, e_ret, e_rz0, e_rz1, e_rzb, e_call, bCallX_eq, nI_add, nI_mul, nI_succ1, le_i, lt_i, eq_i, m1_i, m1_le, m1_lt, m1_ge, m1_eq, ite_true, ite_false, if_true, if_false, xor_i]
        rw [show sE (b0 :: st) ^^^ 1 = sE ((!b0) :: st) from xor_1 (sE st) b0]
        rfl
    · rw [if_neg c2] at hw'
      match st, hw', h24, hE with
      | [], hw', _, _ => exact absurd hw'.1 (by decide)
      | [b0], hw', _, _ => exact absurd hw'.1 (by show ¬ 2 ≤ 1; decide)
      | b0 :: c0 :: st, _, h24, hE =>
        have he : sE (b0 :: c0 :: st) = b0.toNat + 2 * (c0.toNat + 2 * sE st) := rfl
        rw [he] at hE ⊢
        have hb1 : b0.toNat ≤ 1 := by cases b0 <;> decide
        have hd : (b0.toNat + 2 * (c0.toNat + 2 * sE st)) / 2 = c0.toNat + 2 * sE st := by omega
        have h1' : nI (b0.toNat + 2 * (c0.toNat + 2 * sE st)) &&& nI 1 = nI b0.toNat := by rw [and_i (by omega) (by decide), and_1]
        by_cases c3 : q.1 = 9
        · simp (disch := omega) only [c3, li_0, li_1, li_2, li_3, li_4, li_5, li_6, li_7, li_8, li_9, li_10, li_11, li_12, li_13, li_14, li_15, li_16, li_17, li_20, li_24, li_25, li_29, li_31, li_32, li_33, li_37, li_40, li_41, li_48, li_49, li_50, li_56, li_57, li_59, li_60, li_61, li_62, li_63, li_70, li_73, li_85, li_97, li_98, li_99, li_100, li_101, li_102, li_103, li_104, li_105, li_107, li_108, li_109, li_110, li_111, li_112, li_114, li_115, li_116, li_117, li_118, li_119, li_121, li_122, li_140, li_193, li_200, li_240, li_255, li_289, li_290, li_300, li_302, li_314, li_326, li_860, li_880, li_900, li_999, li_1024, li_2801, li_3440, li_3441, li_3442, li_3443, li_3444, li_3447, li_3448, li_3449, li_3457, li_3465, li_3469, li_3473, li_3477, li_3501, li_3513, li_3525, li_3537, li_3633, li_3730, li_3742, li_3754, li_3766, li_4095, li_4096, li_4300, li_9011, li_9999, li_10000, li_36864, li_65536, li_1000000, ll_0, ll_1, ll_100, ll_11, ll_16, ll_20, ll_3, ll_32, ll_50, ll_8, ll_96, ll_99, ll_9999, ne_m1, e_if, e_ret, e_rz0, e_rz1, e_rzb, e_call, bCallX_eq, nI_add, nI_mul, nI_succ1, le_i, lt_i, eq_i, m1_i, m1_le, m1_lt, m1_ge, m1_eq, ite_true, ite_false, if_true, if_false, ushr1, hd, h1']
          have key : nI (c0.toNat + 2 * sE st) &&& (nI b0.toNat ||| -(nI 2)) = nI ((c0 && b0).toNat + 2 * sE st) := by
            cases b0 with
            | true =>
              rw [show nI true.toNat ||| -(nI 2) = mI by decide, and_mm _ (by omega), Bool.and_true]
            | false =>
              rw [show nI false.toNat ||| -(nI 2) = -(nI 2) by decide, and_m2 _ (by omega), Bool.and_false]
              congr 1
              cases c0 <;> simp <;> omega
          rw [key]
          rfl
        · have c4 : q.1 = 10 := by omega
          simp (disch := omega) only [c4, li_0, li_1, li_2, li_3, li_4, li_5, li_6, li_7, li_8, li_9, li_10, li_11, li_12, li_13, li_14, li_15, li_16, li_17, li_20, li_24, li_25, li_29, li_31, li_32, li_33, li_37, li_40, li_41, li_48, li_49, li_50, li_56, li_57, li_59, li_60, li_61, li_62, li_63, li_70, li_73, li_85, li_97, li_98, li_99, li_100, li_101, li_102, li_103, li_104, li_105, li_107, li_108, li_109, li_110, li_111, li_112, li_114, li_115, li_116, li_117, li_118, li_119, li_121, li_122, li_140, li_193, li_200, li_240, li_255, li_289, li_290, li_300, li_302, li_314, li_326, li_860, li_880, li_900, li_999, li_1024, li_2801, li_3440, li_3441, li_3442, li_3443, li_3444, li_3447, li_3448, li_3449, li_3457, li_3465, li_3469, li_3473, li_3477, li_3501, li_3513, li_3525, li_3537, li_3633, li_3730, li_3742, li_3754, li_3766, li_4095, li_4096, li_4300, li_9011, li_9999, li_10000, li_36864, li_65536, li_1000000, ll_0, ll_1, ll_100, ll_11, ll_16, ll_20, ll_3, ll_32, ll_50, ll_8, ll_96, ll_99, ll_9999, ne_m1, e_if, e_ret, e_rz0, e_rz1, e_rzb, e_call, bCallX_eq, nI_add, nI_mul, nI_succ1, le_i, lt_i, eq_i, m1_i, m1_le, m1_lt, m1_ge, m1_eq, ite_true, ite_false, if_true, if_false, ushr1, hd, h1', or_i]
          have key : (c0.toNat + 2 * sE st) ||| b0.toNat = (c0 || b0).toNat + 2 * sE st := by
            cases c0 with
            | false => have := or_b (sE st) b0; simp; rw [Nat.mul_comm]; omega
            | true =>
              cases b0 with
              | false => simp
              | true =>
                have := or_b (sE st) true
                show 1 + 2 * sE st ||| 1 = 1 + 2 * sE st
                have h5 : sE st * 2 ||| 1 = 1 + 2 * sE st := this
                rw [← h5, Nat.or_assoc, Nat.or_self]
          rw [key]
          rfl

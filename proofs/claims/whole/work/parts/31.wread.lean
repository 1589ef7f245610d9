/-! WHAT IS READ OF A WORLD (words of its own), AND THAT THE CLASS READS SO -/
def ex (P : Nat → Bool) (n : Nat) : Bool := it (fun r b => b || P r) false n
theorem ex_iff (P : Nat → Bool) : ∀ n, ex P n = true ↔ ∃ r, r < n ∧ P r = true
  | 0 => by simp [ex, it]
  | n + 1 => by
    have h := ex_iff P n
    unfold ex at h ⊢
    rw [it_s, Bool.or_eq_true, h]
    constructor
    · rintro (⟨r, h1, h2⟩ | h2)
      · exact ⟨r, by omega, h2⟩
      · exact ⟨n, by omega, h2⟩
    · rintro ⟨r, h1, h2⟩
      by_cases hr : r = n
      · subst hr; exact Or.inr h2
      · exact Or.inl ⟨r, by omega, h2⟩
theorem ex_congr {P Q : Nat → Bool} (n : Nat) (h : ∀ i, i < n → P i = Q i) : ex P n = ex Q n := it_congr n (fun k x hk => by rw [h k hk])
def wAl (W : wW) (p : Nat) : Bool := match wDi W p with
  | none => true
  | some d => decide (wYr W < d)
def wAn (W : wW) : Nat := it (fun p n => if wAl W p then n + 1 else n) 0 (wPe W)
def wHe (W : wW) (p : Nat) : Nat := mk (fun k => decide (wPa W k = some p) && wAl W k) (wPe W)
def wRn (W : wW) : Nat := it (fun r n => if rT (wRo W r) then n + 1 else n) 0 12
def wFr (W : wW) : Nat := fs (fun r => !rT (wRo W r)) 12
def wOy (W : wW) (p : Nat) : Nat := it (fun r n => if rT (wRo W r) && decide (rO (wRo W r) = some p) then n + rL (wRo W r) else n) 0 12
def wHy (W : wW) (p : Nat) : Nat := it (fun r n => if rT (wRo W r) && decide (rHo (wRo W r) = some p) then n + rL (wRo W r) else n) 0 12
def wAy (W : wW) : Nat := it (fun r n => n + rL (wRo W r)) 0 12
def wFs (W : wW) (n : Nat) : Nat := it (fun f n => if (wFd W f).1 ≤ wYr W ∧ wYr W ≤ (wFd W f).2.1 then n + (wFd W f).2.2 else n) 0 n
def wDe (W : wW) : Nat := wWa W - wFs W (wFl W)
def wSv (W : wW) (r p d : Nat) : Bool := rT (wRo W r) && (decide (rHo (wRo W r) = some p) && decide (d ≤ rE (wRo W r)))
def wDk (W : wW) (p : Nat) : Bool := wAl W p && (decide (wDe W ≤ wBo W) && ex (fun r => wSv W r p (wDe W)) 12)
def wDs (W : wW) : Nat := mk (wDk W) (wPe W)
theorem wAn_le (W : wW) : ∀ n, it (fun p n => if wAl W p then n + 1 else n) 0 n ≤ n
  | 0 => Nat.le_refl _
  | n + 1 => by
    have := wAn_le W n
    rw [it_s]
    split <;> omega
theorem wRn_le (W : wW) : ∀ n, it (fun r n => if rT (wRo W r) then n + 1 else n) 0 n ≤ n
  | 0 => Nat.le_refl _
  | n + 1 => by
    have := wRn_le W n
    rw [it_s]
    split <;> omega
theorem sum_le (f : Nat → Nat → Nat) (c : Nat) (hf : ∀ r n, f r n ≤ n + c) : ∀ n, it f 0 n ≤ c * n
  | 0 => Nat.le_refl _
  | n + 1 => by
    have h1 := sum_le f c hf n
    have h2 := hf n (it f 0 n)
    rw [it_s, Nat.mul_succ]
    omega
theorem wFs_le {W : wW} (hW : wOk W) (n : Nat) : wFs W n ≤ 999 * n := by
  refine sum_le _ 999 (fun f n => ?_) n
  have := hW.2.2.2.2.2.2.2.2.2.2.2.1 f
  split <;> omega
theorem wDe_le {W : wW} (hW : wOk W) : wDe W ≤ 999 := by
  have := hW.2.1
  unfold wDe
  omega
theorem wY_le {W : wW} (hW : wOk W) (C : Nat → Bool) (n : Nat) : it (fun r n => if C r then n + rL (wRo W r) else n) 0 n ≤ 1600 * n := by
  refine sum_le _ 1600 (fun r n => ?_) n
  have := rL_b (hW.2.2.2.2.2.2.2.2.2.2.2.2.1 r)
  split <;> omega
section CREAD
variable {s : mS} {a : Nat} {W : wW}
theorem c_isAlive (h : CW s a W) {p : Nat} (hp : p < wPe W) : fX7_isAlive a (nI p) s = some (nI (wAl W p).toNat, s) := by
  unfold fX7_isAlive wAl
  obtain ⟨iY, iW, iB, iS, iR, iRb, iD, iP, iPa, iDi, iF, iFd, iRo, iOw, iBo, iLa⟩ := h.wi
  simp (disch := omega) only [g_yr h, g_wa h, g_bo h, g_si h, g_ra h, g_rb h, g_dr h, g_pe h, g_fl h, g_apa h, g_adi h, g_aro h, g_afr h, g_ato h, g_aby h, g_afc h, g_pa h, g_di h, g_ro h, g_fr h, g_to h, g_by h, e_callV h.k, li_0, li_1, li_2, li_3, li_4, li_5, li_6, li_7, li_8, li_9, li_10, li_11, li_12, li_13, li_14, li_15, li_16, li_17, li_20, li_24, li_25, li_29, li_31, li_32, li_33, li_37, li_40, li_41, li_48, li_49, li_50, li_56, li_57, li_59, li_60, li_61, li_62, li_63, li_70, li_73, li_85, li_97, li_98, li_99, li_100, li_101, li_102, li_103, li_104, li_105, li_107, li_108, li_109, li_110, li_111, li_112, li_114, li_115, li_116, li_117, li_118, li_119, li_121, li_122, li_140, li_193, li_200, li_240, li_255, li_289, li_290, li_300, li_302, li_314, li_326, li_860, li_880, li_900, li_999, li_1024, li_2801, li_3440, li_3441, li_3442, li_3443, li_3444, li_3447, li_3448, li_3449, li_3457, li_3465, li_3469, li_3473, li_3477, li_3501, li_3513, li_3525, li_3537, li_3633, li_3730, li_3742, li_3754, li_3766, li_4095, li_4096, li_4300, li_9011, li_9999, li_10000, li_36864, li_65536, li_1000000, ll_0, ll_1, ll_100, ll_11, ll_16, ll_20, ll_3, ll_32, ll_50, ll_8, ll_96, ll_99, ll_9999, ne_m1, e_if, e_ret, e_rz0, e_rz1, e_rzb, e_call, bCallX_eq, nI_add, nI_mul, nI_succ1, le_i, lt_i, eq_i, m1_i, m1_le, m1_lt, m1_ge, m1_eq, ite_true, ite_false, if_true, if_false, oI_m (fun n e => (by have := iDi p n e; omega : n < 2147483648))]
  cases hd : wDi W p with
  | none => rfl
  | some d =>
    have := iDi p d hd
    simp (disch := omega) only [oI_s, le_i, reduceCtorEq, if_false]
    exact ite_01 (by simp)
theorem c_countAlive (h : CW s a W) : fX7_countAlive a s = some (nI (wAn W), s) := by
  unfold fX7_countAlive
  obtain ⟨iY, iW, iB, iS, iR, iRb, iD, iP, iPa, iDi, iF, iFd, iRo, iOw, iBo, iLa⟩ := h.wi
  refine loop_n (fun m k => fX7_countAlive_4 m a (nI (it (fun p n => if wAl W p then n + 1 else n) 0 k)) (nI k) s) _ (wPe W) ?_ ?_ fu 0 (by omega) (by unfold fu; omega)
  · intro m k hk
    have hk' : ¬ wPe W ≤ k := by omega
    show fX7_countAlive_4 (m + 1) a _ _ s = _
    rw [qX7_countAlive_4]
    simp (disch := omega) only [g_yr h, g_wa h, g_bo h, g_si h, g_ra h, g_rb h, g_dr h, g_pe h, g_fl h, g_apa h, g_adi h, g_aro h, g_afr h, g_ato h, g_aby h, g_afc h, g_pa h, g_di h, g_ro h, g_fr h, g_to h, g_by h, e_callV h.k, c_isAlive h hk, li_0, li_1, li_2, li_3, li_4, li_5, li_6, li_7, li_8, li_9, li_10, li_11, li_12, li_13, li_14, li_15, li_16, li_17, li_20, li_24, li_25, li_29, li_31, li_32, li_33, li_37, li_40, li_41, li_48, li_49, li_50, li_56, li_57, li_59, li_60, li_61, li_62, li_63, li_70, li_73, li_85, li_97, li_98, li_99, li_100, li_101, li_102, li_103, li_104, li_105, li_107, li_108, li_109, li_110, li_111, li_112, li_114, li_115, li_116, li_117, li_118, li_119, li_121, li_122, li_140, li_193, li_200, li_240, li_255, li_289, li_290, li_300, li_302, li_314, li_326, li_860, li_880, li_900, li_999, li_1024, li_2801, li_3440, li_3441, li_3442, li_3443, li_3444, li_3447, li_3448, li_3449, li_3457, li_3465, li_3469, li_3473, li_3477, li_3501, li_3513, li_3525, li_3537, li_3633, li_3730, li_3742, li_3754, li_3766, li_4095, li_4096, li_4300, li_9011, li_9999, li_10000, li_36864, li_65536, li_1000000, ll_0, ll_1, ll_100, ll_11, ll_16, ll_20, ll_3, ll_32, ll_50, ll_8, ll_96, ll_99, ll_9999, ne_m1, e_if, e_ret, e_rz0, e_rz1, e_rzb, e_call, bCallX_eq, nI_add, nI_mul, nI_succ1, le_i, lt_i, eq_i, m1_i, m1_le, m1_lt, m1_ge, m1_eq, ite_true, ite_false, if_true, if_false, bt0, hk', it_s]
    cases wAl W k <;> rfl
  · intro m
    show fX7_countAlive_4 (m + 1) a _ _ s = _
    rw [qX7_countAlive_4]
    simp (disch := omega) only [g_yr h, g_wa h, g_bo h, g_si h, g_ra h, g_rb h, g_dr h, g_pe h, g_fl h, g_apa h, g_adi h, g_aro h, g_afr h, g_ato h, g_aby h, g_afc h, g_pa h, g_di h, g_ro h, g_fr h, g_to h, g_by h, e_callV h.k, li_0, li_1, li_2, li_3, li_4, li_5, li_6, li_7, li_8, li_9, li_10, li_11, li_12, li_13, li_14, li_15, li_16, li_17, li_20, li_24, li_25, li_29, li_31, li_32, li_33, li_37, li_40, li_41, li_48, li_49, li_50, li_56, li_57, li_59, li_60, li_61, li_62, li_63, li_70, li_73, li_85, li_97, li_98, li_99, li_100, li_101, li_102, li_103, li_104, li_105, li_107, li_108, li_109, li_110, li_111, li_112, li_114, li_115, li_116, li_117, li_118, li_119, li_121, li_122, li_140, li_193, li_200, li_240, li_255, li_289, li_290, li_300, li_302, li_314, li_326, li_860, li_880, li_900, li_999, li_1024, li_2801, li_3440, li_3441, li_3442, li_3443, li_3444, li_3447, li_3448, li_3449, li_3457, li_3465, li_3469, li_3473, li_3477, li_3501, li_3513, li_3525, li_3537, li_3633, li_3730, li_3742, li_3754, li_3766, li_4095, li_4096, li_4300, li_9011, li_9999, li_10000, li_36864, li_65536, li_1000000, ll_0, ll_1, ll_100, ll_11, ll_16, ll_20, ll_3, ll_32, ll_50, ll_8, ll_96, ll_99, ll_9999, ne_m1, e_if, e_ret, e_rz0, e_rz1, e_rzb, e_call, bCallX_eq, nI_add, nI_mul, nI_succ1, le_i, lt_i, eq_i, m1_i, m1_le, m1_lt, m1_ge, m1_eq, ite_true, ite_false, if_true, if_false, Nat.le_refl]
    rfl
theorem c_heirSet (h : CW s a W) {p : Nat} (hp : p < wPe W) : fX7_heirSet a (nI p) s = some (nI (wHe W p), s) := by
  unfold fX7_heirSet
  obtain ⟨iY, iW, iB, iS, iR, iRb, iD, iP, iPa, iDi, iF, iFd, iRo, iOw, iBo, iLa⟩ := h.wi
  refine loop_n (fun m k => fX7_heirSet_4 m a (nI p) (nI (mk (fun k => decide (wPa W k = some p) && wAl W k) k)) (nI k) s) _ (wPe W) ?_ ?_ fu 0 (by omega) (by unfold fu; omega)
  · intro m k hk
    have hk' : ¬ wPe W ≤ k := by omega
    have hm := mk_lt (fun k => decide (wPa W k = some p) && wAl W k) k
    have h8 : (2 : Nat) ^ k ≤ 2 ^ 8 := Nat.pow_le_pow_right (by decide) (by omega)
    show fX7_heirSet_4 (m + 1) a _ _ _ s = _
    rw [qX7_heirSet_4]
    simp (disch := omega) only [g_yr h, g_wa h, g_bo h, g_si h, g_ra h, g_rb h, g_dr h, g_pe h, g_fl h, g_apa h, g_adi h, g_aro h, g_afr h, g_ato h, g_aby h, g_afc h, g_pa h, g_di h, g_ro h, g_fr h, g_to h, g_by h, e_callV h.k, c_isAlive h hk, li_0, li_1, li_2, li_3, li_4, li_5, li_6, li_7, li_8, li_9, li_10, li_11, li_12, li_13, li_14, li_15, li_16, li_17, li_20, li_24, li_25, li_29, li_31, li_32, li_33, li_37, li_40, li_41, li_48, li_49, li_50, li_56, li_57, li_59, li_60, li_61, li_62, li_63, li_70, li_73, li_85, li_97, li_98, li_99, li_100, li_101, li_102, li_103, li_104, li_105, li_107, li_108, li_109, li_110, li_111, li_112, li_114, li_115, li_116, li_117, li_118, li_119, li_121, li_122, li_140, li_193, li_200, li_240, li_255, li_289, li_290, li_300, li_302, li_314, li_326, li_860, li_880, li_900, li_999, li_1024, li_2801, li_3440, li_3441, li_3442, li_3443, li_3444, li_3447, li_3448, li_3449, li_3457, li_3465, li_3469, li_3473, li_3477, li_3501, li_3513, li_3525, li_3537, li_3633, li_3730, li_3742, li_3754, li_3766, li_4095, li_4096, li_4300, li_9011, li_9999, li_10000, li_36864, li_65536, li_1000000, ll_0, ll_1, ll_100, ll_11, ll_16, ll_20, ll_3, ll_32, ll_50, ll_8, ll_96, ll_99, ll_9999, ne_m1, e_if, e_ret, e_rz0, e_rz1, e_rzb, e_call, bCallX_eq, nI_add, nI_mul, nI_succ1, le_i, lt_i, eq_i, m1_i, m1_le, m1_lt, m1_ge, m1_eq, ite_true, ite_false, if_true, if_false, bt0, hk', oI_e (ob (iPa k)), one_shl, or_i]
    unfold mk
    rw [it_s]
    by_cases h1 : wPa W k = some p
    · cases h2 : wAl W k <;> simp [h1, h2]
    · simp [h1]
  · intro m
    show fX7_heirSet_4 (m + 1) a _ _ _ s = _
    rw [qX7_heirSet_4]
    simp (disch := omega) only [g_yr h, g_wa h, g_bo h, g_si h, g_ra h, g_rb h, g_dr h, g_pe h, g_fl h, g_apa h, g_adi h, g_aro h, g_afr h, g_ato h, g_aby h, g_afc h, g_pa h, g_di h, g_ro h, g_fr h, g_to h, g_by h, e_callV h.k, li_0, li_1, li_2, li_3, li_4, li_5, li_6, li_7, li_8, li_9, li_10, li_11, li_12, li_13, li_14, li_15, li_16, li_17, li_20, li_24, li_25, li_29, li_31, li_32, li_33, li_37, li_40, li_41, li_48, li_49, li_50, li_56, li_57, li_59, li_60, li_61, li_62, li_63, li_70, li_73, li_85, li_97, li_98, li_99, li_100, li_101, li_102, li_103, li_104, li_105, li_107, li_108, li_109, li_110, li_111, li_112, li_114, li_115, li_116, li_117, li_118, li_119, li_121, li_122, li_140, li_193, li_200, li_240, li_255, li_289, li_290, li_300, li_302, li_314, li_326, li_860, li_880, li_900, li_999, li_1024, li_2801, li_3440, li_3441, li_3442, li_3443, li_3444, li_3447, li_3448, li_3449, li_3457, li_3465, li_3469, li_3473, li_3477, li_3501, li_3513, li_3525, li_3537, li_3633, li_3730, li_3742, li_3754, li_3766, li_4095, li_4096, li_4300, li_9011, li_9999, li_10000, li_36864, li_65536, li_1000000, ll_0, ll_1, ll_100, ll_11, ll_16, ll_20, ll_3, ll_32, ll_50, ll_8, ll_96, ll_99, ll_9999, ne_m1, e_if, e_ret, e_rz0, e_rz1, e_rzb, e_call, bCallX_eq, nI_add, nI_mul, nI_succ1, le_i, lt_i, eq_i, m1_i, m1_le, m1_lt, m1_ge, m1_eq, ite_true, ite_false, if_true, if_false, Nat.le_refl]
    rfl
theorem c_countRopes (h : CW s a W) : fX7_countRopes a s = some (nI (wRn W), s) := by
  unfold fX7_countRopes
  refine loop_n (fun m k => fX7_countRopes_4 m a (nI (it (fun r n => if rT (wRo W r) then n + 1 else n) 0 k)) (nI k) s) _ 12 ?_ ?_ fu 0 (by omega) (by unfold fu; omega)
  · intro m k hk
    have hk' : ¬ 12 ≤ k := by omega
    show fX7_countRopes_4 (m + 1) a _ _ s = _
    rw [qX7_countRopes_4]
    simp (disch := omega) only [g_aro h, g_ro h, e_callV (h.rs hk).1, t_isThere (h.rs hk) (h.rd hk) (h.ri k), li_0, li_1, li_2, li_3, li_4, li_5, li_6, li_7, li_8, li_9, li_10, li_11, li_12, li_13, li_14, li_15, li_16, li_17, li_20, li_24, li_25, li_29, li_31, li_32, li_33, li_37, li_40, li_41, li_48, li_49, li_50, li_56, li_57, li_59, li_60, li_61, li_62, li_63, li_70, li_73, li_85, li_97, li_98, li_99, li_100, li_101, li_102, li_103, li_104, li_105, li_107, li_108, li_109, li_110, li_111, li_112, li_114, li_115, li_116, li_117, li_118, li_119, li_121, li_122, li_140, li_193, li_200, li_240, li_255, li_289, li_290, li_300, li_302, li_314, li_326, li_860, li_880, li_900, li_999, li_1024, li_2801, li_3440, li_3441, li_3442, li_3443, li_3444, li_3447, li_3448, li_3449, li_3457, li_3465, li_3469, li_3473, li_3477, li_3501, li_3513, li_3525, li_3537, li_3633, li_3730, li_3742, li_3754, li_3766, li_4095, li_4096, li_4300, li_9011, li_9999, li_10000, li_36864, li_65536, li_1000000, ll_0, ll_1, ll_100, ll_11, ll_16, ll_20, ll_3, ll_32, ll_50, ll_8, ll_96, ll_99, ll_9999, ne_m1, e_if, e_ret, e_rz0, e_rz1, e_rzb, e_call, bCallX_eq, nI_add, nI_mul, nI_succ1, le_i, lt_i, eq_i, m1_i, m1_le, m1_lt, m1_ge, m1_eq, ite_true, ite_false, if_true, if_false, bt0, hk', it_s]
    cases rT (wRo W k) <;> rfl
  · intro m
    show fX7_countRopes_4 (m + 1) a _ _ s = _
    rw [qX7_countRopes_4]
    simp (disch := omega) only [li_0, li_1, li_2, li_3, li_4, li_5, li_6, li_7, li_8, li_9, li_10, li_11, li_12, li_13, li_14, li_15, li_16, li_17, li_20, li_24, li_25, li_29, li_31, li_32, li_33, li_37, li_40, li_41, li_48, li_49, li_50, li_56, li_57, li_59, li_60, li_61, li_62, li_63, li_70, li_73, li_85, li_97, li_98, li_99, li_100, li_101, li_102, li_103, li_104, li_105, li_107, li_108, li_109, li_110, li_111, li_112, li_114, li_115, li_116, li_117, li_118, li_119, li_121, li_122, li_140, li_193, li_200, li_240, li_255, li_289, li_290, li_300, li_302, li_314, li_326, li_860, li_880, li_900, li_999, li_1024, li_2801, li_3440, li_3441, li_3442, li_3443, li_3444, li_3447, li_3448, li_3449, li_3457, li_3465, li_3469, li_3473, li_3477, li_3501, li_3513, li_3525, li_3537, li_3633, li_3730, li_3742, li_3754, li_3766, li_4095, li_4096, li_4300, li_9011, li_9999, li_10000, li_36864, li_65536, li_1000000, ll_0, ll_1, ll_100, ll_11, ll_16, ll_20, ll_3, ll_32, ll_50, ll_8, ll_96, ll_99, ll_9999, ne_m1, e_if, e_ret, e_rz0, e_rz1, e_rzb, e_call, bCallX_eq, nI_add, nI_mul, nI_succ1, le_i, lt_i, eq_i, m1_i, m1_le, m1_lt, m1_ge, m1_eq, ite_true, ite_false, if_true, if_false, Nat.le_refl]
    rfl
def nO (k n : Nat) : Int32 := if k < n then nI k else mI
theorem c_freeRope (h : CW s a W) : fX7_freeRope a s = some (nO (wFr W) 12, s) := by
  unfold fX7_freeRope
  refine loop_x (fun m k => fX7_freeRope_2 m a (nI k) s) (fun r => !rT (wRo W r)) (fun k => some (nO k 12, s)) 12 ?_ ?_ ?_ fu (by unfold fu; omega)
  · intro m k hk hx
    have hk' : ¬ 12 ≤ k := by omega
    have hx : rT (wRo W k) = false := by simpa using hx
    show fX7_freeRope_2 (m + 1) a _ s = _
    rw [qX7_freeRope_2]
    simp (disch := omega) only [g_aro h, g_ro h, e_callV (h.rs hk).1, t_isThere (h.rs hk) (h.rd hk) (h.ri k), li_0, li_1, li_2, li_3, li_4, li_5, li_6, li_7, li_8, li_9, li_10, li_11, li_12, li_13, li_14, li_15, li_16, li_17, li_20, li_24, li_25, li_29, li_31, li_32, li_33, li_37, li_40, li_41, li_48, li_49, li_50, li_56, li_57, li_59, li_60, li_61, li_62, li_63, li_70, li_73, li_85, li_97, li_98, li_99, li_100, li_101, li_102, li_103, li_104, li_105, li_107, li_108, li_109, li_110, li_111, li_112, li_114, li_115, li_116, li_117, li_118, li_119, li_121, li_122, li_140, li_193, li_200, li_240, li_255, li_289, li_290, li_300, li_302, li_314, li_326, li_860, li_880, li_900, li_999, li_1024, li_2801, li_3440, li_3441, li_3442, li_3443, li_3444, li_3447, li_3448, li_3449, li_3457, li_3465, li_3469, li_3473, li_3477, li_3501, li_3513, li_3525, li_3537, li_3633, li_3730, li_3742, li_3754, li_3766, li_4095, li_4096, li_4300, li_9011, li_9999, li_10000, li_36864, li_65536, li_1000000, ll_0, ll_1, ll_100, ll_11, ll_16, ll_20, ll_3, ll_32, ll_50, ll_8, ll_96, ll_99, ll_9999, ne_m1, e_if, e_ret, e_rz0, e_rz1, e_rzb, e_call, bCallX_eq, nI_add, nI_mul, nI_succ1, le_i, lt_i, eq_i, m1_i, m1_le, m1_lt, m1_ge, m1_eq, ite_true, ite_false, if_true, if_false, bt0, hk', hx]
    rw [nO, if_pos hk]
  · intro m k hk hx
    have hk' : ¬ 12 ≤ k := by omega
    have hx : rT (wRo W k) = true := by simpa using hx
    show fX7_freeRope_2 (m + 1) a _ s = _
    rw [qX7_freeRope_2]
    simp (disch := omega) only [g_aro h, g_ro h, e_callV (h.rs hk).1, t_isThere (h.rs hk) (h.rd hk) (h.ri k), li_0, li_1, li_2, li_3, li_4, li_5, li_6, li_7, li_8, li_9, li_10, li_11, li_12, li_13, li_14, li_15, li_16, li_17, li_20, li_24, li_25, li_29, li_31, li_32, li_33, li_37, li_40, li_41, li_48, li_49, li_50, li_56, li_57, li_59, li_60, li_61, li_62, li_63, li_70, li_73, li_85, li_97, li_98, li_99, li_100, li_101, li_102, li_103, li_104, li_105, li_107, li_108, li_109, li_110, li_111, li_112, li_114, li_115, li_116, li_117, li_118, li_119, li_121, li_122, li_140, li_193, li_200, li_240, li_255, li_289, li_290, li_300, li_302, li_314, li_326, li_860, li_880, li_900, li_999, li_1024, li_2801, li_3440, li_3441, li_3442, li_3443, li_3444, li_3447, li_3448, li_3449, li_3457, li_3465, li_3469, li_3473, li_3477, li_3501, li_3513, li_3525, li_3537, li_3633, li_3730, li_3742, li_3754, li_3766, li_4095, li_4096, li_4300, li_9011, li_9999, li_10000, li_36864, li_65536, li_1000000, ll_0, ll_1, ll_100, ll_11, ll_16, ll_20, ll_3, ll_32, ll_50, ll_8, ll_96, ll_99, ll_9999, ne_m1, e_if, e_ret, e_rz0, e_rz1, e_rzb, e_call, bCallX_eq, nI_add, nI_mul, nI_succ1, le_i, lt_i, eq_i, m1_i, m1_le, m1_lt, m1_ge, m1_eq, ite_true, ite_false, if_true, if_false, bt0, hk', hx, Bool.true_eq_false]
  · intro m
    show fX7_freeRope_2 (m + 1) a _ s = _
    rw [qX7_freeRope_2]
    simp (disch := omega) only [li_0, li_1, li_2, li_3, li_4, li_5, li_6, li_7, li_8, li_9, li_10, li_11, li_12, li_13, li_14, li_15, li_16, li_17, li_20, li_24, li_25, li_29, li_31, li_32, li_33, li_37, li_40, li_41, li_48, li_49, li_50, li_56, li_57, li_59, li_60, li_61, li_62, li_63, li_70, li_73, li_85, li_97, li_98, li_99, li_100, li_101, li_102, li_103, li_104, li_105, li_107, li_108, li_109, li_110, li_111, li_112, li_114, li_115, li_116, li_117, li_118, li_119, li_121, li_122, li_140, li_193, li_200, li_240, li_255, li_289, li_290, li_300, li_302, li_314, li_326, li_860, li_880, li_900, li_999, li_1024, li_2801, li_3440, li_3441, li_3442, li_3443, li_3444, li_3447, li_3448, li_3449, li_3457, li_3465, li_3469, li_3473, li_3477, li_3501, li_3513, li_3525, li_3537, li_3633, li_3730, li_3742, li_3754, li_3766, li_4095, li_4096, li_4300, li_9011, li_9999, li_10000, li_36864, li_65536, li_1000000, ll_0, ll_1, ll_100, ll_11, ll_16, ll_20, ll_3, ll_32, ll_50, ll_8, ll_96, ll_99, ll_9999, ne_m1, e_if, e_ret, e_rz0, e_rz1, e_rzb, e_call, bCallX_eq, nI_add, nI_mul, nI_succ1, le_i, lt_i, eq_i, m1_i, m1_le, m1_lt, m1_ge, m1_eq, ite_true, ite_false, if_true, if_false, Nat.le_refl]
    rfl
theorem c_ownYards (h : CW s a W) {p : Nat} (hp : p < 8) : fX7_ownYards a (nI p) s = some (nI (wOy W p), s) := by
  unfold fX7_ownYards
  refine loop_n (fun m k => fX7_ownYards_4 m a (nI p) (nI (it (fun r n => if rT (wRo W r) && decide (rO (wRo W r) = some p) then n + rL (wRo W r) else n) 0 k)) (nI k) s) _ 12 ?_ ?_ fu 0 (by omega) (by unfold fu; omega)
  · intro m k hk
    have hk' : ¬ 12 ≤ k := by omega
    show fX7_ownYards_4 (m + 1) a _ _ _ s = _
    rw [qX7_ownYards_4]
    simp (disch := omega) only [g_aro h, g_ro h, e_callV (h.rs hk).1, t_isThere (h.rs hk) (h.rd hk) (h.ri k), xGIe (h.rs hk).1 (h.rd hk).1, xGIe (h.rs hk).1 (h.rd hk).2.2.2.1, li_0, li_1, li_2, li_3, li_4, li_5, li_6, li_7, li_8, li_9, li_10, li_11, li_12, li_13, li_14, li_15, li_16, li_17, li_20, li_24, li_25, li_29, li_31, li_32, li_33, li_37, li_40, li_41, li_48, li_49, li_50, li_56, li_57, li_59, li_60, li_61, li_62, li_63, li_70, li_73, li_85, li_97, li_98, li_99, li_100, li_101, li_102, li_103, li_104, li_105, li_107, li_108, li_109, li_110, li_111, li_112, li_114, li_115, li_116, li_117, li_118, li_119, li_121, li_122, li_140, li_193, li_200, li_240, li_255, li_289, li_290, li_300, li_302, li_314, li_326, li_860, li_880, li_900, li_999, li_1024, li_2801, li_3440, li_3441, li_3442, li_3443, li_3444, li_3447, li_3448, li_3449, li_3457, li_3465, li_3469, li_3473, li_3477, li_3501, li_3513, li_3525, li_3537, li_3633, li_3730, li_3742, li_3754, li_3766, li_4095, li_4096, li_4300, li_9011, li_9999, li_10000, li_36864, li_65536, li_1000000, ll_0, ll_1, ll_100, ll_11, ll_16, ll_20, ll_3, ll_32, ll_50, ll_8, ll_96, ll_99, ll_9999, ne_m1, e_if, e_ret, e_rz0, e_rz1, e_rzb, e_call, bCallX_eq, nI_add, nI_mul, nI_succ1, le_i, lt_i, eq_i, m1_i, m1_le, m1_lt, m1_ge, m1_eq, ite_true, ite_false, if_true, if_false, bt0, hk', it_s, oI_e (ob (h.ri k).2.2.2.1)]
    cases rT (wRo W k)
    · rfl
    · by_cases h2 : rO (wRo W k) = some p <;> simp [h2]
  · intro m
    show fX7_ownYards_4 (m + 1) a _ _ _ s = _
    rw [qX7_ownYards_4]
    simp (disch := omega) only [li_0, li_1, li_2, li_3, li_4, li_5, li_6, li_7, li_8, li_9, li_10, li_11, li_12, li_13, li_14, li_15, li_16, li_17, li_20, li_24, li_25, li_29, li_31, li_32, li_33, li_37, li_40, li_41, li_48, li_49, li_50, li_56, li_57, li_59, li_60, li_61, li_62, li_63, li_70, li_73, li_85, li_97, li_98, li_99, li_100, li_101, li_102, li_103, li_104, li_105, li_107, li_108, li_109, li_110, li_111, li_112, li_114, li_115, li_116, li_117, li_118, li_119, li_121, li_122, li_140, li_193, li_200, li_240, li_255, li_289, li_290, li_300, li_302, li_314, li_326, li_860, li_880, li_900, li_999, li_1024, li_2801, li_3440, li_3441, li_3442, li_3443, li_3444, li_3447, li_3448, li_3449, li_3457, li_3465, li_3469, li_3473, li_3477, li_3501, li_3513, li_3525, li_3537, li_3633, li_3730, li_3742, li_3754, li_3766, li_4095, li_4096, li_4300, li_9011, li_9999, li_10000, li_36864, li_65536, li_1000000, ll_0, ll_1, ll_100, ll_11, ll_16, ll_20, ll_3, ll_32, ll_50, ll_8, ll_96, ll_99, ll_9999, ne_m1, e_if, e_ret, e_rz0, e_rz1, e_rzb, e_call, bCallX_eq, nI_add, nI_mul, nI_succ1, le_i, lt_i, eq_i, m1_i, m1_le, m1_lt, m1_ge, m1_eq, ite_true, ite_false, if_true, if_false, Nat.le_refl]
    rfl
theorem c_heldYards (h : CW s a W) {p : Nat} (hp : p < 8) : fX7_heldYards a (nI p) s = some (nI (wHy W p), s) := by
  unfold fX7_heldYards
  refine loop_n (fun m k => fX7_heldYards_4 m a (nI p) (nI (it (fun r n => if rT (wRo W r) && decide (rHo (wRo W r) = some p) then n + rL (wRo W r) else n) 0 k)) (nI k) s) _ 12 ?_ ?_ fu 0 (by omega) (by unfold fu; omega)
  · intro m k hk
    have hk' : ¬ 12 ≤ k := by omega
    show fX7_heldYards_4 (m + 1) a _ _ _ s = _
    rw [qX7_heldYards_4]
    simp (disch := omega) only [g_aro h, g_ro h, e_callV (h.rs hk).1, t_isThere (h.rs hk) (h.rd hk) (h.ri k), t_holder (h.rs hk) (h.rd hk) (h.ri k), xGIe (h.rs hk).1 (h.rd hk).2.2.2.1, li_0, li_1, li_2, li_3, li_4, li_5, li_6, li_7, li_8, li_9, li_10, li_11, li_12, li_13, li_14, li_15, li_16, li_17, li_20, li_24, li_25, li_29, li_31, li_32, li_33, li_37, li_40, li_41, li_48, li_49, li_50, li_56, li_57, li_59, li_60, li_61, li_62, li_63, li_70, li_73, li_85, li_97, li_98, li_99, li_100, li_101, li_102, li_103, li_104, li_105, li_107, li_108, li_109, li_110, li_111, li_112, li_114, li_115, li_116, li_117, li_118, li_119, li_121, li_122, li_140, li_193, li_200, li_240, li_255, li_289, li_290, li_300, li_302, li_314, li_326, li_860, li_880, li_900, li_999, li_1024, li_2801, li_3440, li_3441, li_3442, li_3443, li_3444, li_3447, li_3448, li_3449, li_3457, li_3465, li_3469, li_3473, li_3477, li_3501, li_3513, li_3525, li_3537, li_3633, li_3730, li_3742, li_3754, li_3766, li_4095, li_4096, li_4300, li_9011, li_9999, li_10000, li_36864, li_65536, li_1000000, ll_0, ll_1, ll_100, ll_11, ll_16, ll_20, ll_3, ll_32, ll_50, ll_8, ll_96, ll_99, ll_9999, ne_m1, e_if, e_ret, e_rz0, e_rz1, e_rzb, e_call, bCallX_eq, nI_add, nI_mul, nI_succ1, le_i, lt_i, eq_i, m1_i, m1_le, m1_lt, m1_ge, m1_eq, ite_true, ite_false, if_true, if_false, bt0, hk', it_s, oI_e (ob (rHo_b (h.ri k)))]
    cases rT (wRo W k)
    · rfl
    · by_cases h2 : rHo (wRo W k) = some p <;> simp [h2]
  · intro m
    show fX7_heldYards_4 (m + 1) a _ _ _ s = _
    rw [qX7_heldYards_4]
    simp (disch := omega) only [li_0, li_1, li_2, li_3, li_4, li_5, li_6, li_7, li_8, li_9, li_10, li_11, li_12, li_13, li_14, li_15, li_16, li_17, li_20, li_24, li_25, li_29, li_31, li_32, li_33, li_37, li_40, li_41, li_48, li_49, li_50, li_56, li_57, li_59, li_60, li_61, li_62, li_63, li_70, li_73, li_85, li_97, li_98, li_99, li_100, li_101, li_102, li_103, li_104, li_105, li_107, li_108, li_109, li_110, li_111, li_112, li_114, li_115, li_116, li_117, li_118, li_119, li_121, li_122, li_140, li_193, li_200, li_240, li_255, li_289, li_290, li_300, li_302, li_314, li_326, li_860, li_880, li_900, li_999, li_1024, li_2801, li_3440, li_3441, li_3442, li_3443, li_3444, li_3447, li_3448, li_3449, li_3457, li_3465, li_3469, li_3473, li_3477, li_3501, li_3513, li_3525, li_3537, li_3633, li_3730, li_3742, li_3754, li_3766, li_4095, li_4096, li_4300, li_9011, li_9999, li_10000, li_36864, li_65536, li_1000000, ll_0, ll_1, ll_100, ll_11, ll_16, ll_20, ll_3, ll_32, ll_50, ll_8, ll_96, ll_99, ll_9999, ne_m1, e_if, e_ret, e_rz0, e_rz1, e_rzb, e_call, bCallX_eq, nI_add, nI_mul, nI_succ1, le_i, lt_i, eq_i, m1_i, m1_le, m1_lt, m1_ge, m1_eq, ite_true, ite_false, if_true, if_false, Nat.le_refl]
    rfl
theorem c_allYards (h : CW s a W) : fX7_allYards a s = some (nI (wAy W), s) := by
  unfold fX7_allYards
  refine loop_n (fun m k => fX7_allYards_4 m a (nI (it (fun r n => n + rL (wRo W r)) 0 k)) (nI k) s) _ 12 ?_ ?_ fu 0 (by omega) (by unfold fu; omega)
  · intro m k hk
    have hk' : ¬ 12 ≤ k := by omega
    show fX7_allYards_4 (m + 1) a _ _ s = _
    rw [qX7_allYards_4]
    simp (disch := omega) only [g_aro h, g_ro h, xGIe (h.rs hk).1 (h.rd hk).2.2.2.1, li_0, li_1, li_2, li_3, li_4, li_5, li_6, li_7, li_8, li_9, li_10, li_11, li_12, li_13, li_14, li_15, li_16, li_17, li_20, li_24, li_25, li_29, li_31, li_32, li_33, li_37, li_40, li_41, li_48, li_49, li_50, li_56, li_57, li_59, li_60, li_61, li_62, li_63, li_70, li_73, li_85, li_97, li_98, li_99, li_100, li_101, li_102, li_103, li_104, li_105, li_107, li_108, li_109, li_110, li_111, li_112, li_114, li_115, li_116, li_117, li_118, li_119, li_121, li_122, li_140, li_193, li_200, li_240, li_255, li_289, li_290, li_300, li_302, li_314, li_326, li_860, li_880, li_900, li_999, li_1024, li_2801, li_3440, li_3441, li_3442, li_3443, li_3444, li_3447, li_3448, li_3449, li_3457, li_3465, li_3469, li_3473, li_3477, li_3501, li_3513, li_3525, li_3537, li_3633, li_3730, li_3742, li_3754, li_3766, li_4095, li_4096, li_4300, li_9011, li_9999, li_10000, li_36864, li_65536, li_1000000, ll_0, ll_1, ll_100, ll_11, ll_16, ll_20, ll_3, ll_32, ll_50, ll_8, ll_96, ll_99, ll_9999, ne_m1, e_if, e_ret, e_rz0, e_rz1, e_rzb, e_call, bCallX_eq, nI_add, nI_mul, nI_succ1, le_i, lt_i, eq_i, m1_i, m1_le, m1_lt, m1_ge, m1_eq, ite_true, ite_false, if_true, if_false, hk', it_s]
  · intro m
    show fX7_allYards_4 (m + 1) a _ _ s = _
    rw [qX7_allYards_4]
    simp (disch := omega) only [li_0, li_1, li_2, li_3, li_4, li_5, li_6, li_7, li_8, li_9, li_10, li_11, li_12, li_13, li_14, li_15, li_16, li_17, li_20, li_24, li_25, li_29, li_31, li_32, li_33, li_37, li_40, li_41, li_48, li_49, li_50, li_56, li_57, li_59, li_60, li_61, li_62, li_63, li_70, li_73, li_85, li_97, li_98, li_99, li_100, li_101, li_102, li_103, li_104, li_105, li_107, li_108, li_109, li_110, li_111, li_112, li_114, li_115, li_116, li_117, li_118, li_119, li_121, li_122, li_140, li_193, li_200, li_240, li_255, li_289, li_290, li_300, li_302, li_314, li_326, li_860, li_880, li_900, li_999, li_1024, li_2801, li_3440, li_3441, li_3442, li_3443, li_3444, li_3447, li_3448, li_3449, li_3457, li_3465, li_3469, li_3473, li_3477, li_3501, li_3513, li_3525, li_3537, li_3633, li_3730, li_3742, li_3754, li_3766, li_4095, li_4096, li_4300, li_9011, li_9999, li_10000, li_36864, li_65536, li_1000000, ll_0, ll_1, ll_100, ll_11, ll_16, ll_20, ll_3, ll_32, ll_50, ll_8, ll_96, ll_99, ll_9999, ne_m1, e_if, e_ret, e_rz0, e_rz1, e_rzb, e_call, bCallX_eq, nI_add, nI_mul, nI_succ1, le_i, lt_i, eq_i, m1_i, m1_le, m1_lt, m1_ge, m1_eq, ite_true, ite_false, if_true, if_false, Nat.le_refl]
    rfl
theorem sub_ii (a b c : Nat) : nI a - nI b - nI c = nI a - nI (b + c) := by
  rw [← nI_add]
  apply Int32.toBitVec_inj.mp
  simp only [Int32.toBitVec_sub, Int32.toBitVec_add]
  generalize (nI a).toBitVec = x
  generalize (nI b).toBitVec = y
  generalize (nI c).toBitVec = z
  rw [BitVec.sub_eq_add_neg, BitVec.sub_eq_add_neg, BitVec.sub_eq_add_neg, BitVec.neg_add, BitVec.sub_eq_add_neg, BitVec.add_assoc]
theorem max_sub {a b : Nat} (ha : a < 1073741824) (hb : b < 1073741824) : jMax (nI 0) (nI a - nI b) = nI (a - b) := by
  show (if nI 0 < nI a - nI b then nI a - nI b else nI 0) = _
  by_cases h : b < a
  · rw [sub_i (by omega), if_pos (nI_lt (by omega) (by omega))]
  · rw [show a - b = 0 by omega]
    by_cases h2 : a = b
    · subst h2
      rw [sub_i (Nat.le_refl _), Nat.sub_self, if_neg (nI_nlt (Nat.le_refl _) (by omega))]
    · have h3 := pk_sneg hb (show a < b by omega)
      rw [if_neg]
      intro h4
      rw [Int32.lt_iff_toInt_lt] at h3 h4
      have : (0 : Int32).toInt = 0 := by decide
      have : (nI 0).toInt = 0 := by decide
      omega
theorem c_depthNow (h : CW s a W) : fX7_depthNow a s = some (nI (wDe W), s) := by
  unfold fX7_depthNow
  obtain ⟨iY, iW, iB, iS, iR, iRb, iD, iP, iPa, iDi, iF, iFd, iRo, iOw, iBo, iLa⟩ := h.wi
  rw [g_wa h]
  have hz : nI (wWa W) = nI (wWa W) - nI (wFs W 0) := by show nI (wWa W) = nI (wWa W) - nI 0; rw [sub_i (by omega)]; rfl
  refine Eq.trans (congrArg (fun z => fX7_depthNow_7 fu a z (nI 0) s) hz) ?_
  refine loop_n (fun m k => fX7_depthNow_7 m a (nI (wWa W) - nI (wFs W k)) (nI k) s) _ (wFl W) ?_ ?_ fu 0 (by omega) (by unfold fu; omega)
  · intro m k hk
    have hk' : ¬ wFl W ≤ k := by omega
    have i1 := iFd k
    show fX7_depthNow_7 (m + 1) a _ _ s = _
    rw [qX7_depthNow_7]
    simp (disch := omega) only [g_yr h, g_wa h, g_bo h, g_si h, g_ra h, g_rb h, g_dr h, g_pe h, g_fl h, g_apa h, g_adi h, g_aro h, g_afr h, g_ato h, g_aby h, g_afc h, g_pa h, g_di h, g_ro h, g_fr h, g_to h, g_by h, e_callV h.k, li_0, li_1, li_2, li_3, li_4, li_5, li_6, li_7, li_8, li_9, li_10, li_11, li_12, li_13, li_14, li_15, li_16, li_17, li_20, li_24, li_25, li_29, li_31, li_32, li_33, li_37, li_40, li_41, li_48, li_49, li_50, li_56, li_57, li_59, li_60, li_61, li_62, li_63, li_70, li_73, li_85, li_97, li_98, li_99, li_100, li_101, li_102, li_103, li_104, li_105, li_107, li_108, li_109, li_110, li_111, li_112, li_114, li_115, li_116, li_117, li_118, li_119, li_121, li_122, li_140, li_193, li_200, li_240, li_255, li_289, li_290, li_300, li_302, li_314, li_326, li_860, li_880, li_900, li_999, li_1024, li_2801, li_3440, li_3441, li_3442, li_3443, li_3444, li_3447, li_3448, li_3449, li_3457, li_3465, li_3469, li_3473, li_3477, li_3501, li_3513, li_3525, li_3537, li_3633, li_3730, li_3742, li_3754, li_3766, li_4095, li_4096, li_4300, li_9011, li_9999, li_10000, li_36864, li_65536, li_1000000, ll_0, ll_1, ll_100, ll_11, ll_16, ll_20, ll_3, ll_32, ll_50, ll_8, ll_96, ll_99, ll_9999, ne_m1, e_if, e_ret, e_rz0, e_rz1, e_rzb, e_call, bCallX_eq, nI_add, nI_mul, nI_succ1, le_i, lt_i, eq_i, m1_i, m1_le, m1_lt, m1_ge, m1_eq, ite_true, ite_false, if_true, if_false, hk', sub_ii]
    unfold wFs
    rw [it_s]
    by_cases h1 : wYr W < (wFd W k).1
    · rw [if_pos h1, if_neg (by omega)]
    · rw [if_neg h1]
      by_cases h2 : (wFd W k).2.1 < wYr W
      · rw [if_pos h2, if_neg (by omega)]
      · rw [if_neg h2, if_pos (by omega)]
  · intro m
    show fX7_depthNow_7 (m + 1) a _ _ s = _
    rw [qX7_depthNow_7]
    have := wFs_le h.wi (wFl W)
    simp (disch := omega) only [g_yr h, g_wa h, g_bo h, g_si h, g_ra h, g_rb h, g_dr h, g_pe h, g_fl h, g_apa h, g_adi h, g_aro h, g_afr h, g_ato h, g_aby h, g_afc h, g_pa h, g_di h, g_ro h, g_fr h, g_to h, g_by h, e_callV h.k, li_0, li_1, li_2, li_3, li_4, li_5, li_6, li_7, li_8, li_9, li_10, li_11, li_12, li_13, li_14, li_15, li_16, li_17, li_20, li_24, li_25, li_29, li_31, li_32, li_33, li_37, li_40, li_41, li_48, li_49, li_50, li_56, li_57, li_59, li_60, li_61, li_62, li_63, li_70, li_73, li_85, li_97, li_98, li_99, li_100, li_101, li_102, li_103, li_104, li_105, li_107, li_108, li_109, li_110, li_111, li_112, li_114, li_115, li_116, li_117, li_118, li_119, li_121, li_122, li_140, li_193, li_200, li_240, li_255, li_289, li_290, li_300, li_302, li_314, li_326, li_860, li_880, li_900, li_999, li_1024, li_2801, li_3440, li_3441, li_3442, li_3443, li_3444, li_3447, li_3448, li_3449, li_3457, li_3465, li_3469, li_3473, li_3477, li_3501, li_3513, li_3525, li_3537, li_3633, li_3730, li_3742, li_3754, li_3766, li_4095, li_4096, li_4300, li_9011, li_9999, li_10000, li_36864, li_65536, li_1000000, ll_0, ll_1, ll_100, ll_11, ll_16, ll_20, ll_3, ll_32, ll_50, ll_8, ll_96, ll_99, ll_9999, ne_m1, e_if, e_ret, e_rz0, e_rz1, e_rzb, e_call, bCallX_eq, nI_add, nI_mul, nI_succ1, le_i, lt_i, eq_i, m1_i, m1_le, m1_lt, m1_ge, m1_eq, ite_true, ite_false, if_true, if_false, Nat.le_refl]
    unfold fX7_depthNow_56
    simp (disch := omega) only [li_0, li_1, li_2, li_3, li_4, li_5, li_6, li_7, li_8, li_9, li_10, li_11, li_12, li_13, li_14, li_15, li_16, li_17, li_20, li_24, li_25, li_29, li_31, li_32, li_33, li_37, li_40, li_41, li_48, li_49, li_50, li_56, li_57, li_59, li_60, li_61, li_62, li_63, li_70, li_73, li_85, li_97, li_98, li_99, li_100, li_101, li_102, li_103, li_104, li_105, li_107, li_108, li_109, li_110, li_111, li_112, li_114, li_115, li_116, li_117, li_118, li_119, li_121, li_122, li_140, li_193, li_200, li_240, li_255, li_289, li_290, li_300, li_302, li_314, li_326, li_860, li_880, li_900, li_999, li_1024, li_2801, li_3440, li_3441, li_3442, li_3443, li_3444, li_3447, li_3448, li_3449, li_3457, li_3465, li_3469, li_3473, li_3477, li_3501, li_3513, li_3525, li_3537, li_3633, li_3730, li_3742, li_3754, li_3766, li_4095, li_4096, li_4300, li_9011, li_9999, li_10000, li_36864, li_65536, li_1000000, ll_0, ll_1, ll_100, ll_11, ll_16, ll_20, ll_3, ll_32, ll_50, ll_8, ll_96, ll_99, ll_9999, ne_m1, e_if, e_ret, e_rz0, e_rz1, e_rzb, e_call, bCallX_eq, nI_add, nI_mul, nI_succ1, le_i, lt_i, eq_i, m1_i, m1_le, m1_lt, m1_ge, m1_eq, ite_true, ite_false, if_true, if_false, max_sub]
    rfl
theorem c_servesFrom (h : CW s a W) {r p d : Nat} (hr : r < 12) (hp : p < 8) (hd : d < 2147483648) : fX7_servesFrom a (nI r) (nI p) (nI d) s = some (nI (wSv W r p d).toNat, s) := by
  unfold fX7_servesFrom wSv
  simp (disch := omega) only [g_aro h, g_ro h, e_callV (h.rs hr).1, t_isThere (h.rs hr) (h.rd hr) (h.ri r), t_holder (h.rs hr) (h.rd hr) (h.ri r), li_0, li_1, li_2, li_3, li_4, li_5, li_6, li_7, li_8, li_9, li_10, li_11, li_12, li_13, li_14, li_15, li_16, li_17, li_20, li_24, li_25, li_29, li_31, li_32, li_33, li_37, li_40, li_41, li_48, li_49, li_50, li_56, li_57, li_59, li_60, li_61, li_62, li_63, li_70, li_73, li_85, li_97, li_98, li_99, li_100, li_101, li_102, li_103, li_104, li_105, li_107, li_108, li_109, li_110, li_111, li_112, li_114, li_115, li_116, li_117, li_118, li_119, li_121, li_122, li_140, li_193, li_200, li_240, li_255, li_289, li_290, li_300, li_302, li_314, li_326, li_860, li_880, li_900, li_999, li_1024, li_2801, li_3440, li_3441, li_3442, li_3443, li_3444, li_3447, li_3448, li_3449, li_3457, li_3465, li_3469, li_3473, li_3477, li_3501, li_3513, li_3525, li_3537, li_3633, li_3730, li_3742, li_3754, li_3766, li_4095, li_4096, li_4300, li_9011, li_9999, li_10000, li_36864, li_65536, li_1000000, ll_0, ll_1, ll_100, ll_11, ll_16, ll_20, ll_3, ll_32, ll_50, ll_8, ll_96, ll_99, ll_9999, ne_m1, e_if, e_ret, e_rz0, e_rz1, e_rzb, e_call, bCallX_eq, nI_add, nI_mul, nI_succ1, le_i, lt_i, eq_i, m1_i, m1_le, m1_lt, m1_ge, m1_eq, ite_true, ite_false, if_true, if_false, bt0, oI_e (ob (rHo_b (h.ri r)))]
  cases h1 : rT (wRo W r)
  · rfl
  · have h2 : 0 < rN (wRo W r) := by simpa [rT] using h1
    have h3 := rE_b (h.ri r)
    simp (disch := omega) only [t_reach (h.rs hr) (h.rd hr) (h.ri r) h2, li_0, li_1, li_2, li_3, li_4, li_5, li_6, li_7, li_8, li_9, li_10, li_11, li_12, li_13, li_14, li_15, li_16, li_17, li_20, li_24, li_25, li_29, li_31, li_32, li_33, li_37, li_40, li_41, li_48, li_49, li_50, li_56, li_57, li_59, li_60, li_61, li_62, li_63, li_70, li_73, li_85, li_97, li_98, li_99, li_100, li_101, li_102, li_103, li_104, li_105, li_107, li_108, li_109, li_110, li_111, li_112, li_114, li_115, li_116, li_117, li_118, li_119, li_121, li_122, li_140, li_193, li_200, li_240, li_255, li_289, li_290, li_300, li_302, li_314, li_326, li_860, li_880, li_900, li_999, li_1024, li_2801, li_3440, li_3441, li_3442, li_3443, li_3444, li_3447, li_3448, li_3449, li_3457, li_3465, li_3469, li_3473, li_3477, li_3501, li_3513, li_3525, li_3537, li_3633, li_3730, li_3742, li_3754, li_3766, li_4095, li_4096, li_4300, li_9011, li_9999, li_10000, li_36864, li_65536, li_1000000, ll_0, ll_1, ll_100, ll_11, ll_16, ll_20, ll_3, ll_32, ll_50, ll_8, ll_96, ll_99, ll_9999, ne_m1, e_if, e_ret, e_rz0, e_rz1, e_rzb, e_call, bCallX_eq, nI_add, nI_mul, nI_succ1, le_i, lt_i, eq_i, m1_i, m1_le, m1_lt, m1_ge, m1_eq, ite_true, ite_false, if_true, if_false, Bool.true_eq_false]
    by_cases h4 : rHo (wRo W r) = some p
    · rw [if_pos h4]
      refine ite_01 ?_
      simp [h4]
    · rw [if_neg h4]; simp [h4]
end CREAD

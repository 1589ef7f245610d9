/-! THE QUEUE: who stands in a tray, and how long each draws -/
theorem ex_s (P : Nat → Bool) (k : Nat) : ex P (k + 1) = (ex P k || P k) := rfl
theorem ex_t {P : Nat → Bool} {n : Nat} (h : ex P n = true) : ∃ r, r < n ∧ P r = true := (ex_iff P n).mp h
theorem ex_f {P : Nat → Bool} {n : Nat} (h : ex P n = false) (r : Nat) (hr : r < n) : P r = false := by
  cases hp : P r with
  | false => rfl
  | true =>
    have := (ex_iff P n).mpr ⟨r, hr, hp⟩
    rw [h] at this
    cases this
theorem wMi_b {W : wW} (h : wOk W) (p : Nat) : wMi W p ≤ 2100 := by
  have h1 := wDe_le h
  have h2 := wMk_le W p
  unfold wMi
  omega
theorem lgn (x : Int64) : (lg_cmp x (0 : Int64) < (0 : Int32)) = (x.toInt < 0) := by
  rw [show (0 : Int32) = nI 0 from rfl, lg_lt0]
  apply propext
  rw [Int64.lt_iff_toInt_lt]
  rfl
theorem lgp (x : Int64) {P : Nat} (hP : P < 2147483648) : ((0 : Int32) ≤ lg_cmp x (nI P).toInt64) = ((P : Int) ≤ x.toInt) := by
  rw [show (0 : Int32) = nI 0 from rfl, lg_ge0, l_i hP]
  apply propext
  rw [Int64.le_iff_toInt_le, lN_toInt hP]
theorem x_inL {v c : Int64} {s : mS} : fX9_isIn v (0 : Int64) c s = some (nI (decide (0 ≤ v.toInt ∧ v.toInt ≤ c.toInt)).toNat, s) := by
  unfold fX9_isIn
  rw [e_if]
  have e0 : (0 : Int64).toInt = 0 := by decide
  by_cases h1 : v.toInt < 0
  · rw [if_pos (by rw [lgn]; exact h1), decide_eq_false (by omega)]
    rfl
  · rw [if_neg (by rw [lgn]; exact h1), e_if]
    by_cases h2 : v.toInt ≤ c.toInt
    · rw [if_neg, decide_eq_true ⟨by omega, h2⟩]
      · rfl
      · show ¬ (nI 0 < lg_cmp v c)
        rw [lg_gt0, Int64.lt_iff_toInt_lt]
        omega
    · rw [if_pos, decide_eq_false (by omega)]
      · rfl
      · show nI 0 < lg_cmp v c
        rw [lg_gt0, Int64.lt_iff_toInt_lt]
        omega
theorem sub1_l {P : Nat} (hP : P ≤ 8) : ((nI P - nI 1).toInt64).toInt = (P : Int) - 1 := by
  by_cases h0 : P = 0
  · subst h0; decide
  · rw [sub_i (by omega), l_i (by omega), lN_toInt (by omega)]
    omega
def pn (x : Int64) : Nat := x.toInt.toNat % 8
def sn (L : Nat → Int64) (k : Nat) : Nat := it (fun i m => m ||| 2 ^ pn (L i)) 0 k
theorem sn_s (L : Nat → Int64) (k : Nat) : sn L (k + 1) = sn L k ||| 2 ^ pn (L k) := rfl
theorem pn_lt (x : Int64) : pn x < 8 := Nat.mod_lt _ (by decide)
theorem p2_8 : ∀ p, p < 8 → 2 ^ p < 2 ^ 8 := by decide
theorem sn_lt (L : Nat → Int64) : ∀ k, sn L k < 2 ^ 8
  | 0 => (by decide : 0 < 2 ^ 8)
  | k + 1 => by
    rw [sn_s]
    exact or_lt (sn_lt L k) (p2_8 _ (pn_lt _))
def bad (P : Nat) (L : Nat → Int64) (k : Nat) : Bool := !(decide (0 ≤ (L k).toInt ∧ (L k).toInt < (P : Int)) && !(sn L k).testBit (pn (L k)))
theorem pn_i {x : Int64} {P : Nat} (h8 : P ≤ 8) (h : 0 ≤ x.toInt ∧ x.toInt < (P : Int)) : x = lN (pn x) ∧ pn x < P := by
  have e : pn x = x.toInt.toNat := Nat.mod_eq_of_lt (by omega)
  constructor
  · apply Int64.toInt_inj.mp
    rw [lN_toInt (by omega)]
    omega
  · omega
theorem l32 : ∀ p, p < 8 → (lN p).toInt32 = nI p := by decide
theorem pn_32 {x : Int64} {P : Nat} (h8 : P ≤ 8) (h : 0 ≤ x.toInt ∧ x.toInt < (P : Int)) : x.toInt32 = nI (pn x) := (congrArg Int64.toInt32 (pn_i h8 h).1).trans (l32 _ (pn_lt x))
section QU
variable {s : mS} {W : wW}
theorem c_row (hS : CS s) (h : CW s 4 W) {c d m : Nat} (h5 : (sH s c).1 = 5) (h0 : sP s c 0 = d) (hd : sH s d = (12, 60)) (hm : m ≤ 60) (L : Nat → Int64) (hL : ∀ j, j < m → sL s d j = L j) : fX8_rowStatus_55 fu 1 (nI m) c (nI 0) (nI 0) s = some (if fs (bad (wPe W) L) m < m then nI 5 else nI 0, s) := by
  have i8 : wPe W ≤ 8 := h.wi.2.2.2.2.2.2.2.1
  refine loop_x (fun n k => fX8_rowStatus_55 n 1 (nI m) c (nI (sn L k)) (nI k) s) (bad (wPe W) L) (fun k => some (if k < m then nI 5 else nI 0, s)) m ?_ ?_ ?_ fu (by unfold fu; omega)
  · intro n k hk hb
    show fX8_rowStatus_55 (n + 1) 1 (nI m) c _ _ s = some (if k < m then nI 5 else nI 0, s)
    rw [qX8_rowStatus_55, e_if, if_neg (by rw [le_i (by omega) (by omega)]; omega), xGR h5 h0, xAL hd (by omega) (by decide), hL k hk, if_pos hk, e_if]
    by_cases g1 : (L k).toInt < 0
    · rw [if_pos (by rw [lgn]; exact g1)]; rfl
    · rw [if_neg (by rw [lgn]; exact g1), k_now hS, g_pe h, e_if]
      by_cases g2 : (wPe W : Int) ≤ (L k).toInt
      · rw [if_pos (by rw [lgp _ (by omega)]; exact g2)]; rfl
      · have g : 0 ≤ (L k).toInt ∧ (L k).toInt < (wPe W : Int) := ⟨by omega, by omega⟩
        have hsn := sn_lt L k
        have hp := pn_lt (L k)
        have hbt : (sn L k).testBit (pn (L k)) = true := by
          unfold bad at hb
          rw [decide_eq_true g] at hb
          simpa using hb
        rw [if_neg (by rw [lgp _ (by omega)]; exact g2), e_if, pn_32 i8 g, if_pos]
        · rfl
        · rw [li_31, li_1, bit_i (by omega) (by omega), hbt]
          rfl
  · intro n k hk hb
    show fX8_rowStatus_55 (n + 1) 1 (nI m) c _ _ s = fX8_rowStatus_55 n 1 (nI m) c _ _ s
    have hg : (0 ≤ (L k).toInt ∧ (L k).toInt < (wPe W : Int)) ∧ (sn L k).testBit (pn (L k)) = false := by
      unfold bad at hb
      simpa using hb
    obtain ⟨g, hbt⟩ := hg
    have hsn := sn_lt L k
    have hp := pn_lt (L k)
    have hp2 := p2_8 _ hp
    rw [qX8_rowStatus_55, e_if, if_neg (by rw [le_i (by omega) (by omega)]; omega), xGR h5 h0, xAL hd (by omega) (by decide), hL k hk, e_if, if_neg (by rw [lgn]; omega), k_now hS, g_pe h, e_if, if_neg (by rw [lgp _ (by omega)]; omega), e_if, pn_32 i8 g, if_neg]
    · rw [nI_succ1, li_31, li_1, one_shl (by omega), or_i (by omega) (by omega), sn_s]
    · rw [li_31, li_1, bit_i (by omega) (by omega), hbt]
      decide
  · intro n
    show fX8_rowStatus_55 (n + 1) 1 (nI m) c _ _ s = some (if m < m then nI 5 else nI 0, s)
    rw [qX8_rowStatus_55, e_if, if_pos (by rw [le_i (by omega) (by omega)]; omega), if_neg (by omega)]
    rfl
theorem x_num (hT : RT s) {a j : Nat} (ha : a < 4) (hj : j < 60) : fX9_numberOf 113 (nI a) (nI j) s = some (sL s 116 (60 * a + j), s) := by
  unfold fX9_numberOf
  rw [xGR hT.k hT.2.2.2.1]
  simp only [li_0, li_1, li_2, li_3, li_4, li_5, li_6, li_7, li_8, li_9, li_10, li_11, li_12, li_13, li_14, li_15, li_16, li_17, li_20, li_24, li_25, li_29, li_31, li_32, li_33, li_37, li_40, li_41, li_48, li_49, li_50, li_56, li_57, li_59, li_60, li_61, li_62, li_63, li_70, li_73, li_85, li_97, li_98, li_99, li_100, li_101, li_102, li_103, li_104, li_105, li_107, li_108, li_109, li_110, li_111, li_112, li_114, li_115, li_116, li_117, li_118, li_119, li_121, li_122, li_140, li_193, li_200, li_240, li_255, li_289, li_290, li_300, li_302, li_314, li_326, li_860, li_880, li_900, li_999, li_1024, li_2801, li_3440, li_3441, li_3442, li_3443, li_3444, li_3447, li_3448, li_3449, li_3457, li_3465, li_3469, li_3473, li_3477, li_3501, li_3513, li_3525, li_3537, li_3633, li_3730, li_3742, li_3754, li_3766, li_4095, li_4096, li_4300, li_9011, li_9999, li_10000, li_36864, li_65536, li_1000000, ll_0, ll_1, ll_100, ll_11, ll_16, ll_20, ll_3, ll_32, ll_50, ll_8, ll_96, ll_99, ll_9999, ne_m1, e_if, e_ret, e_rz0, e_rz1, e_rzb, e_call, bCallX_eq, nI_add, nI_mul, nI_succ1, le_i, lt_i, eq_i, m1_i, m1_le, m1_lt, m1_ge, m1_eq, ite_true, ite_false, if_true, if_false]
  rw [xAL hT.2.2.2.2.2.2.2.2.2.2.2.2.2.2.1 (by omega) (by decide)]
  rfl
theorem x_row (u : RX s W) {a m : Nat} (ha : a < 4) (hm : m ≤ 60) (L : Nat → Int64) (hL : ∀ j, j < m → sL s 116 (60 * a + j) = L j) : fX9_whyNoQueue_52 fu 113 (nI a) (nI m) (nI 0) (nI 0) s = if fs (bad (wPe W) L) m < m then some (nI 5, s) else fX9_whyNoQueue_113 113 (nI a) (nI m) s := by
  have hT := u.1
  have i8 : wPe W ≤ 8 := u.wi.2.2.2.2.2.2.2.1
  refine loop_x (fun n k => fX9_whyNoQueue_52 n 113 (nI a) (nI m) (nI (sn L k)) (nI k) s) (bad (wPe W) L) (fun k => if k < m then some (nI 5, s) else fX9_whyNoQueue_113 113 (nI a) (nI m) s) m ?_ ?_ ?_ fu (by unfold fu; omega)
  · intro n k hk hb
    show fX9_whyNoQueue_52 (n + 1) 113 (nI a) (nI m) _ _ s = if k < m then some (nI 5, s) else _
    rw [qX9_whyNoQueue_52, e_if, if_neg (by rw [le_i (by omega) (by omega)]; omega), e_callV hT.k, x_call (x_num hT ha (by omega)), hL k hk, r_c u, li_7, r_pe u, li_1, x_call x_inL, sub1_l i8, if_pos hk, e_if]
    by_cases g : 0 ≤ (L k).toInt ∧ (L k).toInt < (wPe W : Int)
    · have hsn := sn_lt L k
      have hp := pn_lt (L k)
      have hbt : (sn L k).testBit (pn (L k)) = true := by
        unfold bad at hb
        rw [decide_eq_true g] at hb
        simpa using hb
      rw [decide_eq_true (by omega), if_neg (by decide), e_if, pn_32 i8 g, if_pos]
      · rfl
      · rw [li_31, bit_i (by omega) (by omega), hbt]
        rfl
    · rw [decide_eq_false (by omega), if_pos (by decide)]
      rfl
  · intro n k hk hb
    show fX9_whyNoQueue_52 (n + 1) 113 (nI a) (nI m) _ _ s = fX9_whyNoQueue_52 n 113 (nI a) (nI m) _ _ s
    have hg : (0 ≤ (L k).toInt ∧ (L k).toInt < (wPe W : Int)) ∧ (sn L k).testBit (pn (L k)) = false := by
      unfold bad at hb
      simpa using hb
    obtain ⟨g, hbt⟩ := hg
    have hsn := sn_lt L k
    have hp := pn_lt (L k)
    have hp2 := p2_8 _ hp
    rw [qX9_whyNoQueue_52, e_if, if_neg (by rw [le_i (by omega) (by omega)]; omega), e_callV hT.k, x_call (x_num hT ha (by omega)), hL k hk, r_c u, li_7, r_pe u, li_1, x_call x_inL, sub1_l i8, e_if, decide_eq_true (by omega), if_neg (by decide), e_if, pn_32 i8 g, if_neg]
    · rw [li_31, one_shl (by omega), or_i (by omega) (by omega), sn_s, nI_add]
    · rw [li_31, bit_i (by omega) (by omega), hbt]
      decide
  · intro n
    show fX9_whyNoQueue_52 (n + 1) 113 (nI a) (nI m) _ _ s = if m < m then some (nI 5, s) else _
    rw [qX9_whyNoQueue_52, e_if, if_pos (by rw [le_i (by omega) (by omega)]; omega), if_neg (by omega)]
def dq (W : wW) (L : Nat → Int64) (k : Nat) : Bool := !wDk W (pn (L k))
theorem c_que (hS : CS s) (h : CW s 4 W) {x : Int32} {c d a m : Nat} (hx : x = nI a) (ha : a < 4) (hc : sP s 2 a = c) (h5 : (sH s c).1 = 5) (h0 : sP s c 0 = d) (hd : sH s d = (12, 60)) (hm : m ≤ 8) (L : Nat → Int64) (hL : ∀ j, j < m → sL s d j = L j) (hg : ∀ j, j < m → 0 ≤ (L j).toInt ∧ (L j).toInt < (wPe W : Int)) : ∃ s1, fX8_queueStatus_16 fu 1 x (nI m) (nI 0) (nI 0) s = some (nI (if ex (dq W L) m then 9 else 0), s1) ∧ FI (fun b => b = 97) s s1 ∧ ∀ j, j < m → sI s1 97 j = if wDk W (pn (L j)) then nI (wMi W (pn (L j))) else mI := by
  have i8 : wPe W ≤ 8 := h.wi.2.2.2.2.2.2.2.1
  subst hx
  have key := loop_s (fun n k => fX8_queueStatus_16 n 1 (nI a) (nI m) (nI (if ex (dq W L) k then 9 else 0)) (nI k)) (fun k v => FI (fun b => b = 97) s v ∧ ∀ j, j < k → sI v 97 j = if wDk W (pn (L j)) then nI (wMi W (pn (L j))) else mI) m (fun q => q.1 = nI (if ex (dq W L) m then 9 else 0) ∧ FI (fun b => b = 97) s q.2 ∧ ∀ j, j < m → sI q.2 97 j = if wDk W (pn (L j)) then nI (wMi W (pn (L j))) else mI) ?_ ?_ fu 0 s (by omega) (by unfold fu; omega) ⟨FI.rf, fun j hj => absurd hj (by omega)⟩
  · obtain ⟨⟨y, v⟩, e1, e2, e3, e4⟩ := key
    have e2 : y = _ := e2
    rw [e2] at e1
    exact ⟨v, e1, e3, e4⟩
  · rintro n k v hk ⟨hF, hv⟩
    have hSv := hS.fi hF
    have h4v : CW v 4 W := h.mv (fun _ _ => by rw [hF.H]) (fun b hb => ⟨hF.1 b (by have := hb.1; have := hb.2; show ¬ b = 97; omega), by rw [hF.P]⟩) (fun h0 => by
      have h1 : 124 < sP s 4 16 := by
        rcases h.2.2.2 with hl | hl
        · exact absurd hl.1 h0
        · exact hl.1
      exact ⟨by rw [hF.H], by rw [hF.H], hF.1 _ (by show ¬ _ = 97; omega), hF.1 _ (by show ¬ _ = 97; omega), by rw [hF.P]⟩)
    obtain ⟨ep, lp⟩ := pn_i i8 (hg k hk)
    have hc2 : sP v 2 a = c := by rw [hF.P]; exact hc
    have h52 : (sH v c).1 = 5 := by rw [hF.H]; exact h5
    have h02 : sP v c 0 = d := by rw [hF.P]; exact h0
    have hd2 : sH v d = (12, 60) := by rw [hF.H]; exact hd
    have hL2 : sL v d k = L k := by rw [hF.L]; exact hL k hk
    have hm97 : sH v 97 = (11, 8) := hSv.2.1.2.2.2
    have hS97 : ∀ z, CS (wI v 97 k z) := fun z => hSv.w
    have hH97 : ∀ z, sH (wI v 97 k z) 97 = (11, 8) := fun z => hm97
    refine ⟨wI v 97 k (if wDk W (pn (L k)) then nI (wMi W (pn (L k))) else mI), ⟨hF.tr (FI.w _ _ rfl), fun j hj => ?_⟩, ?_⟩
    · by_cases hjk : j = k
      · rw [hjk, sI_wI_eq]
      · rw [sI_wI_ne (Or.inr hjk)]; exact hv j (by omega)
    · show fX8_queueStatus_16 (n + 1) 1 (nI a) (nI m) _ _ v = _
      rw [qX8_queueStatus_16, e_if, if_neg (by rw [le_i (by omega) (by omega)]; omega), k_min hSv, k_now hSv, k_trays hSv, xAR hSv.2.1.1 ha (by decide) hc2, xGR h52 h02, xAL hd2 (by omega) (by decide), hL2, pn_32 i8 (hg k hk), e_callV h4v.k, x_call (c_minutesOf h4v lp), xSI hm97 (by omega) (by decide)]
      rw [k_min (hS97 _), xAI (hH97 _) (by omega) (by decide), sI_wI_eq, e_if, ex_s]
      have hmi : wMi W (pn (L k)) < 2147483648 := by have := wMi_b h.wi (pn (L k)); omega
      unfold dq
      cases hdk : wDk W (pn (L k)) with
      | true =>
        simp (disch := omega) only [li_0, li_1, li_2, li_3, li_4, li_5, li_6, li_7, li_8, li_9, li_10, li_11, li_12, li_13, li_14, li_15, li_16, li_17, li_20, li_24, li_25, li_29, li_31, li_32, li_33, li_37, li_40, li_41, li_48, li_49, li_50, li_56, li_57, li_59, li_60, li_61, li_62, li_63, li_70, li_73, li_85, li_97, li_98, li_99, li_100, li_101, li_102, li_103, li_104, li_105, li_107, li_108, li_109, li_110, li_111, li_112, li_114, li_115, li_116, li_117, li_118, li_119, li_121, li_122, li_140, li_193, li_200, li_240, li_255, li_289, li_290, li_300, li_302, li_314, li_326, li_860, li_880, li_900, li_999, li_1024, li_2801, li_3440, li_3441, li_3442, li_3443, li_3444, li_3447, li_3448, li_3449, li_3457, li_3465, li_3469, li_3473, li_3477, li_3501, li_3513, li_3525, li_3537, li_3633, li_3730, li_3742, li_3754, li_3766, li_4095, li_4096, li_4300, li_9011, li_9999, li_10000, li_36864, li_65536, li_1000000, ll_0, ll_1, ll_100, ll_11, ll_16, ll_20, ll_3, ll_32, ll_50, ll_8, ll_96, ll_99, ll_9999, ne_m1, e_if, e_ret, e_rz0, e_rz1, e_rzb, e_call, bCallX_eq, nI_add, nI_mul, nI_succ1, le_i, lt_i, eq_i, m1_i, m1_le, m1_lt, m1_ge, m1_eq, ite_true, ite_false, if_true, if_false, Bool.not_true, Bool.or_false, if_true]
      | false =>
        simp (disch := omega) only [li_0, li_1, li_2, li_3, li_4, li_5, li_6, li_7, li_8, li_9, li_10, li_11, li_12, li_13, li_14, li_15, li_16, li_17, li_20, li_24, li_25, li_29, li_31, li_32, li_33, li_37, li_40, li_41, li_48, li_49, li_50, li_56, li_57, li_59, li_60, li_61, li_62, li_63, li_70, li_73, li_85, li_97, li_98, li_99, li_100, li_101, li_102, li_103, li_104, li_105, li_107, li_108, li_109, li_110, li_111, li_112, li_114, li_115, li_116, li_117, li_118, li_119, li_121, li_122, li_140, li_193, li_200, li_240, li_255, li_289, li_290, li_300, li_302, li_314, li_326, li_860, li_880, li_900, li_999, li_1024, li_2801, li_3440, li_3441, li_3442, li_3443, li_3444, li_3447, li_3448, li_3449, li_3457, li_3465, li_3469, li_3473, li_3477, li_3501, li_3513, li_3525, li_3537, li_3633, li_3730, li_3742, li_3754, li_3766, li_4095, li_4096, li_4300, li_9011, li_9999, li_10000, li_36864, li_65536, li_1000000, ll_0, ll_1, ll_100, ll_11, ll_16, ll_20, ll_3, ll_32, ll_50, ll_8, ll_96, ll_99, ll_9999, ne_m1, e_if, e_ret, e_rz0, e_rz1, e_rzb, e_call, bCallX_eq, nI_add, nI_mul, nI_succ1, le_i, lt_i, eq_i, m1_i, m1_le, m1_lt, m1_ge, m1_eq, ite_true, ite_false, if_true, if_false, Bool.not_false, Bool.or_true, Bool.false_eq_true, if_false, if_true]
  · rintro n v ⟨hF, hv⟩
    refine ⟨(nI (if ex (dq W L) m then 9 else 0), v), ?_, rfl, hF, hv⟩
    show fX8_queueStatus_16 (n + 1) 1 (nI a) (nI m) _ _ v = _
    rw [qX8_queueStatus_16, e_if, if_pos (by rw [le_i (by omega) (by omega)]; omega)]
    rfl
theorem x_que (u : RX s W) {a m : Nat} (ha : a < 4) (hm : m ≤ 8) (L : Nat → Int64) (hL : ∀ j, j < m → sL s 116 (60 * a + j) = L j) (hg : ∀ j, j < m → 0 ≤ (L j).toInt ∧ (L j).toInt < (wPe W : Int)) : ∃ t1, fX9_whyNoQueue_113 113 (nI a) (nI m) s = some (nI (if ex (dq W L) m then 9 else 0), t1) ∧ FI (fun b => b = 124) s t1 ∧ (ex (dq W L) m = false → ∀ j, j < m → sI t1 124 j = nI (wMi W (pn (L j)))) := by
  have hT := u.1
  have i8 : wPe W ≤ 8 := u.wi.2.2.2.2.2.2.2.1
  have h1 : fX9_whyNoQueue_113 113 (nI a) (nI m) s = if fs (dq W L) m < m then some (nI 9, s) else fX9_whyNoQueue_146 113 (nI a) (nI m) s := by
    unfold fX9_whyNoQueue_113
    refine loop_x (fun n k => fX9_whyNoQueue_116 n 113 (nI a) (nI m) (nI k) s) (dq W L) (fun k => if k < m then some (nI 9, s) else fX9_whyNoQueue_146 113 (nI a) (nI m) s) m ?_ ?_ ?_ fu (by unfold fu; omega)
    · intro n k hk hb
      have hb : wDk W (pn (L k)) = false := by unfold dq at hb; simpa using hb
      show fX9_whyNoQueue_116 (n + 1) 113 (nI a) (nI m) _ s = if k < m then some (nI 9, s) else _
      rw [qX9_whyNoQueue_116, e_if, if_neg (by rw [le_i (by omega) (by omega)]; omega), e_callV hT.k, x_call (x_num hT ha (by omega)), hL k hk, pn_32 i8 (hg k hk), e_callV hT.k, x_call (x_isDrinking u (pn_i i8 (hg k hk)).2), hb, e_if, if_pos (by decide), if_pos hk]
      rfl
    · intro n k hk hb
      have hb : wDk W (pn (L k)) = true := by unfold dq at hb; simpa using hb
      show fX9_whyNoQueue_116 (n + 1) 113 (nI a) (nI m) _ s = fX9_whyNoQueue_116 n 113 (nI a) (nI m) _ s
      rw [qX9_whyNoQueue_116, e_if, if_neg (by rw [le_i (by omega) (by omega)]; omega), e_callV hT.k, x_call (x_num hT ha (by omega)), hL k hk, pn_32 i8 (hg k hk), e_callV hT.k, x_call (x_isDrinking u (pn_i i8 (hg k hk)).2), hb, e_if, if_neg (by decide), nI_succ1]
    · intro n
      show fX9_whyNoQueue_116 (n + 1) 113 (nI a) (nI m) _ s = if m < m then some (nI 9, s) else _
      rw [qX9_whyNoQueue_116, e_if, if_pos (by rw [le_i (by omega) (by omega)]; omega), if_neg (by omega)]
  cases hE : ex (dq W L) m with
  | true =>
    obtain ⟨k, hk, hb⟩ := ex_t hE
    have : fs (dq W L) m < m := by
      rcases Nat.lt_or_ge (fs (dq W L) m) m with h | h
      · exact h
      · rw [fs_no (dq W L) m k (by omega)] at hb; cases hb
    rw [h1, if_pos this]
    exact ⟨s, rfl, FI.rf, fun h => by cases h⟩
  | false =>
    have : ¬ fs (dq W L) m < m := fun h => by
      have := fs_yes (dq W L) m h
      rw [ex_f hE _ h] at this
      cases this
    rw [h1, if_neg this]
    have key := loop_s (fun n k => fX9_whyNoQueue_149 n 113 (nI a) (nI m) (nI k)) (fun k v => FI (fun b => b = 124) s v ∧ ∀ j, j < k → sI v 124 j = nI (wMi W (pn (L j)))) m (fun q => q.1 = nI 0 ∧ FI (fun b => b = 124) s q.2 ∧ ∀ j, j < m → sI q.2 124 j = nI (wMi W (pn (L j)))) ?_ ?_ fu 0 s (by omega) (by unfold fu; omega) ⟨FI.rf, fun j hj => absurd hj (by omega)⟩
    · obtain ⟨⟨y, v⟩, e1, e2, e3, e4⟩ := key
      have e2 : y = _ := e2
      rw [e2] at e1
      exact ⟨v, e1, e3, fun _ => e4⟩
    · rintro n k v hk ⟨hF, hv⟩
      have uv : RX v W := u.mv hF.H hF.P (hF.1 118 (by decide))
      have hTv := uv.1
      have hL2 : sL v 116 (60 * a + k) = L k := by rw [hF.L]; exact hL k hk
      refine ⟨wI v 124 k (nI (wMi W (pn (L k)))), ⟨hF.tr (FI.w _ _ rfl), fun j hj => ?_⟩, ?_⟩
      · by_cases hjk : j = k
        · rw [hjk, sI_wI_eq]
        · rw [sI_wI_ne (Or.inr hjk)]; exact hv j (by omega)
      · show fX9_whyNoQueue_149 (n + 1) 113 (nI a) (nI m) _ v = _
        rw [qX9_whyNoQueue_149, e_if, if_neg (by rw [le_i (by omega) (by omega)]; omega), xGR hTv.k hTv.2.2.2.2.2.2.2.2.2.2.2.1, e_callV hTv.k, x_call (x_num hTv ha (by omega)), hL2, pn_32 i8 (hg k hk), e_callV hTv.k, x_call (x_minutes uv (pn_lt _)), xSI hTv.2.2.2.2.2.2.2.2.2.2.2.2.2.2.2.2.2.2.2.2.2.2 (by omega) (by decide), nI_succ1]
    · rintro n v ⟨hF, hv⟩
      refine ⟨(nI 0, v), ?_, rfl, hF, hv⟩
      show fX9_whyNoQueue_149 (n + 1) 113 (nI a) (nI m) _ v = _
      rw [qX9_whyNoQueue_149, e_if, if_pos (by rw [le_i (by omega) (by omega)]; omega)]
      rfl
end QU

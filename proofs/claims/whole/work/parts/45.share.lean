/-! SHARED OUT TO EACH HEIR -/
theorem rem_j (a d : Nat) : nI a - nI (a / d * d) = nI (a % d) := by
  rw [sub_i (Nat.div_mul_le_self a d)]
  congr 1
  have := Nat.div_add_mod' a d
  omega
def cnt (P : Nat → Bool) (n : Nat) : Nat := it (fun r n => if P r then n + 1 else n) 0 n
theorem cnt_le (P : Nat → Bool) : ∀ n, cnt P n ≤ n
  | 0 => Nat.le_refl _
  | n + 1 => by
    have := cnt_le P n
    unfold cnt at this ⊢
    rw [it_s]
    split <;> omega
theorem cnt_all {P : Nat → Bool} : ∀ n, (∀ r, r < n → P r = true) → cnt P n = n
  | 0, _ => rfl
  | n + 1, h => by
    have ih := cnt_all n (fun r hr => h r (by omega))
    unfold cnt at ih ⊢
    rw [it_s, if_pos (h n (by omega)), ih]
theorem cnt_same {P Q : Nat → Bool} (n : Nat) (h : ∀ r, r < n → P r = Q r) : cnt P n = cnt Q n := it_congr n (fun k x hk => by rw [h k hk])
theorem cnt_one {P Q : Nat → Bool} {q : Nat} (hp : P q = false) (hq : Q q = true) (h : ∀ r, r ≠ q → P r = Q r) : ∀ n, q < n → cnt Q n = cnt P n + 1
  | 0, h0 => by omega
  | n + 1, h0 => by
    by_cases h1 : q = n
    · subst h1
      have h2 := cnt_same (P := P) (Q := Q) q (fun r hr => h r (by omega))
      unfold cnt at h2 ⊢
      rw [it_s, it_s, hp, hq, h2]
      rfl
    · have ih := cnt_one hp hq h n (by omega)
      have h3 := h n (fun e => h1 e.symm)
      unfold cnt at ih ⊢
      rw [it_s, it_s, h3, ih]
      split <;> rfl
theorem wRn_cnt (W : wW) : wRn W = cnt (fun r => rT (wRo W r)) 12 := rfl
theorem wFr_lt {W : wW} (h : wRn W ≤ 11) : wFr W < 12 := by
  rcases Nat.lt_or_ge (wFr W) 12 with h1 | h1
  · exact h1
  · have h2 := cnt_all (P := fun r => rT (wRo W r)) 12 (fun r hr => by
      have := fs_no (fun r => !rT (wRo W r)) 12 r (by unfold wFr at h1; omega)
      simpa using this)
    rw [wRn_cnt, h2] at h
    omega
/-- bits among the first -/
def pcn (m n : Nat) : Nat := it (fun k n => n + (m.testBit k).toNat) 0 n
theorem pcn_mo (m : Nat) {j : Nat} : ∀ n, j ≤ n → pcn m j ≤ pcn m n
  | 0, h => by rw [show j = 0 by omega]; exact Nat.le_refl _
  | n + 1, h => by
    by_cases h1 : j = n + 1
    · rw [h1]; exact Nat.le_refl _
    · have := pcn_mo m n (show j ≤ n by omega)
      unfold pcn at this ⊢
      rw [it_s]
      omega
theorem pcn_s (m n : Nat) : pcn m (n + 1) = pcn m n + (m.testBit n).toNat := rfl
abbrev shT : Type := wW × Nat × Nat
def shP (hs pt ev lg : Nat) (p : Nat) (z : shT) : shT := if hs.testBit p then (if z.2.2 + 1 < pt then (wSp (wOw z.1 z.2.1 (some p)) z.2.1 (if z.2.2 < lg then ev + 1 else ev) (wFr (wOw z.1 z.2.1 (some p))), wFr (wOw z.1 z.2.1 (some p)), z.2.2 + 1) else (wOw z.1 z.2.1 (some p), z.2.1, z.2.2 + 1)) else z
def shS (W : wW) (r hs : Nat) (p : Nat) : shT := it (shP hs (pc hs) (rL (wRo W r) / pc hs) (rL (wRo W r) % pc hs)) (W, r, 0) p
def wSh (W : wW) (r hs : Nat) : wW := (shS W r hs (wPe W)).1
theorem wFr_ow {W : wW} {r : Nat} {o : Option Nat} : wFr (wOw W r o) = wFr W := by
  have h : ∀ q, rT (wRo (wOw W r o) q) = rT (wRo W q) := by
    intro q
    show rT (up (wRo W) r (roO (wRo W r) o) q) = _
    by_cases hq : q = r
    · rw [hq, up_s]; rfl
    · rw [up_n _ _ hq]
  unfold wFr
  congr 1
  funext q
  rw [h]
theorem wRn_ow {W : wW} {r : Nat} {o : Option Nat} : wRn (wOw W r o) = wRn W := by
  rw [wRn_cnt, wRn_cnt]
  refine cnt_same 12 fun q _ => ?_
  show rT (up (wRo W) r (roO (wRo W r) o) q) = _
  by_cases hq : q = r
  · rw [hq, up_s]; rfl
  · rw [up_n _ _ hq]
theorem rT_of {ρ : rR} (h : 0 < rN ρ) : rT ρ = true := by simpa [rT] using h
theorem wRn_sp {W : wW} (hW : wOk W) {r κ q : Nat} (h0 : 0 < rN (wRo W r)) (h1 : 1 ≤ κ) (h2 : κ < rL (wRo W r)) (hq : q = wFr W) (hq12 : q < 12) : wRn (wSp W r κ q) = wRn W + 1 := by
  have hI := hW.2.2.2.2.2.2.2.2.2.2.2.2.1 r
  have hg := wFr_gone (W := W) (by omega)
  rw [← hq] at hg
  have hqr : q ≠ r := by
    intro e
    rw [e, rT_of h0] at hg
    cases hg
  rw [wRn_cnt, wRn_cnt]
  refine cnt_one hg ?_ (fun p hp => ?_) 12 hq12
  · show rT (up _ q _ q) = true
    rw [up_s]
    exact rT_of (sR_pos h2)
  · show _ = rT (up (up (wRo W) r (rKe (wRo W r) κ)) q (rRe (wRo W r) κ) p)
    rw [up_n _ _ hp]
    by_cases hpr : p = r
    · rw [hpr, up_s, rT_of h0]
      exact (rT_of (sK_pos hI h1 h0)).symm
    · rw [up_n _ _ hpr]
theorem wSp_q (W : wW) (r κ q : Nat) : wRo (wSp W r κ q) q = rRe (wRo W r) κ := up_s (up (wRo W) r (rKe (wRo W r) κ)) q _
theorem wSp_r (W : wW) {r κ q : Nat} (h : r ≠ q) : wRo (wSp W r κ q) r = rKe (wRo W r) κ := (up_n (up (wRo W) r (rKe (wRo W r) κ)) _ h).trans (up_s (wRo W) r _)
theorem wSp_n (W : wW) {r κ q p : Nat} (h : p ≠ q) (h2 : p ≠ r) : wRo (wSp W r κ q) p = wRo W p := (up_n (up (wRo W) r (rKe (wRo W r) κ)) _ h).trans (up_n (wRo W) _ h2)
theorem wOw_r (W : wW) (r : Nat) (o : Option Nat) : wRo (wOw W r o) r = roO (wRo W r) o := up_s (wRo W) r _
theorem wOw_n (W : wW) {r p : Nat} (o : Option Nat) (h : p ≠ r) : wRo (wOw W r o) p = wRo W p := up_n (wRo W) _ h
theorem wPe_sp (W : wW) (r κ q : Nat) : wPe (wSp W r κ q) = wPe W := rfl
theorem wPe_ow (W : wW) (r : Nat) (o : Option Nat) : wPe (wOw W r o) = wPe W := rfl
theorem rL_rRe (ρ : rR) (κ : Nat) : rL (rRe ρ κ) = rL ρ - κ := qT_sR κ (rP ρ) (rN ρ)
/-- how the sharing stands before person p -/
theorem shInv {W : wW} (hW : wOk W) {r hs : Nat} (hr : r < 12) (h0 : 0 < rN (wRo W r)) (hpt : 0 < pc hs) (hlen : pc hs ≤ rL (wRo W r)) (hrn : wRn W + pc hs ≤ 13) : ∀ p, p ≤ wPe W → wOk (shS W r hs p).1 ∧ wPe (shS W r hs p).1 = wPe W ∧ (shS W r hs p).2.1 < 12 ∧ (shS W r hs p).2.2 = pcn hs p ∧ (pcn hs p < pc hs → 0 < rN (wRo (shS W r hs p).1 (shS W r hs p).2.1) ∧ rL (wRo (shS W r hs p).1 (shS W r hs p).2.1) = (pc hs - pcn hs p) * (rL (wRo W r) / pc hs) + (rL (wRo W r) % pc hs - pcn hs p) ∧ wRn (shS W r hs p).1 + (pc hs - pcn hs p) ≤ 13)
  | 0, _ => by
    refine ⟨hW, rfl, hr, rfl, fun _ => ⟨h0, ?_, hrn⟩⟩
    show rL (wRo W r) = (pc hs - 0) * (rL (wRo W r) / pc hs) + (rL (wRo W r) % pc hs - 0)
    rw [Nat.sub_zero, Nat.sub_zero]
    exact (Nat.div_add_mod _ _).symm
  | p + 1, hp => by
    obtain ⟨i1, i2, i3, i4, i5⟩ := shInv hW hr h0 hpt hlen hrn p (by omega)
    have hP8 := hW.2.2.2.2.2.2.2.1
    have hmo := pcn_mo hs (j := p + 1) 12 (by omega)
    have hs1 := pcn_s hs p
    have hev : 1 ≤ rL (wRo W r) / pc hs := (Nat.one_le_div_iff hpt).mpr hlen
    have eS : shS W r hs (p + 1) = shP hs (pc hs) (rL (wRo W r) / pc hs) (rL (wRo W r) % pc hs) p (shS W r hs p) := rfl
    rw [eS]
    generalize shS W r hs p = z at i1 i2 i3 i4 i5 ⊢
    obtain ⟨V, cur, k⟩ := z
    dsimp only at i1 i2 i3 i4 i5
    subst i4
    unfold shP
    dsimp only
    by_cases hb : hs.testBit p = true
    · rw [hb] at hs1
      have hs1 : pcn hs (p + 1) = pcn hs p + 1 := hs1
      have hlt : pcn hs p < pc hs := by
        have : pcn hs 12 = pc hs := rfl
        omega
      obtain ⟨j1, j2, j3⟩ := i5 hlt
      rw [if_pos hb]
      have hok := wOw_ok i1 (r := cur) (o := some p) j1 (fun x e => by cases e; omega)
      have hcur := wOw_r V cur (some p)
      by_cases hk : pcn hs p + 1 < pc hs
      · rw [if_pos hk]
        have hq : wFr (wOw V cur (some p)) < 12 := wFr_lt (by rw [wRn_ow]; omega)
        obtain ⟨d, hd⟩ : ∃ d, pc hs - pcn hs p = d + 2 := ⟨pc hs - pcn hs p - 2, by omega⟩
        have hdm : (d + 2) * (rL (wRo W r) / pc hs) = (d + 1) * (rL (wRo W r) / pc hs) + rL (wRo W r) / pc hs := Nat.succ_mul (d + 1) _
        have hd1 : rL (wRo W r) / pc hs ≤ (d + 1) * (rL (wRo W r) / pc hs) := by
          rw [Nat.succ_mul]; omega
        rw [hd] at j2
        have hκ : ∃ κ, (if pcn hs p < rL (wRo W r) % pc hs then rL (wRo W r) / pc hs + 1 else rL (wRo W r) / pc hs) = κ ∧ 1 ≤ κ ∧ κ < rL (wRo V cur) ∧ rL (wRo V cur) - κ = (d + 1) * (rL (wRo W r) / pc hs) + (rL (wRo W r) % pc hs - (pcn hs p + 1)) := by
          refine ⟨_, rfl, ?_, ?_, ?_⟩ <;> split <;> omega
        obtain ⟨κ, hκ0, hκ1, hκ2, hκ3⟩ := hκ
        rw [hκ0]
        have hκ2 : κ < rL (wRo (wOw V cur (some p)) cur) := by
          rw [hcur]
          exact hκ2
        have h00 : 0 < rN (wRo (wOw V cur (some p)) cur) := by rw [hcur]; exact j1
        dsimp only
        have hnew := wSp_q (wOw V cur (some p)) cur κ (wFr (wOw V cur (some p)))
        refine ⟨wSp_ok hok h00 hκ1 hκ2, ?_, hq, hs1.symm, fun hlt2 => ⟨?_, ?_, ?_⟩⟩
        · rw [wPe_sp, wPe_ow]
          exact i2
        · rw [hnew]
          exact sR_pos hκ2
        · rw [hnew, rL_rRe, hcur, hs1, show pc hs - (pcn hs p + 1) = d + 1 by omega]
          exact hκ3
        · rw [wRn_sp hok h00 hκ1 hκ2 rfl hq, wRn_ow]
          omega
      · rw [if_neg hk]
        dsimp only
        refine ⟨hok, ?_, i3, hs1.symm, fun hlt2 => by omega⟩
        rw [wPe_ow]
        exact i2
    · rw [if_neg hb]
      have hb : hs.testBit p = false := by simpa using hb
      rw [hb] at hs1
      have hs1 : pcn hs (p + 1) = pcn hs p := hs1
      rw [hs1]
      exact ⟨i1, i2, i3, rfl, i5⟩
/-- once all have their part, nothing changes -/
theorem shS_end {W : wW} {r hs p : Nat} (hp8 : wPe W ≤ 8) (hk : pcn hs p = pc hs) : ∀ n, p ≤ n → n ≤ wPe W → shS W r hs n = shS W r hs p
  | 0, h, _ => by rw [show p = 0 by omega]
  | n + 1, h, hn => by
    by_cases h1 : p = n + 1
    · rw [h1]
    · rw [← shS_end hp8 hk n (by omega) (by omega)]
      show shP _ _ _ _ n (shS W r hs n) = _
      have h2 : hs.testBit n = false := by
        cases hb : hs.testBit n with
        | false => rfl
        | true =>
          have h3 := pcn_mo hs (j := p) n (by omega)
          have h4 := pcn_mo hs (j := n + 1) 12 (by omega)
          have h5 := pcn_s hs n
          rw [hb] at h5
          have h5 : pcn hs (n + 1) = pcn hs n + 1 := h5
          have : pcn hs 12 = pc hs := rfl
          omega
      unfold shP
      rw [h2]
      rfl
theorem pcn_lt {m : Nat} {n : Nat} (h : m < 2 ^ n) (hn : n ≤ 12) : pcn m n = pc m := by
  have key : ∀ d, pcn m (n + d) = pcn m n := by
    intro d
    induction d with
    | zero => rfl
    | succ d ih =>
      show pcn m (n + d + 1) = _
      rw [pcn_s, ih, Nat.testBit_lt_two_pow (Nat.lt_of_lt_of_le h (Nat.pow_le_pow_right (n := 2) (by decide) (by omega)))]
      rfl
  have := key (12 - n)
  rw [show n + (12 - n) = 12 by omega] at this
  exact this.symm
section SHC
variable {s : mS} {a : Nat}
theorem c_shareOut {W : wW} {r hs : Nat} (h : CW s a W) (ha : a + 44 ≤ 124) (hr : r < 12) (h0 : 0 < rN (wRo W r)) (hs8 : hs < 2 ^ wPe W) (hpt : 0 < pc hs) (hlen : pc hs ≤ rL (wRo W r)) (hrn : wRn W + pc hs ≤ 13) : ∃ t, fX7_shareOut a (nI r) (nI hs) s = some ((), t) ∧ FI (wA a) s t ∧ CW t a (wSh W r hs) := by
  have hP8 := h.wi.2.2.2.2.2.2.2.1
  have h28 : (2 : Nat) ^ wPe W ≤ 2 ^ 8 := Nat.pow_le_pow_right (by decide) hP8
  have hpc := pc_le hs
  have hbL := rL_b (h.ri r)
  have hev : rL (wRo W r) / pc hs ≤ rL (wRo W r) := Nat.div_le_self _ _
  have hlg : rL (wRo W r) % pc hs < pc hs := Nat.mod_lt _ hpt
  have inv := shInv h.wi hr h0 hpt hlen hrn
  have key : ∀ (m p : Nat) (u : mS), p ≤ wPe W → wPe W < m + p → CW u a (shS W r hs p).1 → ∃ t, fX7_shareOut_45 m a (nI hs) (nI (pc hs)) (nI (rL (wRo W r) / pc hs)) (nI (rL (wRo W r) % pc hs)) (if pcn hs p < pc hs then nI (shS W r hs p).2.1 else mI) (nI (pcn hs p)) (nI p) u = some ((), t) ∧ FI (wA a) u t ∧ CW t a (wSh W r hs) := by
    intro m
    induction m with
    | zero => intro p u h1 h2 _; omega
    | succ m ih =>
      intro p u h1 h2 hu
      obtain ⟨i1, i2, i3, i4, i5⟩ := inv p h1
      have inv1 : p + 1 ≤ wPe W → (shS W r hs (p + 1)).2.1 < 12 := fun h => (inv (p + 1) h).2.2.1
      have eS : shS W r hs (p + 1) = shP hs (pc hs) (rL (wRo W r) / pc hs) (rL (wRo W r) % pc hs) p (shS W r hs p) := rfl
      have eEnd : pcn hs p = pc hs → wSh W r hs = (shS W r hs p).1 := fun e => by
        unfold wSh
        rw [shS_end hP8 e (wPe W) h1 (Nat.le_refl _)]
      have hmo := pcn_mo hs (j := p) 12 (by omega)
      have hpc12 : pcn hs 12 = pc hs := rfl
      have eP : p = wPe W → wSh W r hs = (shS W r hs p).1 := fun e => by rw [e]; rfl
      generalize hz : shS W r hs p = z at i1 i2 i3 i4 i5 hu eS eEnd eP ⊢
      obtain ⟨V, cur, k⟩ := z
      dsimp only at i1 i2 i3 i4 i5 hu eEnd eP ⊢
      subst i4
      have gpe : ∀ {α : Type} {f : Int32 → mM α}, bGI 7 a 7 f u = f (nI (wPe W)) u := fun {α} {f} => by rw [g_pe hu, i2]
      rw [qX7_shareOut_45, gpe, e_if]
      simp only [le_i (show wPe W < 2147483648 by omega) (show p < 2147483648 by omega)]
      by_cases hp : p = wPe W
      · rw [if_pos (by omega), eP hp]
        exact ⟨u, rfl, FI.rf, hu⟩
      · rw [if_neg (by omega), e_if]
        by_cases hk : pcn hs p < pc hs
        · obtain ⟨j1, j2, j3⟩ := i5 hk
          simp (disch := omega) only [hk, if_true, li_0, li_1, li_2, li_3, li_4, li_5, li_6, li_7, li_8, li_9, li_10, li_11, li_12, li_13, li_14, li_15, li_16, li_17, li_20, li_24, li_25, li_29, li_31, li_32, li_33, li_37, li_40, li_41, li_48, li_49, li_50, li_56, li_57, li_59, li_60, li_61, li_62, li_63, li_70, li_73, li_85, li_97, li_98, li_99, li_100, li_101, li_102, li_103, li_104, li_105, li_107, li_108, li_109, li_110, li_111, li_112, li_114, li_115, li_116, li_117, li_118, li_119, li_121, li_122, li_140, li_193, li_200, li_240, li_255, li_289, li_290, li_300, li_302, li_314, li_326, li_860, li_880, li_900, li_999, li_1024, li_2801, li_3440, li_3441, li_3442, li_3443, li_3444, li_3447, li_3448, li_3449, li_3457, li_3465, li_3469, li_3473, li_3477, li_3501, li_3513, li_3525, li_3537, li_3633, li_3730, li_3742, li_3754, li_3766, li_4095, li_4096, li_4300, li_9011, li_9999, li_10000, li_36864, li_65536, li_1000000, ll_0, ll_1, ll_100, ll_11, ll_16, ll_20, ll_3, ll_32, ll_50, ll_8, ll_96, ll_99, ll_9999, ne_m1, e_if, e_ret, e_rz0, e_rz1, e_rzb, e_call, bCallX_eq, nI_add, nI_mul, nI_succ1, le_i, lt_i, eq_i, m1_i, m1_le, m1_lt, m1_ge, m1_eq, ite_true, ite_false, if_true, if_false, bit_i, bt1, ne_m1]
          have hs1 := pcn_s hs p
          have inv1 := inv1 (by omega)
          by_cases hb : hs.testBit p = true
          · rw [hb] at hs1
            have hs1 : pcn hs (p + 1) = pcn hs p + 1 := hs1
            have hu1 : CW (wI u (a + 8 + 3 * cur) 0 (nI p)) a (wOw V cur (some p)) := c_own (o := some p) hu ha i3 j1 (fun x e => by cases e; rw [i2]; omega)
            have hF1 : FI (wA a) u (wI u (a + 8 + 3 * cur) 0 (nI p)) := FI.w _ _ ⟨by omega, by omega⟩
            simp (disch := omega) only [hb, if_true, g_aro hu, g_ro hu, xPI (hu.rs i3).1, li_0, li_1, li_2, li_3, li_4, li_5, li_6, li_7, li_8, li_9, li_10, li_11, li_12, li_13, li_14, li_15, li_16, li_17, li_20, li_24, li_25, li_29, li_31, li_32, li_33, li_37, li_40, li_41, li_48, li_49, li_50, li_56, li_57, li_59, li_60, li_61, li_62, li_63, li_70, li_73, li_85, li_97, li_98, li_99, li_100, li_101, li_102, li_103, li_104, li_105, li_107, li_108, li_109, li_110, li_111, li_112, li_114, li_115, li_116, li_117, li_118, li_119, li_121, li_122, li_140, li_193, li_200, li_240, li_255, li_289, li_290, li_300, li_302, li_314, li_326, li_860, li_880, li_900, li_999, li_1024, li_2801, li_3440, li_3441, li_3442, li_3443, li_3444, li_3447, li_3448, li_3449, li_3457, li_3465, li_3469, li_3473, li_3477, li_3501, li_3513, li_3525, li_3537, li_3633, li_3730, li_3742, li_3754, li_3766, li_4095, li_4096, li_4300, li_9011, li_9999, li_10000, li_36864, li_65536, li_1000000, ll_0, ll_1, ll_100, ll_11, ll_16, ll_20, ll_3, ll_32, ll_50, ll_8, ll_96, ll_99, ll_9999, ne_m1, e_if, e_ret, e_rz0, e_rz1, e_rzb, e_call, bCallX_eq, nI_add, nI_mul, nI_succ1, le_i, lt_i, eq_i, m1_i, m1_le, m1_lt, m1_ge, m1_eq, ite_true, ite_false, if_true, if_false]
            by_cases hk2 : pcn hs p + 1 < pc hs
            · have hκ : ∃ κ, (if pcn hs p < rL (wRo W r) % pc hs then rL (wRo W r) / pc hs + 1 else rL (wRo W r) / pc hs) = κ ∧ 1 ≤ κ ∧ κ < rL (wRo V cur) := by
                obtain ⟨d, hd⟩ : ∃ d, pc hs - pcn hs p = d + 2 := ⟨pc hs - pcn hs p - 2, by omega⟩
                have hev1 : 1 ≤ rL (wRo W r) / pc hs := (Nat.one_le_div_iff hpt).mpr hlen
                have hdm : (d + 2) * (rL (wRo W r) / pc hs) = (d + 1) * (rL (wRo W r) / pc hs) + rL (wRo W r) / pc hs := Nat.succ_mul (d + 1) _
                have hd1 : rL (wRo W r) / pc hs ≤ (d + 1) * (rL (wRo W r) / pc hs) := by
                  rw [Nat.succ_mul]; omega
                rw [hd] at j2
                refine ⟨_, rfl, ?_, ?_⟩ <;> split <;> omega
              obtain ⟨κ, hκ0, hκ1, hκ2⟩ := hκ
              have eS1 : shS W r hs (p + 1) = (wSp (wOw V cur (some p)) cur κ (wFr (wOw V cur (some p))), wFr (wOw V cur (some p)), pcn hs p + 1) := by
                rw [eS]; unfold shP; dsimp only; rw [if_pos hb, if_pos hk2, hκ0]
              rw [eS1] at inv1
              dsimp only at inv1
              have hcur := wOw_r V cur (some p)
              have h00 : 0 < rN (wRo (wOw V cur (some p)) cur) := by rw [hcur]; exact j1
              have hκ2 : κ < rL (wRo (wOw V cur (some p)) cur) := by rw [hcur]; exact hκ2
              have hg := wFr_gone inv1
              have hqr : wFr (wOw V cur (some p)) ≠ cur := by
                intro e
                rw [e, rT_of h00] at hg
                cases hg
              have hfr := c_freeRope hu1
              have hih := ih (p + 1)
              rw [eS1, hs1] at hih
              dsimp only at hih
              generalize wFr (wOw V cur (some p)) = q at inv1 hqr hfr hih
              obtain ⟨t, t1, t2, t3⟩ := c_split hu1 ha i3 inv1 hqr h00 hκ1 hκ2
              obtain ⟨v, v1, v2, v3⟩ := hih t (by omega) (by omega) t3
              refine ⟨v, ?_, (hF1.tr t2).tr v2, v3⟩
              rw [if_neg (show ¬ pc hs ≤ pcn hs p + 1 by omega)]
              simp (disch := omega) only [e_callV hu1.k, hfr, li_0, li_1, li_2, li_3, li_4, li_5, li_6, li_7, li_8, li_9, li_10, li_11, li_12, li_13, li_14, li_15, li_16, li_17, li_20, li_24, li_25, li_29, li_31, li_32, li_33, li_37, li_40, li_41, li_48, li_49, li_50, li_56, li_57, li_59, li_60, li_61, li_62, li_63, li_70, li_73, li_85, li_97, li_98, li_99, li_100, li_101, li_102, li_103, li_104, li_105, li_107, li_108, li_109, li_110, li_111, li_112, li_114, li_115, li_116, li_117, li_118, li_119, li_121, li_122, li_140, li_193, li_200, li_240, li_255, li_289, li_290, li_300, li_302, li_314, li_326, li_860, li_880, li_900, li_999, li_1024, li_2801, li_3440, li_3441, li_3442, li_3443, li_3444, li_3447, li_3448, li_3449, li_3457, li_3465, li_3469, li_3473, li_3477, li_3501, li_3513, li_3525, li_3537, li_3633, li_3730, li_3742, li_3754, li_3766, li_4095, li_4096, li_4300, li_9011, li_9999, li_10000, li_36864, li_65536, li_1000000, ll_0, ll_1, ll_100, ll_11, ll_16, ll_20, ll_3, ll_32, ll_50, ll_8, ll_96, ll_99, ll_9999, ne_m1, e_if, e_ret, e_rz0, e_rz1, e_rzb, e_call, bCallX_eq, nI_add, nI_mul, nI_succ1, le_i, lt_i, eq_i, m1_i, m1_le, m1_lt, m1_ge, m1_eq, ite_true, ite_false, if_true, if_false]
              rw [nO, if_pos inv1]
              unfold fX7_shareOut_99 fX7_shareOut_130 fX7_shareOut_140
              simp (disch := omega) only [li_0, li_1, li_2, li_3, li_4, li_5, li_6, li_7, li_8, li_9, li_10, li_11, li_12, li_13, li_14, li_15, li_16, li_17, li_20, li_24, li_25, li_29, li_31, li_32, li_33, li_37, li_40, li_41, li_48, li_49, li_50, li_56, li_57, li_59, li_60, li_61, li_62, li_63, li_70, li_73, li_85, li_97, li_98, li_99, li_100, li_101, li_102, li_103, li_104, li_105, li_107, li_108, li_109, li_110, li_111, li_112, li_114, li_115, li_116, li_117, li_118, li_119, li_121, li_122, li_140, li_193, li_200, li_240, li_255, li_289, li_290, li_300, li_302, li_314, li_326, li_860, li_880, li_900, li_999, li_1024, li_2801, li_3440, li_3441, li_3442, li_3443, li_3444, li_3447, li_3448, li_3449, li_3457, li_3465, li_3469, li_3473, li_3477, li_3501, li_3513, li_3525, li_3537, li_3633, li_3730, li_3742, li_3754, li_3766, li_4095, li_4096, li_4300, li_9011, li_9999, li_10000, li_36864, li_65536, li_1000000, ll_0, ll_1, ll_100, ll_11, ll_16, ll_20, ll_3, ll_32, ll_50, ll_8, ll_96, ll_99, ll_9999, ne_m1, e_if, e_ret, e_rz0, e_rz1, e_rzb, e_call, bCallX_eq, nI_add, nI_mul, nI_succ1, le_i, lt_i, eq_i, m1_i, m1_le, m1_lt, m1_ge, m1_eq, ite_true, ite_false, if_true, if_false, g_aro hu1, g_ro hu1, e_callV (hu1.rs i3).1]
              rw [if_pos hk2] at v1
              by_cases hkl : pcn hs p < rL (wRo W r) % pc hs
              · rw [if_neg (show ¬ rL (wRo W r) % pc hs < pcn hs p + 1 by omega)]
                rw [if_pos hkl] at hκ0
                rw [← hκ0] at t1
                simp only [t1]
                exact v1
              · rw [if_pos (show rL (wRo W r) % pc hs < pcn hs p + 1 by omega)]
                rw [if_neg hkl] at hκ0
                rw [← hκ0] at t1
                simp only [t1]
                exact v1
            · have eS1 : shS W r hs (p + 1) = (wOw V cur (some p), cur, pcn hs p + 1) := by
                rw [eS]; unfold shP; dsimp only; rw [if_pos hb, if_neg hk2]
              have hih := ih (p + 1)
              rw [eS1, hs1] at hih
              dsimp only at hih
              obtain ⟨v, v1, v2, v3⟩ := hih _ (by omega) (by omega) hu1
              refine ⟨v, ?_, hF1.tr v2, v3⟩
              rw [if_pos (show pc hs ≤ pcn hs p + 1 by omega)]
              unfold fX7_shareOut_99 fX7_shareOut_140
              simp (disch := omega) only [li_0, li_1, li_2, li_3, li_4, li_5, li_6, li_7, li_8, li_9, li_10, li_11, li_12, li_13, li_14, li_15, li_16, li_17, li_20, li_24, li_25, li_29, li_31, li_32, li_33, li_37, li_40, li_41, li_48, li_49, li_50, li_56, li_57, li_59, li_60, li_61, li_62, li_63, li_70, li_73, li_85, li_97, li_98, li_99, li_100, li_101, li_102, li_103, li_104, li_105, li_107, li_108, li_109, li_110, li_111, li_112, li_114, li_115, li_116, li_117, li_118, li_119, li_121, li_122, li_140, li_193, li_200, li_240, li_255, li_289, li_290, li_300, li_302, li_314, li_326, li_860, li_880, li_900, li_999, li_1024, li_2801, li_3440, li_3441, li_3442, li_3443, li_3444, li_3447, li_3448, li_3449, li_3457, li_3465, li_3469, li_3473, li_3477, li_3501, li_3513, li_3525, li_3537, li_3633, li_3730, li_3742, li_3754, li_3766, li_4095, li_4096, li_4300, li_9011, li_9999, li_10000, li_36864, li_65536, li_1000000, ll_0, ll_1, ll_100, ll_11, ll_16, ll_20, ll_3, ll_32, ll_50, ll_8, ll_96, ll_99, ll_9999, ne_m1, e_if, e_ret, e_rz0, e_rz1, e_rzb, e_call, bCallX_eq, nI_add, nI_mul, nI_succ1, le_i, lt_i, eq_i, m1_i, m1_le, m1_lt, m1_ge, m1_eq, ite_true, ite_false, if_true, if_false]
              rw [if_neg hk2] at v1
              exact v1
          · have hb : hs.testBit p = false := by simpa using hb
            rw [hb] at hs1
            have hs1 : pcn hs (p + 1) = pcn hs p := hs1
            have eS1 : shS W r hs (p + 1) = (V, cur, pcn hs p) := by
              rw [eS]; unfold shP; rw [hb]; rfl
            have hih := ih (p + 1)
            rw [eS1, hs1] at hih
            dsimp only at hih
            obtain ⟨v, v1, v2, v3⟩ := hih u (by omega) (by omega) hu
            refine ⟨v, ?_, v2, v3⟩
            simp only [hb, Bool.false_eq_true, if_false]
            rw [if_pos hk] at v1
            exact v1
        · rw [if_neg hk, if_pos (show mI = -1 from rfl), eEnd (by omega)]
          exact ⟨u, rfl, FI.rf, hu⟩
  obtain ⟨t, t1, t2, t3⟩ := key fu 0 s (by omega) (by unfold fu; omega) h
  refine ⟨t, ?_, t2, t3⟩
  rw [if_pos (show pcn hs 0 < pc hs from hpt), show (shS W r hs 0).2.1 = r from rfl, show pcn hs 0 = 0 from rfl] at t1
  unfold fX7_shareOut
  simp (disch := omega) only [j_bitCount, li_0, li_1, li_2, li_3, li_4, li_5, li_6, li_7, li_8, li_9, li_10, li_11, li_12, li_13, li_14, li_15, li_16, li_17, li_20, li_24, li_25, li_29, li_31, li_32, li_33, li_37, li_40, li_41, li_48, li_49, li_50, li_56, li_57, li_59, li_60, li_61, li_62, li_63, li_70, li_73, li_85, li_97, li_98, li_99, li_100, li_101, li_102, li_103, li_104, li_105, li_107, li_108, li_109, li_110, li_111, li_112, li_114, li_115, li_116, li_117, li_118, li_119, li_121, li_122, li_140, li_193, li_200, li_240, li_255, li_289, li_290, li_300, li_302, li_314, li_326, li_860, li_880, li_900, li_999, li_1024, li_2801, li_3440, li_3441, li_3442, li_3443, li_3444, li_3447, li_3448, li_3449, li_3457, li_3465, li_3469, li_3473, li_3477, li_3501, li_3513, li_3525, li_3537, li_3633, li_3730, li_3742, li_3754, li_3766, li_4095, li_4096, li_4300, li_9011, li_9999, li_10000, li_36864, li_65536, li_1000000, ll_0, ll_1, ll_100, ll_11, ll_16, ll_20, ll_3, ll_32, ll_50, ll_8, ll_96, ll_99, ll_9999, ne_m1, e_if, e_ret, e_rz0, e_rz1, e_rzb, e_call, bCallX_eq, nI_add, nI_mul, nI_succ1, le_i, lt_i, eq_i, m1_i, m1_le, m1_lt, m1_ge, m1_eq, ite_true, ite_false, if_true, if_false, show ¬ pc hs = 0 by omega, g_aro h, g_ro h, xGIe (h.rs hr).1 (h.rd hr).2.2.2.1, e_nz, rem_j, div_i]
  exact t1
end SHC

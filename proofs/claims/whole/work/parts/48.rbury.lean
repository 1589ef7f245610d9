/-! WHO DIES LEAVES ROPES: the reference -/
theorem wBw_r (W : wW) (r : Nat) (b : Option Nat) : wRo (wBw W r b) r = roB (wRo W r) b := up_s (wRo W) r _
theorem wOw_self {W : wW} {r : Nat} {o : Option Nat} (h : rO (wRo W r) = o) : wOw W r o = W := by
  subst h
  have e : up (wRo W) r (roO (wRo W r) (rO (wRo W r))) = wRo W := by
    funext q
    by_cases hq : q = r
    · rw [hq, up_s]; rfl
    · rw [up_n _ _ hq]
  unfold wOw
  rw [e]
  rfl
theorem wOw_two (W : wW) (r : Nat) (o o2 : Option Nat) : wOw (wOw W r o) r o2 = wOw W r o2 := by
  unfold wOw
  show wSetRo W _ = wSetRo W _
  congr 1
  funext q
  by_cases hq : q = r
  · rw [hq, up_s, up_s]
    show roO (up (wRo W) r _ r) o2 = _
    rw [up_s]
    rfl
  · rw [up_n _ _ hq, up_n _ _ hq]
    show up (wRo W) r _ q = _
    rw [up_n _ _ hq]
theorem wSp_two (V : wW) {c q : Nat} (hq : q ≠ c) (κ : Nat) (o o2 : Option Nat) : wOw (wSp (wOw V c o) c κ q) c o2 = wOw (wSp (wOw V c o2) c κ q) q o := by
  have e1 : wRo (wOw (wSp (wOw V c o) c κ q) c o2) = wRo (wOw (wSp (wOw V c o2) c κ q) q o) := by
    funext p
    by_cases h1 : p = c
    · subst h1
      rw [wOw_r, wSp_r _ (fun e => hq e.symm), wOw_r, wOw_n _ _ (fun e => hq e.symm), wSp_r _ (fun e => hq e.symm), wOw_r]
      rfl
    · by_cases h2 : p = q
      · subst h2
        rw [wOw_n _ _ h1, wSp_q, wOw_r, wOw_r, wSp_q, wOw_r]
        rfl
      · rw [wOw_n _ _ h1, wSp_n _ h2 h1, wOw_n _ _ h1, wOw_n _ _ h2, wSp_n _ h2 h1, wOw_n _ _ h1]
  show wSetRo V (wRo (wOw (wSp (wOw V c o) c κ q) c o2)) = wSetRo V (wRo (wOw (wSp (wOw V c o2) c κ q) q o))
  rw [e1]
section RB
variable {s : mS} {r : Nat} {W : wW}
theorem x_own (h : RX s W) (hr : r < 12) {o : Option Nat} (h0 : 0 < rN (wRo W r)) (ho : ∀ p, o = some p → p < wPe W) : RX (wI s 118 (37 + r) (oI o)) (wOw W r o) := by
  refine h.ropes rfl (fun i hi => sI_wI_ne (Or.inr (by omega))) (fun q hq => ?_) (wOw_ok h.wi h0 ho)
  by_cases hqr : q = r
  · subst hqr
    rw [up_s]
    obtain ⟨a1, a2⟩ := h.ro hq
    obtain ⟨b1, b2, b3, b4, b5⟩ := a2 h0
    have i1 := (h.ri q).1
    refine ⟨by rw [sI_wI_ne (Or.inr (by omega))]; exact a1, fun _ => ⟨by rw [sI_wI_eq]; rfl, by rw [sI_wI_ne (Or.inr (by omega))]; exact b2, by rw [sI_wI_ne (Or.inr (by omega))]; exact b3, by rw [sI_wI_ne (Or.inr (by omega))]; exact b4, fun k hk => ?_⟩⟩
    rw [sI_wI_ne (Or.inr (by omega)), sI_wI_ne (Or.inr (by omega))]
    exact b5 k hk
  · rw [up_n _ _ hqr]
    exact (h.ro hq).mv (h.ri q).1 fun i hi => sI_wI_ne (Or.inr (by omega))
theorem x_bor0 (h : RX s W) (hr : r < 12) : RX (wI s 118 (49 + r) mI) (wBw W r none) := by
  refine h.ropes rfl (fun i hi => sI_wI_ne (Or.inr (by omega))) (fun q hq => ?_) (wBw_ok h.wi r)
  by_cases hqr : q = r
  · subst hqr
    rw [up_s]
    obtain ⟨a1, a2⟩ := h.ro hq
    have i1 := (h.ri q).1
    refine ⟨by rw [sI_wI_ne (Or.inr (by omega))]; exact a1, fun h0 => ?_⟩
    obtain ⟨b1, b2, b3, b4, b5⟩ := a2 h0
    refine ⟨by rw [sI_wI_ne (Or.inr (by omega))]; exact b1, by rw [sI_wI_eq]; rfl, by rw [sI_wI_ne (Or.inr (by omega))]; exact b3, by rw [sI_wI_ne (Or.inr (by omega))]; exact b4, fun k hk => ?_⟩
    have hk : k < rN (wRo W q) := hk
    rw [sI_wI_ne (Or.inr (by omega)), sI_wI_ne (Or.inr (by omega))]
    exact b5 k hk
  · rw [up_n _ _ hqr]
    exact (h.ro hq).mv (h.ri q).1 fun i hi => sI_wI_ne (Or.inr (by omega))
abbrev at2 : Nat → Prop := fun b => b = 118 ∨ b = 121
theorem FI.a8 {s t : mS} (h : FI at118 s t) : FI at2 s t := h.mo fun _ hb => Or.inl hb
/-- the block was written below its marks -/
def FM (s t : mS) : Prop := FI at2 s t ∧ ∀ i, 860 ≤ i → sI t 118 i = sI s 118 i
theorem FM.rf {s : mS} : FM s s := ⟨FI.rf, fun _ _ => rfl⟩
theorem FM.tr {s t u : mS} (h1 : FM s t) (h2 : FM t u) : FM s u := ⟨h1.1.tr h2.1, fun i hi => (h2.2 i hi).trans (h1.2 i hi)⟩
theorem FM.w {s : mS} {j : Nat} {x : Int32} (hj : j < 860) : FM s (wI s 118 j x) := ⟨FI.w (A := at2) _ _ (Or.inl rfl), fun i hi => sI_wI_ne (Or.inr (by omega))⟩
theorem FI.a1 {s t : mS} (h : FI at121 s t) : FM s t := ⟨h.mo fun _ hb => Or.inr hb, fun i _ => by rw [h.1 118 (by decide)]⟩
theorem x_split (h : RX s W) {q κ : Nat} (hr : r < 12) (h0 : 0 < rN (wRo W r)) (hq : q = wFr W) (hq12 : q < 12) (h1 : 1 ≤ κ) (h2 : κ < rL (wRo W r)) : ∃ t, fX9_partFrom 113 (nI r) (nI κ) s = some (nI q, t) ∧ FM s t ∧ RX t (wSp W r κ q) := by
  have hb := rL_b (h.ri r)
  obtain ⟨t, e1, e2, e3, e4⟩ := x_partFrom h hr h0 hq hq12 (κ := κ) (by omega)
  exact ⟨t, e1, ⟨e2.a8, fun i hi => e3 i (Or.inr (by omega))⟩, h.ropes e2.2 e3 e4 (wSp_ok h.wi h0 h1 h2)⟩
theorem x_share2 {hs : Nat} {O : Option Nat} (h : RX s W) (hr : r < 12) (h0 : 0 < rN (wRo W r)) (hO : rO (wRo W r) = O) (hs8 : hs < 2 ^ wPe W) (hpt : 0 < pc hs) (hlen : pc hs ≤ rL (wRo W r)) (hrn : wRn W + pc hs ≤ 13) : ∃ t, fX9_share2 113 (nI r) (nI hs) s = some ((), t) ∧ FM s t ∧ RX t (wSh W r hs) := by
  have hP8 := h.wi.2.2.2.2.2.2.2.1
  have h28 : (2 : Nat) ^ wPe W ≤ 2 ^ 8 := Nat.pow_le_pow_right (by decide) hP8
  have hpc := pc_le hs
  have hbL := rL_b (h.ri r)
  have hev : rL (wRo W r) / pc hs ≤ rL (wRo W r) := Nat.div_le_self _ _
  have hlg : rL (wRo W r) % pc hs < pc hs := Nat.mod_lt _ hpt
  have hOp : ∀ p, O = some p → p < wPe W := fun p e => h.wi.2.2.2.2.2.2.2.2.2.2.2.2.2.1 r p (by rw [hO]; exact e)
  have inv := shInv h.wi hr h0 hpt hlen hrn
  have hpcn : pcn hs (wPe W) = pc hs := pcn_lt hs8 (by omega)
  have key : ∀ (m p : Nat) (u : mS), p ≤ wPe W → wPe W < m + p → RX u (if pcn hs p < pc hs then wOw (shS W r hs p).1 (shS W r hs p).2.1 O else (shS W r hs p).1) → ∃ t, fX9_share2_33 m 113 (nI hs) (nI (pc hs)) (nI (rL (wRo W r) / pc hs)) (nI (rL (wRo W r) % pc hs)) (nI (shS W r hs p).2.1) (nI (pc hs - pcn hs p)) (nI p) u = some ((), t) ∧ FM u t ∧ RX t (wSh W r hs) := by
    intro m
    induction m with
    | zero => intro p u h1 h2 _; omega
    | succ m ih =>
      intro p u h1 h2 hu
      obtain ⟨i1, i2, i3, i4, i5⟩ := inv p h1
      have inv1 : p + 1 ≤ wPe W → (shS W r hs (p + 1)).2.1 < 12 := fun h => (inv (p + 1) h).2.2.1
      have eS : shS W r hs (p + 1) = shP hs (pc hs) (rL (wRo W r) / pc hs) (rL (wRo W r) % pc hs) p (shS W r hs p) := rfl
      have hmo := pcn_mo hs (j := p) 12 (by omega)
      have hmo1 := pcn_mo hs (j := p + 1) 12 (by omega)
      have hpc12 : pcn hs 12 = pc hs := rfl
      have eP : p = wPe W → wSh W r hs = (shS W r hs p).1 := fun e => by rw [e]; rfl
      generalize hz : shS W r hs p = z at i1 i2 i3 i4 i5 hu eS eP ⊢
      obtain ⟨V, cur, k⟩ := z
      dsimp only at i1 i2 i3 i4 i5 hu eP ⊢
      subst i4
      have hpeu : wPe (if pcn hs p < pc hs then wOw V cur O else V) = wPe W := by
        split
        · rw [wPe_ow]; exact i2
        · exact i2
      have gpe : ∀ {α : Type} {f : Int32 → mM α}, bAI 11 118 (nI 7) f u = f (nI (wPe W)) u := fun {α} {f} => by rw [r_pe hu, hpeu]
      rw [qX9_share2_33, r_c hu, show (7 : Int32) = nI 7 from rfl, gpe, e_if]
      simp only [le_i (show wPe W < 2147483648 by omega) (show p < 2147483648 by omega)]
      by_cases hp : p = wPe W
      · rw [if_pos (by omega), eP hp]
        refine ⟨u, rfl, FM.rf, ?_⟩
        rw [if_neg (by rw [hp, hpcn]; omega)] at hu
        exact hu
      · rw [if_neg (by omega)]
        have hs1 := pcn_s hs p
        have inv1 := inv1 (by omega)
        by_cases hb : hs.testBit p = true
        · rw [hb] at hs1
          have hs1 : pcn hs (p + 1) = pcn hs p + 1 := hs1
          have hk : pcn hs p < pc hs := by omega
          obtain ⟨j1, j2, j3⟩ := i5 hk
          rw [if_pos hk] at hu
          have hcurO := wOw_r V cur O
          have h00 : 0 < rN (wRo (wOw V cur O) cur) := by rw [hcurO]; exact j1
          simp (disch := omega) only [li_0, li_1, li_2, li_3, li_4, li_5, li_6, li_7, li_8, li_9, li_10, li_11, li_12, li_13, li_14, li_15, li_16, li_17, li_20, li_24, li_25, li_29, li_31, li_32, li_33, li_37, li_40, li_41, li_48, li_49, li_50, li_56, li_57, li_59, li_60, li_61, li_62, li_63, li_70, li_73, li_85, li_97, li_98, li_99, li_100, li_101, li_102, li_103, li_104, li_105, li_107, li_108, li_109, li_110, li_111, li_112, li_114, li_115, li_116, li_117, li_118, li_119, li_121, li_122, li_140, li_193, li_200, li_240, li_255, li_289, li_290, li_300, li_302, li_314, li_326, li_860, li_880, li_900, li_999, li_1024, li_2801, li_3440, li_3441, li_3442, li_3443, li_3444, li_3447, li_3448, li_3449, li_3457, li_3465, li_3469, li_3473, li_3477, li_3501, li_3513, li_3525, li_3537, li_3633, li_3730, li_3742, li_3754, li_3766, li_4095, li_4096, li_4300, li_9011, li_9999, li_10000, li_36864, li_65536, li_1000000, ll_0, ll_1, ll_100, ll_11, ll_16, ll_20, ll_3, ll_32, ll_50, ll_8, ll_96, ll_99, ll_9999, ne_m1, e_if, e_ret, e_rz0, e_rz1, e_rzb, e_call, bCallX_eq, nI_add, nI_mul, nI_succ1, le_i, lt_i, eq_i, m1_i, m1_le, m1_lt, m1_ge, m1_eq, ite_true, ite_false, if_true, if_false, bit_i, bt0, hb, Bool.true_eq_false, add_m1, sub_i]
          unfold fX9_share2_78 fX9_share2_98
          rw [show pc hs - 1 - (pc hs - pcn hs p - 1) = pcn hs p by omega]
          have hκ : ∃ κ, (if pcn hs p < rL (wRo W r) % pc hs then rL (wRo W r) / pc hs + 1 else rL (wRo W r) / pc hs) = κ ∧ (pcn hs p + 1 < pc hs → 1 ≤ κ ∧ κ < rL (wRo V cur)) := by
            refine ⟨_, rfl, fun hk2 => ?_⟩
            obtain ⟨d, hd⟩ : ∃ d, pc hs - pcn hs p = d + 2 := ⟨pc hs - pcn hs p - 2, by omega⟩
            have hev1 : 1 ≤ rL (wRo W r) / pc hs := (Nat.one_le_div_iff hpt).mpr hlen
            have hdm : (d + 2) * (rL (wRo W r) / pc hs) = (d + 1) * (rL (wRo W r) / pc hs) + rL (wRo W r) / pc hs := Nat.succ_mul (d + 1) _
            have hd1 : rL (wRo W r) / pc hs ≤ (d + 1) * (rL (wRo W r) / pc hs) := by
              rw [Nat.succ_mul]; omega
            rw [hd] at j2
            constructor <;> split <;> omega
          obtain ⟨κ, hκ0, hκ12⟩ := hκ
          by_cases hk2 : pcn hs p + 1 < pc hs
          · obtain ⟨hκ1, hκ2⟩ := hκ12 hk2
            have eS1 : shS W r hs (p + 1) = (wSp (wOw V cur (some p)) cur κ (wFr (wOw V cur (some p))), wFr (wOw V cur (some p)), pcn hs p + 1) := by
              rw [eS]; unfold shP; dsimp only; rw [if_pos hb, if_pos hk2, hκ0]
            rw [eS1] at inv1
            dsimp only at inv1
            have hκ2' : κ < rL (wRo (wOw V cur O) cur) := by rw [hcurO]; exact hκ2
            have hfr : wFr (wOw V cur (some p)) = wFr (wOw V cur O) := by rw [wFr_ow, wFr_ow]
            have hg := wFr_gone inv1
            have hqr : wFr (wOw V cur (some p)) ≠ cur := by
              intro e
              rw [e, wOw_r] at hg
              have : rT (wRo V cur) = false := hg
              rw [rT_of j1] at this
              cases this
            have hih := ih (p + 1)
            rw [eS1, hs1] at hih
            dsimp only at hih
            generalize wFr (wOw V cur (some p)) = q at inv1 hqr hfr hih
            obtain ⟨t, t1, t2, t3⟩ := x_split hu i3 h00 hfr inv1 hκ1 hκ2'
            have h0c : 0 < rN (wRo (wSp (wOw V cur O) cur κ q) cur) := by
              rw [wSp_r _ (fun e => hqr e.symm)]
              exact sK_pos (hu.ri cur) hκ1 h00
            have t4 := x_own (o := some p) t3 i3 h0c (fun x e => by cases e; show p < wPe (wSp (wOw V cur O) cur κ q); rw [wPe_sp, wPe_ow]; omega)
            rw [wSp_two V hqr] at t4
            obtain ⟨v, v1, v2, v3⟩ := hih (wI t 118 (37 + cur) (nI p)) (by omega) (by omega) (by rw [if_pos hk2]; exact t4)
            refine ⟨v, ?_, (t2.tr (FM.w (by omega))).tr v2, v3⟩
            rw [show pc hs - (pcn hs p + 1) = pc hs - pcn hs p - 1 by omega] at v1
            by_cases hkl : pcn hs p < rL (wRo W r) % pc hs
            · rw [if_pos hkl] at hκ0
              rw [← hκ0] at t1
              rw [if_neg (show ¬ rL (wRo W r) % pc hs ≤ pcn hs p by omega)]
              simp (disch := omega) only [li_0, li_1, li_2, li_3, li_4, li_5, li_6, li_7, li_8, li_9, li_10, li_11, li_12, li_13, li_14, li_15, li_16, li_17, li_20, li_24, li_25, li_29, li_31, li_32, li_33, li_37, li_40, li_41, li_48, li_49, li_50, li_56, li_57, li_59, li_60, li_61, li_62, li_63, li_70, li_73, li_85, li_97, li_98, li_99, li_100, li_101, li_102, li_103, li_104, li_105, li_107, li_108, li_109, li_110, li_111, li_112, li_114, li_115, li_116, li_117, li_118, li_119, li_121, li_122, li_140, li_193, li_200, li_240, li_255, li_289, li_290, li_300, li_302, li_314, li_326, li_860, li_880, li_900, li_999, li_1024, li_2801, li_3440, li_3441, li_3442, li_3443, li_3444, li_3447, li_3448, li_3449, li_3457, li_3465, li_3469, li_3473, li_3477, li_3501, li_3513, li_3525, li_3537, li_3633, li_3730, li_3742, li_3754, li_3766, li_4095, li_4096, li_4300, li_9011, li_9999, li_10000, li_36864, li_65536, li_1000000, ll_0, ll_1, ll_100, ll_11, ll_16, ll_20, ll_3, ll_32, ll_50, ll_8, ll_96, ll_99, ll_9999, ne_m1, e_if, e_ret, e_rz0, e_rz1, e_rzb, e_call, bCallX_eq, nI_add, nI_mul, nI_succ1, le_i, lt_i, eq_i, m1_i, m1_le, m1_lt, m1_ge, m1_eq, ite_true, ite_false, if_true, if_false, show ¬ pc hs - pcn hs p - 1 ≤ 0 by omega, e_callV hu.k, t1, r_c t3]
              rw [rt_w t3.1 (by omega)]
              simp (disch := omega) only [li_0, li_1, li_2, li_3, li_4, li_5, li_6, li_7, li_8, li_9, li_10, li_11, li_12, li_13, li_14, li_15, li_16, li_17, li_20, li_24, li_25, li_29, li_31, li_32, li_33, li_37, li_40, li_41, li_48, li_49, li_50, li_56, li_57, li_59, li_60, li_61, li_62, li_63, li_70, li_73, li_85, li_97, li_98, li_99, li_100, li_101, li_102, li_103, li_104, li_105, li_107, li_108, li_109, li_110, li_111, li_112, li_114, li_115, li_116, li_117, li_118, li_119, li_121, li_122, li_140, li_193, li_200, li_240, li_255, li_289, li_290, li_300, li_302, li_314, li_326, li_860, li_880, li_900, li_999, li_1024, li_2801, li_3440, li_3441, li_3442, li_3443, li_3444, li_3447, li_3448, li_3449, li_3457, li_3465, li_3469, li_3473, li_3477, li_3501, li_3513, li_3525, li_3537, li_3633, li_3730, li_3742, li_3754, li_3766, li_4095, li_4096, li_4300, li_9011, li_9999, li_10000, li_36864, li_65536, li_1000000, ll_0, ll_1, ll_100, ll_11, ll_16, ll_20, ll_3, ll_32, ll_50, ll_8, ll_96, ll_99, ll_9999, ne_m1, e_if, e_ret, e_rz0, e_rz1, e_rzb, e_call, bCallX_eq, nI_add, nI_mul, nI_succ1, le_i, lt_i, eq_i, m1_i, m1_le, m1_lt, m1_ge, m1_eq, ite_true, ite_false, if_true, if_false, Nat.not_lt_zero]
              exact v1
            · rw [if_neg hkl] at hκ0
              rw [← hκ0] at t1
              rw [if_pos (show rL (wRo W r) % pc hs ≤ pcn hs p by omega)]
              simp (disch := omega) only [li_0, li_1, li_2, li_3, li_4, li_5, li_6, li_7, li_8, li_9, li_10, li_11, li_12, li_13, li_14, li_15, li_16, li_17, li_20, li_24, li_25, li_29, li_31, li_32, li_33, li_37, li_40, li_41, li_48, li_49, li_50, li_56, li_57, li_59, li_60, li_61, li_62, li_63, li_70, li_73, li_85, li_97, li_98, li_99, li_100, li_101, li_102, li_103, li_104, li_105, li_107, li_108, li_109, li_110, li_111, li_112, li_114, li_115, li_116, li_117, li_118, li_119, li_121, li_122, li_140, li_193, li_200, li_240, li_255, li_289, li_290, li_300, li_302, li_314, li_326, li_860, li_880, li_900, li_999, li_1024, li_2801, li_3440, li_3441, li_3442, li_3443, li_3444, li_3447, li_3448, li_3449, li_3457, li_3465, li_3469, li_3473, li_3477, li_3501, li_3513, li_3525, li_3537, li_3633, li_3730, li_3742, li_3754, li_3766, li_4095, li_4096, li_4300, li_9011, li_9999, li_10000, li_36864, li_65536, li_1000000, ll_0, ll_1, ll_100, ll_11, ll_16, ll_20, ll_3, ll_32, ll_50, ll_8, ll_96, ll_99, ll_9999, ne_m1, e_if, e_ret, e_rz0, e_rz1, e_rzb, e_call, bCallX_eq, nI_add, nI_mul, nI_succ1, le_i, lt_i, eq_i, m1_i, m1_le, m1_lt, m1_ge, m1_eq, ite_true, ite_false, if_true, if_false, show ¬ pc hs - pcn hs p - 1 ≤ 0 by omega, e_callV hu.k, Nat.add_zero, t1, r_c t3]
              rw [rt_w t3.1 (by omega)]
              simp (disch := omega) only [li_0, li_1, li_2, li_3, li_4, li_5, li_6, li_7, li_8, li_9, li_10, li_11, li_12, li_13, li_14, li_15, li_16, li_17, li_20, li_24, li_25, li_29, li_31, li_32, li_33, li_37, li_40, li_41, li_48, li_49, li_50, li_56, li_57, li_59, li_60, li_61, li_62, li_63, li_70, li_73, li_85, li_97, li_98, li_99, li_100, li_101, li_102, li_103, li_104, li_105, li_107, li_108, li_109, li_110, li_111, li_112, li_114, li_115, li_116, li_117, li_118, li_119, li_121, li_122, li_140, li_193, li_200, li_240, li_255, li_289, li_290, li_300, li_302, li_314, li_326, li_860, li_880, li_900, li_999, li_1024, li_2801, li_3440, li_3441, li_3442, li_3443, li_3444, li_3447, li_3448, li_3449, li_3457, li_3465, li_3469, li_3473, li_3477, li_3501, li_3513, li_3525, li_3537, li_3633, li_3730, li_3742, li_3754, li_3766, li_4095, li_4096, li_4300, li_9011, li_9999, li_10000, li_36864, li_65536, li_1000000, ll_0, ll_1, ll_100, ll_11, ll_16, ll_20, ll_3, ll_32, ll_50, ll_8, ll_96, ll_99, ll_9999, ne_m1, e_if, e_ret, e_rz0, e_rz1, e_rzb, e_call, bCallX_eq, nI_add, nI_mul, nI_succ1, le_i, lt_i, eq_i, m1_i, m1_le, m1_lt, m1_ge, m1_eq, ite_true, ite_false, if_true, if_false, Nat.not_lt_zero]
              exact v1
          · have eS1 : shS W r hs (p + 1) = (wOw V cur (some p), cur, pcn hs p + 1) := by
              rw [eS]; unfold shP; dsimp only; rw [if_pos hb, if_neg hk2]
            have hih := ih (p + 1)
            rw [eS1, hs1] at hih
            dsimp only at hih
            have t4 := x_own (o := some p) hu i3 h00 (fun x e => by cases e; rw [wPe_ow]; omega)
            rw [wOw_two] at t4
            obtain ⟨v, v1, v2, v3⟩ := hih (wI u 118 (37 + cur) (nI p)) (by omega) (by omega) (by rw [if_neg hk2]; exact t4)
            refine ⟨v, ?_, (FM.w (by omega)).tr v2, v3⟩
            rw [show pc hs - (pcn hs p + 1) = pc hs - pcn hs p - 1 by omega] at v1
            have e0 : pc hs - pcn hs p - 1 ≤ 0 := by omega
            simp (disch := omega) only [li_0, li_1, li_2, li_3, li_4, li_5, li_6, li_7, li_8, li_9, li_10, li_11, li_12, li_13, li_14, li_15, li_16, li_17, li_20, li_24, li_25, li_29, li_31, li_32, li_33, li_37, li_40, li_41, li_48, li_49, li_50, li_56, li_57, li_59, li_60, li_61, li_62, li_63, li_70, li_73, li_85, li_97, li_98, li_99, li_100, li_101, li_102, li_103, li_104, li_105, li_107, li_108, li_109, li_110, li_111, li_112, li_114, li_115, li_116, li_117, li_118, li_119, li_121, li_122, li_140, li_193, li_200, li_240, li_255, li_289, li_290, li_300, li_302, li_314, li_326, li_860, li_880, li_900, li_999, li_1024, li_2801, li_3440, li_3441, li_3442, li_3443, li_3444, li_3447, li_3448, li_3449, li_3457, li_3465, li_3469, li_3473, li_3477, li_3501, li_3513, li_3525, li_3537, li_3633, li_3730, li_3742, li_3754, li_3766, li_4095, li_4096, li_4300, li_9011, li_9999, li_10000, li_36864, li_65536, li_1000000, ll_0, ll_1, ll_100, ll_11, ll_16, ll_20, ll_3, ll_32, ll_50, ll_8, ll_96, ll_99, ll_9999, ne_m1, e_if, e_ret, e_rz0, e_rz1, e_rzb, e_call, bCallX_eq, nI_add, nI_mul, nI_succ1, le_i, lt_i, eq_i, m1_i, m1_le, m1_lt, m1_ge, m1_eq, ite_true, ite_false, if_true, if_false, e0, r_c hu]
            rw [rt_w hu.1 (by omega)]
            simp (disch := omega) only [li_0, li_1, li_2, li_3, li_4, li_5, li_6, li_7, li_8, li_9, li_10, li_11, li_12, li_13, li_14, li_15, li_16, li_17, li_20, li_24, li_25, li_29, li_31, li_32, li_33, li_37, li_40, li_41, li_48, li_49, li_50, li_56, li_57, li_59, li_60, li_61, li_62, li_63, li_70, li_73, li_85, li_97, li_98, li_99, li_100, li_101, li_102, li_103, li_104, li_105, li_107, li_108, li_109, li_110, li_111, li_112, li_114, li_115, li_116, li_117, li_118, li_119, li_121, li_122, li_140, li_193, li_200, li_240, li_255, li_289, li_290, li_300, li_302, li_314, li_326, li_860, li_880, li_900, li_999, li_1024, li_2801, li_3440, li_3441, li_3442, li_3443, li_3444, li_3447, li_3448, li_3449, li_3457, li_3465, li_3469, li_3473, li_3477, li_3501, li_3513, li_3525, li_3537, li_3633, li_3730, li_3742, li_3754, li_3766, li_4095, li_4096, li_4300, li_9011, li_9999, li_10000, li_36864, li_65536, li_1000000, ll_0, ll_1, ll_100, ll_11, ll_16, ll_20, ll_3, ll_32, ll_50, ll_8, ll_96, ll_99, ll_9999, ne_m1, e_if, e_ret, e_rz0, e_rz1, e_rzb, e_call, bCallX_eq, nI_add, nI_mul, nI_succ1, le_i, lt_i, eq_i, m1_i, m1_le, m1_lt, m1_ge, m1_eq, ite_true, ite_false, if_true, if_false]
            rw [if_neg (show ¬ true.toNat = 0 by decide)]
            split <;> exact v1
        · have hb : hs.testBit p = false := by simpa using hb
          rw [hb] at hs1
          have hs1 : pcn hs (p + 1) = pcn hs p := hs1
          have eS1 : shS W r hs (p + 1) = (V, cur, pcn hs p) := by
            rw [eS]; unfold shP; rw [hb]; rfl
          have hih := ih (p + 1)
          rw [eS1, hs1] at hih
          dsimp only at hih
          obtain ⟨v, v1, v2, v3⟩ := hih u (by omega) (by omega) hu
          refine ⟨v, ?_, v2, v3⟩
          simp (disch := omega) only [li_0, li_1, li_2, li_3, li_4, li_5, li_6, li_7, li_8, li_9, li_10, li_11, li_12, li_13, li_14, li_15, li_16, li_17, li_20, li_24, li_25, li_29, li_31, li_32, li_33, li_37, li_40, li_41, li_48, li_49, li_50, li_56, li_57, li_59, li_60, li_61, li_62, li_63, li_70, li_73, li_85, li_97, li_98, li_99, li_100, li_101, li_102, li_103, li_104, li_105, li_107, li_108, li_109, li_110, li_111, li_112, li_114, li_115, li_116, li_117, li_118, li_119, li_121, li_122, li_140, li_193, li_200, li_240, li_255, li_289, li_290, li_300, li_302, li_314, li_326, li_860, li_880, li_900, li_999, li_1024, li_2801, li_3440, li_3441, li_3442, li_3443, li_3444, li_3447, li_3448, li_3449, li_3457, li_3465, li_3469, li_3473, li_3477, li_3501, li_3513, li_3525, li_3537, li_3633, li_3730, li_3742, li_3754, li_3766, li_4095, li_4096, li_4300, li_9011, li_9999, li_10000, li_36864, li_65536, li_1000000, ll_0, ll_1, ll_100, ll_11, ll_16, ll_20, ll_3, ll_32, ll_50, ll_8, ll_96, ll_99, ll_9999, ne_m1, e_if, e_ret, e_rz0, e_rz1, e_rzb, e_call, bCallX_eq, nI_add, nI_mul, nI_succ1, le_i, lt_i, eq_i, m1_i, m1_le, m1_lt, m1_ge, m1_eq, ite_true, ite_false, if_true, if_false, bit_i, bt0, hb]
          exact v1
  have e0 : wOw W r O = W := wOw_self hO
  obtain ⟨t, t1, t2, t3⟩ := key fu 0 s (by omega) (by unfold fu; omega) (by
    rw [if_pos (show pcn hs 0 < pc hs from hpt), show (shS W r hs 0).1 = W from rfl, show (shS W r hs 0).2.1 = r from rfl, e0]
    exact h)
  refine ⟨t, ?_, t2, t3⟩
  rw [show (shS W r hs 0).2.1 = r from rfl, show pcn hs 0 = 0 from rfl, Nat.sub_zero] at t1
  unfold fX9_share2
  simp (disch := omega) only [x_bits, e_callV h.k, x_yardsOfRope h hr, li_0, li_1, li_2, li_3, li_4, li_5, li_6, li_7, li_8, li_9, li_10, li_11, li_12, li_13, li_14, li_15, li_16, li_17, li_20, li_24, li_25, li_29, li_31, li_32, li_33, li_37, li_40, li_41, li_48, li_49, li_50, li_56, li_57, li_59, li_60, li_61, li_62, li_63, li_70, li_73, li_85, li_97, li_98, li_99, li_100, li_101, li_102, li_103, li_104, li_105, li_107, li_108, li_109, li_110, li_111, li_112, li_114, li_115, li_116, li_117, li_118, li_119, li_121, li_122, li_140, li_193, li_200, li_240, li_255, li_289, li_290, li_300, li_302, li_314, li_326, li_860, li_880, li_900, li_999, li_1024, li_2801, li_3440, li_3441, li_3442, li_3443, li_3444, li_3447, li_3448, li_3449, li_3457, li_3465, li_3469, li_3473, li_3477, li_3501, li_3513, li_3525, li_3537, li_3633, li_3730, li_3742, li_3754, li_3766, li_4095, li_4096, li_4300, li_9011, li_9999, li_10000, li_36864, li_65536, li_1000000, ll_0, ll_1, ll_100, ll_11, ll_16, ll_20, ll_3, ll_32, ll_50, ll_8, ll_96, ll_99, ll_9999, ne_m1, e_if, e_ret, e_rz0, e_rz1, e_rzb, e_call, bCallX_eq, nI_add, nI_mul, nI_succ1, le_i, lt_i, eq_i, m1_i, m1_le, m1_lt, m1_ge, m1_eq, ite_true, ite_false, if_true, if_false, e_nz, rem_j, div_i]
  exact t1
theorem wFx_bw (W : wW) (r hs : Nat) : wFx (wBw W r none) r hs = wFx W r hs := by
  funext i
  unfold wFx
  rw [wBw_r]
  rfl
theorem cnt_pos {P : Nat → Bool} {r : Nat} (h : P r = true) : ∀ n, r < n → 0 < cnt P n
  | 0, h0 => by omega
  | n + 1, h0 => by
    unfold cnt
    rw [it_s]
    by_cases h1 : r = n
    · subst h1; rw [if_pos h]; omega
    · have := cnt_pos h n (by omega)
      unfold cnt at this
      split <;> omega

theorem x_inh70 (h : RX s W) (hr : r < 12) (h0 : 0 < rN (wRo W r)) {hs wh : Nat} (hs8 : hs < 2 ^ wPe W) (hwh : wh = lWhom (wFx W r hs) (wLa W)) : ∃ t, fX9_inherit_70 113 (nI r) (nI hs) (nI wh) (nI (!wFe W r hs).toNat) s = some ((), t) ∧ FM s t ∧ RX t (wHd W r hs) := by
  have hP8 := h.wi.2.2.2.2.2.2.2.1
  have h28 : (2 : Nat) ^ wPe W ≤ 2 ^ 8 := Nat.pow_le_pow_right (by decide) hP8
  have hw4 : wh ≤ 4 := by
    rw [hwh]
    exact lWhom_le _ _ (fun q hq => (h.wi.2.2.2.2.2.2.2.2.2.2.2.2.2.2.2.2.2 q hq).1)
  have hFw : ∀ x, FM s (wI s 118 (37 + r) x) := fun x => FM.w (by omega)
  unfold fX9_inherit_70 fX9_inherit_82 fX9_inherit_161 wHd
  rw [← hwh]
  simp (disch := omega) only [li_0, li_1, li_2, li_3, li_4, li_5, li_6, li_7, li_8, li_9, li_10, li_11, li_12, li_13, li_14, li_15, li_16, li_17, li_20, li_24, li_25, li_29, li_31, li_32, li_33, li_37, li_40, li_41, li_48, li_49, li_50, li_56, li_57, li_59, li_60, li_61, li_62, li_63, li_70, li_73, li_85, li_97, li_98, li_99, li_100, li_101, li_102, li_103, li_104, li_105, li_107, li_108, li_109, li_110, li_111, li_112, li_114, li_115, li_116, li_117, li_118, li_119, li_121, li_122, li_140, li_193, li_200, li_240, li_255, li_289, li_290, li_300, li_302, li_314, li_326, li_860, li_880, li_900, li_999, li_1024, li_2801, li_3440, li_3441, li_3442, li_3443, li_3444, li_3447, li_3448, li_3449, li_3457, li_3465, li_3469, li_3473, li_3477, li_3501, li_3513, li_3525, li_3537, li_3633, li_3730, li_3742, li_3754, li_3766, li_4095, li_4096, li_4300, li_9011, li_9999, li_10000, li_36864, li_65536, li_1000000, ll_0, ll_1, ll_100, ll_11, ll_16, ll_20, ll_3, ll_32, ll_50, ll_8, ll_96, ll_99, ll_9999, ne_m1, e_if, e_ret, e_rz0, e_rz1, e_rzb, e_call, bCallX_eq, nI_add, nI_mul, nI_succ1, le_i, lt_i, eq_i, m1_i, m1_le, m1_lt, m1_ge, m1_eq, ite_true, ite_false, if_true, if_false]
  by_cases h1 : hs = 0
  · rw [if_pos h1, if_pos (Or.inl h1)]
    refine ⟨_, ?_, hFw mI, x_own (o := none) h hr h0 (fun p e => by cases e)⟩
    rw [r_c h, rt_w h.1 (by omega)]
    rfl
  · rw [if_neg h1]
    have hlo := lo_lt (m := hs) (by omega) h1
    have hlop := lo_pe hP8 hs8 h1
    by_cases h4 : wh = 4
    · rw [if_pos h4, if_pos (Or.inr h4)]
      refine ⟨_, ?_, hFw mI, x_own (o := none) h hr h0 (fun p e => by cases e)⟩
      rw [r_c h, rt_w h.1 (by omega)]
      rfl
    · rw [if_neg h4, if_neg (show ¬ (hs = 0 ∨ wh = 4) by omega)]
      by_cases h2 : wh = 1
      · rw [if_pos h2, if_pos h2]
        refine ⟨_, ?_, hFw (nI (gr hs)), x_own (o := some (gr hs)) h hr h0 (fun p e => by cases e; exact gr_pe hP8 hs8 h1)⟩
        rw [r_c h, e_callV h.k, x_call (x_greatestOf (show hs < 256 by omega) h1 s), rt_w h.1 (by omega)]
        rfl
      · rw [if_neg h2, if_neg h2]
        by_cases h3 : wh = 2
        · rw [if_pos h3, if_pos h3]
          refine ⟨_, ?_, hFw (oI (wPo W hs)), x_own (o := wPo W hs) h hr h0 (fun p e => wPo_lt W hs _ p e)⟩
          rw [r_c h, e_callV h.k, x_call (x_poorestOf h (show hs < 256 by omega)), rt_w h.1 (by omega)]
          rfl
        · rw [if_neg h3, if_neg h3]
          have helse : ∃ t, (bGR 9 113 24 (fun x1 => bCallV 9 113 (fX9_leastOf 113 (nI hs)) (fun x2 => bSI x1 (nI (37 + r)) x2 (bRet ())))) s = some ((), t) ∧ FM s t ∧ RX t (wOw W r (some (lo hs))) := by
            refine ⟨_, ?_, hFw (nI (lo hs)), x_own (o := some (lo hs)) h hr h0 (fun p e => by cases e; exact hlop)⟩
            rw [r_c h, e_callV h.k, x_call (x_leastOf (show hs < 256 by omega) h1 s), rt_w h.1 (by omega)]
            rfl
          by_cases h5 : wh = 3
          · rw [if_pos h5]
            by_cases h6 : wFe W r hs = true
            · have h7 := h6
              unfold wFe at h7
              rw [Bool.and_eq_true, Bool.and_eq_true, decide_eq_true_eq, decide_eq_true_eq] at h7
              have hpos := pc_pos (m := hs) (by omega) h1
              obtain ⟨t, t1, t2, t3⟩ := x_share2 h hr h0 rfl hs8 hpos h7.2.1 h7.2.2
              refine ⟨t, ?_, t2, by rw [if_pos ⟨h5, h6⟩]; exact t3⟩
              rw [h6]
              show (if nI (!true).toNat = 0 then bCallV 9 113 (fX9_share2 113 (nI r) (nI hs)) (fun _ => bRet ()) s else _) = _
              rw [if_pos (show nI (!true).toNat = 0 by decide), e_callV h.k, x_call t1]
              rfl
            · have h6' : wFe W r hs = false := by simpa using h6
              rw [if_neg (fun e => h6 e.2)]
              obtain ⟨t, t1, t2, t3⟩ := helse
              refine ⟨t, ?_, t2, t3⟩
              rw [h6']
              show (if nI (!false).toNat = 0 then _ else (bGR 9 113 24 (fun x1 => bCallV 9 113 (fX9_leastOf 113 (nI hs)) (fun x2 => bSI x1 (nI (37 + r)) x2 (bRet ())))) s) = _
              rw [if_neg (show ¬ nI (!false).toNat = 0 by decide)]
              exact t1
          · rw [if_neg h5, if_neg (fun e => h5 e.1)]
            exact helse
theorem x_inherit (h : RX s W) (hr : r < 12) (h0 : 0 < rN (wRo W r)) {p : Nat} (hp : p < wPe W) : ∃ t, fX9_inherit 113 (nI r) (nI p) s = some ((), t) ∧ FM s t ∧ RX t (wHd (wBw W r none) r (wHe W p)) := by
  have hP8 := h.wi.2.2.2.2.2.2.2.1
  have h28 : (2 : Nat) ^ wPe W ≤ 2 ^ 8 := Nat.pow_le_pow_right (by decide) hP8
  have hs8 := wHe_lt2 W p
  obtain ⟨t1, e1, e2⟩ := x_whomFor h hr h0 (show p < 8 by omega)
  have h1 : RX t1 W := h.st e1.2 (e1.c118 (by show ¬ 118 = 121; decide))
  have h2 := x_bor0 h1 hr
  have hb := wBw_r W r none
  have h00 : 0 < rN (wRo (wBw W r none) r) := by rw [hb]; exact h0
  have hw : lWhom (wFx W r (wHe W p)) (wLa W) = lWhom (wFx (wBw W r none) r (wHe W p)) (wLa (wBw W r none)) := by rw [wFx_bw]; rfl
  obtain ⟨t3, f1, f2, f3⟩ := x_inh70 h2 hr h00 (hs := wHe W p) (show wHe W p < 2 ^ wPe (wBw W r none) from hs8) hw
  refine ⟨t3, ?_, (e1.a1.tr (FM.w (by omega))).tr f2, f3⟩
  have hrl := rL_b (h2.ri r)
  have hpc := pc_le (wHe W p)
  have hrn : wRn (wBw W r none) ≤ 12 := wRn_le (wBw W r none) 12
  have hrn1 : 0 < wRn (wBw W r none) := by
    rw [wRn_cnt]
    exact cnt_pos (P := fun q => rT (wRo (wBw W r none) q)) (rT_of h00) 12 hr
  unfold fX9_inherit
  rw [e_callV h.k, x_call (x_childrenOf h (show p < 8 by omega)), e_callV h.k, x_call e2, r_c h1]
  simp only [li_0, li_1, li_2, li_3, li_4, li_5, li_6, li_7, li_8, li_9, li_10, li_11, li_12, li_13, li_14, li_15, li_16, li_17, li_20, li_24, li_25, li_29, li_31, li_32, li_33, li_37, li_40, li_41, li_48, li_49, li_50, li_56, li_57, li_59, li_60, li_61, li_62, li_63, li_70, li_73, li_85, li_97, li_98, li_99, li_100, li_101, li_102, li_103, li_104, li_105, li_107, li_108, li_109, li_110, li_111, li_112, li_114, li_115, li_116, li_117, li_118, li_119, li_121, li_122, li_140, li_193, li_200, li_240, li_255, li_289, li_290, li_300, li_302, li_314, li_326, li_860, li_880, li_900, li_999, li_1024, li_2801, li_3440, li_3441, li_3442, li_3443, li_3444, li_3447, li_3448, li_3449, li_3457, li_3465, li_3469, li_3473, li_3477, li_3501, li_3513, li_3525, li_3537, li_3633, li_3730, li_3742, li_3754, li_3766, li_4095, li_4096, li_4300, li_9011, li_9999, li_10000, li_36864, li_65536, li_1000000, ll_0, ll_1, ll_100, ll_11, ll_16, ll_20, ll_3, ll_32, ll_50, ll_8, ll_96, ll_99, ll_9999, ne_m1, nI_add]
  rw [rt_w h1.1 (by omega)]
  simp (disch := omega) only [r_c h2, r_ho h2 hr h00, bt1, e_callV h2.k, x_yardsOfRope h2 hr, x_bits, x_ropes h2, li_0, li_1, li_2, li_3, li_4, li_5, li_6, li_7, li_8, li_9, li_10, li_11, li_12, li_13, li_14, li_15, li_16, li_17, li_20, li_24, li_25, li_29, li_31, li_32, li_33, li_37, li_40, li_41, li_48, li_49, li_50, li_56, li_57, li_59, li_60, li_61, li_62, li_63, li_70, li_73, li_85, li_97, li_98, li_99, li_100, li_101, li_102, li_103, li_104, li_105, li_107, li_108, li_109, li_110, li_111, li_112, li_114, li_115, li_116, li_117, li_118, li_119, li_121, li_122, li_140, li_193, li_200, li_240, li_255, li_289, li_290, li_300, li_302, li_314, li_326, li_860, li_880, li_900, li_999, li_1024, li_2801, li_3440, li_3441, li_3442, li_3443, li_3444, li_3447, li_3448, li_3449, li_3457, li_3465, li_3469, li_3473, li_3477, li_3501, li_3513, li_3525, li_3537, li_3633, li_3730, li_3742, li_3754, li_3766, li_4095, li_4096, li_4300, li_9011, li_9999, li_10000, li_36864, li_65536, li_1000000, ll_0, ll_1, ll_100, ll_11, ll_16, ll_20, ll_3, ll_32, ll_50, ll_8, ll_96, ll_99, ll_9999, ne_m1, e_if, e_ret, e_rz0, e_rz1, e_rzb, e_call, bCallX_eq, nI_add, nI_mul, nI_succ1, le_i, lt_i, eq_i, m1_i, m1_le, m1_lt, m1_ge, m1_eq, ite_true, ite_false, if_true, if_false, sub_i]
  unfold fX9_inherit_65
  have e70 : ∀ b : Bool, b = wFe (wBw W r none) r (wHe W p) → fX9_inherit_70 113 (nI r) (nI (wHe W p)) (nI (lWhom (wFx W r (wHe W p)) (wLa W))) (nI (!b).toNat) (wI t1 118 (49 + r) mI) = some ((), t3) := fun b hb => by rw [hb]; exact f1
  by_cases c1 : rH (wRo (wBw W r none) r) = true
  · rw [if_pos c1]
    exact e70 false (by unfold wFe; rw [c1]; rfl)
  · rw [if_neg c1]
    have c1' : rH (wRo (wBw W r none) r) = false := by simpa using c1
    by_cases c2 : rL (wRo (wBw W r none) r) < pc (wHe W p)
    · rw [if_pos c2]
      exact e70 false (by unfold wFe; simp [show ¬ pc (wHe W p) ≤ rL (wRo (wBw W r none) r) by omega])
    · rw [if_neg c2]
      by_cases c3 : wRn (wBw W r none) + pc (wHe W p) - 1 ≤ 12
      · rw [if_pos c3]
        exact e70 true (by unfold wFe; rw [c1']; simp; omega)
      · rw [if_neg c3]
        exact e70 false (by unfold wFe; simp [show ¬ wRn (wBw W r none) + pc (wHe W p) ≤ 13 by omega])
theorem x_bury (h : RX s W) {p : Nat} (hp : p < wPe W) (r117 : Nat → Int32 → mM Unit) : ∃ t, fX9_oneYear_151 r117 fu 113 (nI p) (nI 0) s = r117 113 (nI (p + 1)) t ∧ FM s t ∧ RX t (wBu W p) := by
  have hP8 := h.wi.2.2.2.2.2.2.2.1
  -- a loop whose end goes on elsewhere
  have lp : ∀ (f : Nat → Nat → mM Unit) (I : Nat → mS → Prop) (k' : mM Unit) (J : mS → Prop), (∀ n k u, k < 12 → I k u → ∃ v, I (k + 1) v ∧ f (n + 1) k u = f n (k + 1) v) → (∀ n u, I 12 u → ∃ v, f (n + 1) 12 u = k' v ∧ J v) → ∀ n k u, k ≤ 12 → 12 < n + k → I k u → ∃ v, f n k u = k' v ∧ J v := by
    intro f I k' J hs he n
    induction n with
    | zero => intro k u h1 h2 _; omega
    | succ n ih =>
      intro k u h1 h2 hI
      by_cases hk : k = 12
      · subst hk; exact he n u hI
      · obtain ⟨v, g1, g2⟩ := hs n k u (by omega) hI
        rw [g2]
        exact ih (k + 1) v (by omega) (by omega) g1
  have hend : ∀ u, FM s u → RX u (wCk W p 12) → ∃ v, fX9_oneYear_186 r117 113 (nI p) u = r117 113 (nI (p + 1)) v ∧ (FM s v ∧ RX v (wBu W p)) := by
    intro u hF hu
    unfold fX9_oneYear_186
    refine lp (fun n k => fX9_oneYear_188 r117 n 113 (nI p) (nI k)) (fun k v => FM s v ∧ RX v (wBk W p k)) (r117 113 (nI (p + 1))) (fun v => FM s v ∧ RX v (wBu W p)) ?_ ?_ fu 0 u (by omega) (by unfold fu; omega) ⟨hF, hu⟩
    · rintro n k v hk ⟨hFv, hv⟩
      have hk' : ¬ 12 ≤ k := by omega
      have hRS := RS.bk W p k
      have eS : wBk W p (k + 1) = if rT (wRo (wBk W p k) k) && decide (rO (wRo (wBk W p k) k) = some p) then wHd (wBw (wBk W p k) k none) k (wHe W p) else wBk W p k := rfl
      rw [eS]
      generalize wBk W p k = V at hv hRS
      have hb := hv.ri k
      by_cases h1 : rT (wRo V k) = true
      · have h0 := rT_p h1
        by_cases h2 : rO (wRo V k) = some p
        · obtain ⟨t, t1, t2, t3⟩ := x_inherit hv hk h0 (show p < wPe V by rw [hRS.pe]; exact hp)
          rw [hRS.he] at t3
          refine ⟨t, ⟨hFv.tr t2, ?_⟩, ?_⟩
          · rw [if_pos (by rw [h1, h2]; simp)]; exact t3
          · show fX9_oneYear_188 r117 (n + 1) 113 _ _ v = _
            rw [qX9_oneYear_188]
            simp (disch := omega) only [r_c hv, e_callV hv.k, x_isRope hv hk, r_ow hv hk h0, li_0, li_1, li_2, li_3, li_4, li_5, li_6, li_7, li_8, li_9, li_10, li_11, li_12, li_13, li_14, li_15, li_16, li_17, li_20, li_24, li_25, li_29, li_31, li_32, li_33, li_37, li_40, li_41, li_48, li_49, li_50, li_56, li_57, li_59, li_60, li_61, li_62, li_63, li_70, li_73, li_85, li_97, li_98, li_99, li_100, li_101, li_102, li_103, li_104, li_105, li_107, li_108, li_109, li_110, li_111, li_112, li_114, li_115, li_116, li_117, li_118, li_119, li_121, li_122, li_140, li_193, li_200, li_240, li_255, li_289, li_290, li_300, li_302, li_314, li_326, li_860, li_880, li_900, li_999, li_1024, li_2801, li_3440, li_3441, li_3442, li_3443, li_3444, li_3447, li_3448, li_3449, li_3457, li_3465, li_3469, li_3473, li_3477, li_3501, li_3513, li_3525, li_3537, li_3633, li_3730, li_3742, li_3754, li_3766, li_4095, li_4096, li_4300, li_9011, li_9999, li_10000, li_36864, li_65536, li_1000000, ll_0, ll_1, ll_100, ll_11, ll_16, ll_20, ll_3, ll_32, ll_50, ll_8, ll_96, ll_99, ll_9999, ne_m1, e_if, e_ret, e_rz0, e_rz1, e_rzb, e_call, bCallX_eq, nI_add, nI_mul, nI_succ1, le_i, lt_i, eq_i, m1_i, m1_le, m1_lt, m1_ge, m1_eq, ite_true, ite_false, if_true, if_false, bt0, hk', h1, h2, oI_s, Bool.true_eq_false, t1]
        · refine ⟨v, ⟨hFv, ?_⟩, ?_⟩
          · rw [if_neg (by simp [h2])]; exact hv
          · show fX9_oneYear_188 r117 (n + 1) 113 _ _ v = _
            rw [qX9_oneYear_188]
            simp (disch := omega) only [r_c hv, e_callV hv.k, x_isRope hv hk, r_ow hv hk h0, li_0, li_1, li_2, li_3, li_4, li_5, li_6, li_7, li_8, li_9, li_10, li_11, li_12, li_13, li_14, li_15, li_16, li_17, li_20, li_24, li_25, li_29, li_31, li_32, li_33, li_37, li_40, li_41, li_48, li_49, li_50, li_56, li_57, li_59, li_60, li_61, li_62, li_63, li_70, li_73, li_85, li_97, li_98, li_99, li_100, li_101, li_102, li_103, li_104, li_105, li_107, li_108, li_109, li_110, li_111, li_112, li_114, li_115, li_116, li_117, li_118, li_119, li_121, li_122, li_140, li_193, li_200, li_240, li_255, li_289, li_290, li_300, li_302, li_314, li_326, li_860, li_880, li_900, li_999, li_1024, li_2801, li_3440, li_3441, li_3442, li_3443, li_3444, li_3447, li_3448, li_3449, li_3457, li_3465, li_3469, li_3473, li_3477, li_3501, li_3513, li_3525, li_3537, li_3633, li_3730, li_3742, li_3754, li_3766, li_4095, li_4096, li_4300, li_9011, li_9999, li_10000, li_36864, li_65536, li_1000000, ll_0, ll_1, ll_100, ll_11, ll_16, ll_20, ll_3, ll_32, ll_50, ll_8, ll_96, ll_99, ll_9999, ne_m1, e_if, e_ret, e_rz0, e_rz1, e_rzb, e_call, bCallX_eq, nI_add, nI_mul, nI_succ1, le_i, lt_i, eq_i, m1_i, m1_le, m1_lt, m1_ge, m1_eq, ite_true, ite_false, if_true, if_false, bt0, hk', h1, h2, oI_e (ob hb.2.2.2.1), Bool.true_eq_false]
      · have h1' : rT (wRo V k) = false := by simpa using h1
        refine ⟨v, ⟨hFv, ?_⟩, ?_⟩
        · rw [if_neg (by rw [h1']; simp)]; exact hv
        · show fX9_oneYear_188 r117 (n + 1) 113 _ _ v = _
          rw [qX9_oneYear_188]
          simp (disch := omega) only [r_c hv, e_callV hv.k, x_isRope hv hk, li_0, li_1, li_2, li_3, li_4, li_5, li_6, li_7, li_8, li_9, li_10, li_11, li_12, li_13, li_14, li_15, li_16, li_17, li_20, li_24, li_25, li_29, li_31, li_32, li_33, li_37, li_40, li_41, li_48, li_49, li_50, li_56, li_57, li_59, li_60, li_61, li_62, li_63, li_70, li_73, li_85, li_97, li_98, li_99, li_100, li_101, li_102, li_103, li_104, li_105, li_107, li_108, li_109, li_110, li_111, li_112, li_114, li_115, li_116, li_117, li_118, li_119, li_121, li_122, li_140, li_193, li_200, li_240, li_255, li_289, li_290, li_300, li_302, li_314, li_326, li_860, li_880, li_900, li_999, li_1024, li_2801, li_3440, li_3441, li_3442, li_3443, li_3444, li_3447, li_3448, li_3449, li_3457, li_3465, li_3469, li_3473, li_3477, li_3501, li_3513, li_3525, li_3537, li_3633, li_3730, li_3742, li_3754, li_3766, li_4095, li_4096, li_4300, li_9011, li_9999, li_10000, li_36864, li_65536, li_1000000, ll_0, ll_1, ll_100, ll_11, ll_16, ll_20, ll_3, ll_32, ll_50, ll_8, ll_96, ll_99, ll_9999, ne_m1, e_if, e_ret, e_rz0, e_rz1, e_rzb, e_call, bCallX_eq, nI_add, nI_mul, nI_succ1, le_i, lt_i, eq_i, m1_i, m1_le, m1_lt, m1_ge, m1_eq, ite_true, ite_false, if_true, if_false, bt0, hk', h1']
    · rintro n v ⟨hFv, hv⟩
      refine ⟨v, ?_, hFv, hv⟩
      show fX9_oneYear_188 r117 (n + 1) 113 _ _ v = _
      rw [qX9_oneYear_188]
      unfold fX9_oneYear_227
      simp (disch := omega) only [li_0, li_1, li_2, li_3, li_4, li_5, li_6, li_7, li_8, li_9, li_10, li_11, li_12, li_13, li_14, li_15, li_16, li_17, li_20, li_24, li_25, li_29, li_31, li_32, li_33, li_37, li_40, li_41, li_48, li_49, li_50, li_56, li_57, li_59, li_60, li_61, li_62, li_63, li_70, li_73, li_85, li_97, li_98, li_99, li_100, li_101, li_102, li_103, li_104, li_105, li_107, li_108, li_109, li_110, li_111, li_112, li_114, li_115, li_116, li_117, li_118, li_119, li_121, li_122, li_140, li_193, li_200, li_240, li_255, li_289, li_290, li_300, li_302, li_314, li_326, li_860, li_880, li_900, li_999, li_1024, li_2801, li_3440, li_3441, li_3442, li_3443, li_3444, li_3447, li_3448, li_3449, li_3457, li_3465, li_3469, li_3473, li_3477, li_3501, li_3513, li_3525, li_3537, li_3633, li_3730, li_3742, li_3754, li_3766, li_4095, li_4096, li_4300, li_9011, li_9999, li_10000, li_36864, li_65536, li_1000000, ll_0, ll_1, ll_100, ll_11, ll_16, ll_20, ll_3, ll_32, ll_50, ll_8, ll_96, ll_99, ll_9999, ne_m1, e_if, e_ret, e_rz0, e_rz1, e_rzb, e_call, bCallX_eq, nI_add, nI_mul, nI_succ1, le_i, lt_i, eq_i, m1_i, m1_le, m1_lt, m1_ge, m1_eq, ite_true, ite_false, if_true, if_false, Nat.le_refl]
  have key := lp (fun n k => fX9_oneYear_151 r117 n 113 (nI p) (nI k)) (fun k v => FM s v ∧ RX v (wCk W p k)) (r117 113 (nI (p + 1))) (fun v => FM s v ∧ RX v (wBu W p)) ?_ ?_ fu 0 s (by omega) (by unfold fu; omega) ⟨FM.rf, ?_⟩
  · obtain ⟨t, h3, h4⟩ := key
    exact ⟨t, h3, h4⟩
  · rintro n k v hk ⟨hFv, hv⟩
    have hk' : ¬ 12 ≤ k := by omega
    have hb := hv.ri k
    have hkk : wRo (wCk W p k) k = wRo W k := by
      show (if k < k ∧ _ then _ else _) = _
      rw [if_neg (by omega)]
    rw [wCk_s]
    rw [hkk] at hb
    by_cases h0 : 0 < rN (wRo W k)
    · have h00 : 0 < rN (wRo (wCk W p k) k) := by rw [hkk]; exact h0
      have hbr : sI v 118 (49 + k) = oI (rB (wRo W k)) := by rw [← hkk]; exact ((hv.ro hk).2 h00).2.1
      by_cases h1 : rB (wRo W k) = some p
      · refine ⟨wI v 118 (49 + k) mI, ⟨hFv.tr (FM.w (by omega)), ?_⟩, ?_⟩
        · rw [if_pos h1]; exact x_bor0 hv hk
        · show fX9_oneYear_151 r117 (n + 1) 113 _ _ v = _
          rw [qX9_oneYear_151]
          simp (disch := first | omega | ((repeat (apply RT.w)); assumption)) only [r_c hv, r_n hv (show 49 + k < 4300 by omega) hbr, li_0, li_1, li_2, li_3, li_4, li_5, li_6, li_7, li_8, li_9, li_10, li_11, li_12, li_13, li_14, li_15, li_16, li_17, li_20, li_24, li_25, li_29, li_31, li_32, li_33, li_37, li_40, li_41, li_48, li_49, li_50, li_56, li_57, li_59, li_60, li_61, li_62, li_63, li_70, li_73, li_85, li_97, li_98, li_99, li_100, li_101, li_102, li_103, li_104, li_105, li_107, li_108, li_109, li_110, li_111, li_112, li_114, li_115, li_116, li_117, li_118, li_119, li_121, li_122, li_140, li_193, li_200, li_240, li_255, li_289, li_290, li_300, li_302, li_314, li_326, li_860, li_880, li_900, li_999, li_1024, li_2801, li_3440, li_3441, li_3442, li_3443, li_3444, li_3447, li_3448, li_3449, li_3457, li_3465, li_3469, li_3473, li_3477, li_3501, li_3513, li_3525, li_3537, li_3633, li_3730, li_3742, li_3754, li_3766, li_4095, li_4096, li_4300, li_9011, li_9999, li_10000, li_36864, li_65536, li_1000000, ll_0, ll_1, ll_100, ll_11, ll_16, ll_20, ll_3, ll_32, ll_50, ll_8, ll_96, ll_99, ll_9999, ne_m1, e_if, e_ret, e_rz0, e_rz1, e_rzb, e_call, bCallX_eq, nI_add, nI_mul, nI_succ1, le_i, lt_i, eq_i, m1_i, m1_le, m1_lt, m1_ge, m1_eq, ite_true, ite_false, if_true, if_false, hk', h1, oI_s]
          rw [rt_w hv.1 (by omega)]
      · refine ⟨v, ⟨hFv, ?_⟩, ?_⟩
        · rw [if_neg h1]; exact hv
        · show fX9_oneYear_151 r117 (n + 1) 113 _ _ v = _
          rw [qX9_oneYear_151]
          simp (disch := omega) only [r_c hv, r_n hv (show 49 + k < 4300 by omega) hbr, li_0, li_1, li_2, li_3, li_4, li_5, li_6, li_7, li_8, li_9, li_10, li_11, li_12, li_13, li_14, li_15, li_16, li_17, li_20, li_24, li_25, li_29, li_31, li_32, li_33, li_37, li_40, li_41, li_48, li_49, li_50, li_56, li_57, li_59, li_60, li_61, li_62, li_63, li_70, li_73, li_85, li_97, li_98, li_99, li_100, li_101, li_102, li_103, li_104, li_105, li_107, li_108, li_109, li_110, li_111, li_112, li_114, li_115, li_116, li_117, li_118, li_119, li_121, li_122, li_140, li_193, li_200, li_240, li_255, li_289, li_290, li_300, li_302, li_314, li_326, li_860, li_880, li_900, li_999, li_1024, li_2801, li_3440, li_3441, li_3442, li_3443, li_3444, li_3447, li_3448, li_3449, li_3457, li_3465, li_3469, li_3473, li_3477, li_3501, li_3513, li_3525, li_3537, li_3633, li_3730, li_3742, li_3754, li_3766, li_4095, li_4096, li_4300, li_9011, li_9999, li_10000, li_36864, li_65536, li_1000000, ll_0, ll_1, ll_100, ll_11, ll_16, ll_20, ll_3, ll_32, ll_50, ll_8, ll_96, ll_99, ll_9999, ne_m1, e_if, e_ret, e_rz0, e_rz1, e_rzb, e_call, bCallX_eq, nI_add, nI_mul, nI_succ1, le_i, lt_i, eq_i, m1_i, m1_le, m1_lt, m1_ge, m1_eq, ite_true, ite_false, if_true, if_false, hk', h1, oI_e (ob hb.2.2.2.2.1)]
    · -- a rope that is gone: what lies there does not matter
      have hr0 : wRo W k = r0 := hb.2.2.2.2.2 (by omega)
      have hn : ¬ rB (wRo W k) = some p := by rw [hr0]; intro e; cases e
      rw [if_neg hn]
      by_cases h1 : sI v 118 (49 + k) = nI p
      · refine ⟨wI v 118 (49 + k) mI, ⟨hFv.tr (FM.w (by omega)), ?_⟩, ?_⟩
        · have h5 := x_bor0 hv hk
          have e5 : wBw (wCk W p k) k none = wCk W p k := by
            have e6 : up (wRo (wCk W p k)) k (roB (wRo (wCk W p k) k) none) = wRo (wCk W p k) := by
              funext q
              by_cases hq : q = k
              · rw [hq, up_s, hkk, hr0]; rfl
              · rw [up_n _ _ hq]
            unfold wBw
            rw [e6]
            rfl
          rw [e5] at h5
          exact h5
        · show fX9_oneYear_151 r117 (n + 1) 113 _ _ v = _
          rw [qX9_oneYear_151]
          simp (disch := omega) only [r_c hv, r_n hv (show 49 + k < 4300 by omega) h1, li_0, li_1, li_2, li_3, li_4, li_5, li_6, li_7, li_8, li_9, li_10, li_11, li_12, li_13, li_14, li_15, li_16, li_17, li_20, li_24, li_25, li_29, li_31, li_32, li_33, li_37, li_40, li_41, li_48, li_49, li_50, li_56, li_57, li_59, li_60, li_61, li_62, li_63, li_70, li_73, li_85, li_97, li_98, li_99, li_100, li_101, li_102, li_103, li_104, li_105, li_107, li_108, li_109, li_110, li_111, li_112, li_114, li_115, li_116, li_117, li_118, li_119, li_121, li_122, li_140, li_193, li_200, li_240, li_255, li_289, li_290, li_300, li_302, li_314, li_326, li_860, li_880, li_900, li_999, li_1024, li_2801, li_3440, li_3441, li_3442, li_3443, li_3444, li_3447, li_3448, li_3449, li_3457, li_3465, li_3469, li_3473, li_3477, li_3501, li_3513, li_3525, li_3537, li_3633, li_3730, li_3742, li_3754, li_3766, li_4095, li_4096, li_4300, li_9011, li_9999, li_10000, li_36864, li_65536, li_1000000, ll_0, ll_1, ll_100, ll_11, ll_16, ll_20, ll_3, ll_32, ll_50, ll_8, ll_96, ll_99, ll_9999, ne_m1, e_if, e_ret, e_rz0, e_rz1, e_rzb, e_call, bCallX_eq, nI_add, nI_mul, nI_succ1, le_i, lt_i, eq_i, m1_i, m1_le, m1_lt, m1_ge, m1_eq, ite_true, ite_false, if_true, if_false, hk']
          rw [rt_w hv.1 (by omega)]
      · refine ⟨v, ⟨hFv, hv⟩, ?_⟩
        show fX9_oneYear_151 r117 (n + 1) 113 _ _ v = _
        rw [qX9_oneYear_151]
        simp (disch := omega) only [r_c hv, r_n hv (show 49 + k < 4300 by omega) rfl, li_0, li_1, li_2, li_3, li_4, li_5, li_6, li_7, li_8, li_9, li_10, li_11, li_12, li_13, li_14, li_15, li_16, li_17, li_20, li_24, li_25, li_29, li_31, li_32, li_33, li_37, li_40, li_41, li_48, li_49, li_50, li_56, li_57, li_59, li_60, li_61, li_62, li_63, li_70, li_73, li_85, li_97, li_98, li_99, li_100, li_101, li_102, li_103, li_104, li_105, li_107, li_108, li_109, li_110, li_111, li_112, li_114, li_115, li_116, li_117, li_118, li_119, li_121, li_122, li_140, li_193, li_200, li_240, li_255, li_289, li_290, li_300, li_302, li_314, li_326, li_860, li_880, li_900, li_999, li_1024, li_2801, li_3440, li_3441, li_3442, li_3443, li_3444, li_3447, li_3448, li_3449, li_3457, li_3465, li_3469, li_3473, li_3477, li_3501, li_3513, li_3525, li_3537, li_3633, li_3730, li_3742, li_3754, li_3766, li_4095, li_4096, li_4300, li_9011, li_9999, li_10000, li_36864, li_65536, li_1000000, ll_0, ll_1, ll_100, ll_11, ll_16, ll_20, ll_3, ll_32, ll_50, ll_8, ll_96, ll_99, ll_9999, ne_m1, e_if, e_ret, e_rz0, e_rz1, e_rzb, e_call, bCallX_eq, nI_add, nI_mul, nI_succ1, le_i, lt_i, eq_i, m1_i, m1_le, m1_lt, m1_ge, m1_eq, ite_true, ite_false, if_true, if_false, hk', h1]
  · rintro n v ⟨hFv, hv⟩
    show ∃ q, fX9_oneYear_151 r117 (n + 1) 113 _ _ v = _ ∧ _
    rw [qX9_oneYear_151]
    simp (disch := omega) only [li_0, li_1, li_2, li_3, li_4, li_5, li_6, li_7, li_8, li_9, li_10, li_11, li_12, li_13, li_14, li_15, li_16, li_17, li_20, li_24, li_25, li_29, li_31, li_32, li_33, li_37, li_40, li_41, li_48, li_49, li_50, li_56, li_57, li_59, li_60, li_61, li_62, li_63, li_70, li_73, li_85, li_97, li_98, li_99, li_100, li_101, li_102, li_103, li_104, li_105, li_107, li_108, li_109, li_110, li_111, li_112, li_114, li_115, li_116, li_117, li_118, li_119, li_121, li_122, li_140, li_193, li_200, li_240, li_255, li_289, li_290, li_300, li_302, li_314, li_326, li_860, li_880, li_900, li_999, li_1024, li_2801, li_3440, li_3441, li_3442, li_3443, li_3444, li_3447, li_3448, li_3449, li_3457, li_3465, li_3469, li_3473, li_3477, li_3501, li_3513, li_3525, li_3537, li_3633, li_3730, li_3742, li_3754, li_3766, li_4095, li_4096, li_4300, li_9011, li_9999, li_10000, li_36864, li_65536, li_1000000, ll_0, ll_1, ll_100, ll_11, ll_16, ll_20, ll_3, ll_32, ll_50, ll_8, ll_96, ll_99, ll_9999, ne_m1, e_if, e_ret, e_rz0, e_rz1, e_rzb, e_call, bCallX_eq, nI_add, nI_mul, nI_succ1, le_i, lt_i, eq_i, m1_i, m1_le, m1_lt, m1_ge, m1_eq, ite_true, ite_false, if_true, if_false, Nat.le_refl]
    exact hend v hFv hv
  · have e : wCk W p 0 = W := by
      unfold wCk
      have : (fun r => if r < 0 ∧ rB (wRo W r) = some p then roB (wRo W r) none else wRo W r) = wRo W := by
        funext r
        rw [if_neg (by omega)]
      rw [this]
      rfl
    rw [e]
    exact h
end RB

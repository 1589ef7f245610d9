/-! CALLS THAT TELL A FRACTION -/
theorem e_nl {y : Int64} {α : Type} {m : mM α} {s : mS} (h : ¬ y = 0) : bNl y m s = m s := if_neg h
theorem lN_ne0 {n : Nat} (h : n < 2147483648) (h0 : 0 < n) : ¬ lN n = 0 := by
  rw [ll_0, leq_i h (by decide)]
  omega
/-- the greatest common divisor: the pairs that the loop goes through -/
theorem eu (P : Nat → Nat → Nat → Prop) (M : Nat) (he : ∀ x c, c ≤ M → x < 2147483648 → P x 0 c) (hs : ∀ x y c, c < M → 0 < y → y < 2147483648 → x < 2147483648 → P y (x % y) (c + 1) → P x y c) : ∀ k x y c, c + 2 * k ≤ M → x < 2147483648 → y < 2 ^ k → k ≤ 31 → P x y c := by
  intro k
  induction k with
  | zero =>
    intro x y c hc hx hy _
    have : y = 0 := by simpa using hy
    subst this
    exact he x c (by omega) hx
  | succ k ih =>
    intro x y c hc hx hy hk
    have hp : (2 : Nat) ^ (k + 1) ≤ 2 ^ 31 := Nat.pow_le_pow_right (by decide) hk
    have e31 : (2 : Nat) ^ 31 = 2147483648 := by decide
    rcases Nat.eq_zero_or_pos y with h0 | h0
    · subst h0; exact he x c (by omega) hx
    · refine hs x y c (by omega) h0 (by omega) hx ?_
      have hz := Nat.mod_lt x h0
      rcases Nat.eq_zero_or_pos (x % y) with h1 | h1
      · rw [h1]; exact he y _ (by omega) (by omega)
      · refine hs y (x % y) _ (by omega) h1 (by omega) (by omega) ?_
        refine ih _ _ _ (by omega) (by omega) ?_ (by omega)
        have h2 := Nat.mod_lt y h1
        have h3 := Nat.div_add_mod y (x % y)
        have h4 : 1 ≤ y / (x % y) := Nat.div_pos (by omega) h1
        have h5 : (x % y) * 1 ≤ (x % y) * (y / (x % y)) := Nat.mul_le_mul_left _ h4
        rw [Nat.pow_succ] at hy
        omega
theorem gcd_step (x y : Nat) : Nat.gcd y (x % y) = Nat.gcd x y := by
  rw [Nat.gcd_comm x y, Nat.gcd_rec y x, Nat.gcd_comm]
theorem lg_z {y : Nat} (hy : y < 2147483648) : (lg_cmp (lN y) (0 : Int64) = 0) = (y = 0) := by
  rw [ll_0, li_0, lg_eq0, leq_i hy (by decide)]
section FRAC
variable {s : mS} {W : wW}
theorem c_tell45 (hS : CS s) {a b g : Nat} (ha : a < 2147483648) (hb : b < 2147483648) (hg : g < 2147483648) (h0 : 0 < g) : fX8_tellFraction_45 1 (lN a) (lN b) (lN g) s = some (nI 1, wI (wL (wL s 1 12 (lN (a / g))) 1 13 (lN (b / g))) 1 11 (nI 0)) := by
  have hg0 := lN_ne0 hg h0
  have h1 : ¬ lg_cmp (lN g) (0 : Int64) ≤ 0 := by
    rw [ll_0, li_0, lg_le0, lle_i hg (by decide)]
    omega
  have hS1 : CS (wL s 1 12 (lN (a / g))) := hS.l
  have hS2 : CS (wL (wL s 1 12 (lN (a / g))) 1 13 (lN (b / g))) := hS1.l
  unfold fX8_tellFraction_45 fX8_tellFraction_68
  rw [e_if, if_neg h1, e_nl hg0, pk_lDiv (by omega) h0 (by omega), k_pl hS, e_nl hg0, pk_lDiv (by omega) h0 (by omega), k_pl hS1, k_cv hS2, e_call, k_accept hS2]
  rfl
theorem c_tellFraction (hS : CS s) {a b : Nat} (ha : a < 2147483648) (hb : b < 2147483648) (h0 : 0 < b) : fX8_tellFraction 1 (lN a) (lN b) s = some (nI 1, wI (wL (wL s 1 12 (lN (a / Nat.gcd a b))) 1 13 (lN (b / Nat.gcd a b))) 1 11 (nI 0)) := by
  have hgp : 0 < Nat.gcd a b := Nat.gcd_pos_of_pos_right _ h0
  have hgl : Nat.gcd a b < 2147483648 := Nat.lt_of_le_of_lt (Nat.gcd_le_right _ h0) hb
  have key := eu (fun x y c => ∀ n, Nat.gcd x y = Nat.gcd a b → 100 < n + c → fX8_tellFraction_9 n 1 (lN a) (lN b) (lN x) (lN y) (nI c) s = fX8_tellFraction_45 1 (lN a) (lN b) (lN (Nat.gcd a b)) s) 100 (fun x c hc hx n hg hn => by
      obtain ⟨m, rfl⟩ : ∃ m, n = m + 1 := ⟨n - 1, by omega⟩
      show bIf _ _ _ s = _
      rw [Nat.gcd_zero_right] at hg
      rw [e_if, li_200, if_neg (by rw [le_i (by omega) (by omega)]; omega), e_if, if_pos (by rw [lg_z (by omega)]), hg]) (fun x y c hc h0 hy hx ih n hg hn => by
      obtain ⟨m, rfl⟩ : ∃ m, n = m + 1 := ⟨n - 1, by omega⟩
      show bIf _ _ _ s = _
      rw [e_if, li_200, if_neg (by rw [le_i (by omega) (by omega)]; omega), e_if, if_neg (by rw [lg_z hy]; omega), e_nl (lN_ne0 hy h0), pk_lRem (by omega) h0 (by omega), nI_succ1]
      exact ih m (by rw [gcd_step, hg]) (by omega)) 31 a b 0 (by omega) ha hb (by decide)
  unfold fX8_tellFraction
  rw [← c_tell45 hS ha hb hgl hgp]
  exact key fu rfl (by unfold fu; omega)
theorem x_frac34 (h : RT s) {a b g : Nat} (ha : a < 2147483648) (hb : b < 2147483648) (hg : g < 2147483648) (h0 : 0 < g) : fX9_fraction_34 113 (lN a) (lN b) (lN g) s = some (nI 1, wL (wL s 113 2 (lN (a / g))) 113 3 (lN (b / g))) := by
  have hg0 := lN_ne0 hg h0
  unfold fX9_fraction_34
  rw [e_nl hg0, pk_lDiv (by omega) h0 (by omega), xPL h.k, e_nl hg0, pk_lDiv (by omega) h0 (by omega), xPL (s := wL s 113 2 (lN (a / g))) h.k]
  rfl
theorem jAbs_n {a : Nat} (ha : a < 2147483648) : jAbs (lN a) = lN a := by
  unfold jAbs
  by_cases h : 0 < a
  · rw [if_pos (by rw [ll_0, llt_i (by decide) ha]; exact h)]
  · obtain rfl : a = 0 := by omega
    rfl
theorem x_fraction (h : RT s) {a b : Nat} (ha : a < 2147483648) (hb : b < 2147483648) (h0 : 0 < b) : fX9_fraction 113 (lN a) (lN b) s = some (nI 1, wL (wL s 113 2 (lN (a / Nat.gcd a b))) 113 3 (lN (b / Nat.gcd a b))) := by
  have hgp : 0 < Nat.gcd a b := Nat.gcd_pos_of_pos_right _ h0
  have hgl : Nat.gcd a b < 2147483648 := Nat.lt_of_le_of_lt (Nat.gcd_le_right _ h0) hb
  have key := eu (fun x y c => ∀ n, Nat.gcd x y = Nat.gcd a b → 100 < n + c → fX9_fraction_9 n 113 (lN a) (lN b) (lN x) (lN y) s = fX9_fraction_34 113 (lN a) (lN b) (lN (Nat.gcd a b)) s) 100 (fun x c hc hx n hg hn => by
      obtain ⟨m, rfl⟩ : ∃ m, n = m + 1 := ⟨n - 1, by omega⟩
      show bIf _ _ _ s = _
      rw [Nat.gcd_zero_right] at hg
      rw [e_if, if_pos (by rw [lg_z (by omega)]), hg]) (fun x y c hc h0 hy hx ih n hg hn => by
      obtain ⟨m, rfl⟩ : ∃ m, n = m + 1 := ⟨n - 1, by omega⟩
      show bIf _ _ _ s = _
      rw [e_if, if_neg (by rw [lg_z hy]; omega), e_nl (lN_ne0 hy h0), pk_lRem (by omega) h0 (by omega)]
      exact ih m (by rw [gcd_step, hg]) (by omega)) 31 a b 0 (by omega) ha hb (by decide)
  unfold fX9_fraction
  rw [jAbs_n ha, ← x_frac34 h ha hb hgl hgp]
  exact key fu rfl (by unfold fu; omega)
end FRAC
/-- the fraction is set -/
def dFr (D : dD) (k : Nat) (a b : Int64) : dD := ((k, a, b, D.1.2.2.2), D.2)
theorem CN.fr {s : mS} {n : dN} (h : CN s n) (k : Nat) (a b : Int64) : CN (wI (wL (wL s 1 12 a) 1 13 b) 1 11 (nI k)) (k, a, b, n.2.2.2) := by
  obtain ⟨h1, h2, h3, h4, h5, h6, h7⟩ := h
  refine ⟨sI_wI_eq _ _ _ _, ?_, ?_, ?_, ?_, ?_, ?_⟩
  · rw [sL_wI, sL_wL, if_neg (by decide), sL_wL, if_pos ⟨rfl, rfl⟩]
  · rw [sL_wI, sL_wL, if_pos ⟨rfl, rfl⟩]
  · rw [sI_wI_ne (Or.inr (by decide))]; exact h4
  · rw [sI_wI_ne (Or.inr (by decide))]; exact h5
  · rw [sI_wI_ne (Or.inr (by decide))]; exact h6
  · rw [sI_wI_ne (Or.inr (by decide))]; exact h7
theorem CW.l1 {s : mS} {W : wW} {a j k : Nat} {x : Int64} (h : CW s a W) : CW (wL s k j x) a W := h.mv (fun _ _ => rfl) (fun _ _ => ⟨rfl, rfl⟩) (fun _ => ⟨rfl, rfl, rfl, rfl, rfl⟩)
theorem WoS.l1 {s : mS} {a j k : Nat} {x : Int64} (h : WoS s a) : WoS (wL s k j x) a := h.mvP2 (fun _ _ => rfl) (fun _ _ _ _ => rfl)
theorem CP.fra {s : mS} {D : dD} (h : CP s D) (hD : DOk D) (k : Nat) (a b : Int64) : CP (wI (wL (wL s 1 12 a) 1 13 b) 1 11 (nI k)) (dFr D k a b) :=
  h.upd (k, a, b, D.1.2.2.2) (dW D) (A := fun b => b = 1) ((FR.l (A := fun b => b = 1) 12 rfl).tr ((FR.l (A := fun b => b = 1) 13 rfl).tr (FI.w (A := fun b => b = 1) _ _ rfl).fr)) (fun _ hb => Or.inl hb) (fun _ _ _ _ _ => rfl) rfl (h.2.1.fr k a b) rfl hD.2.2.1 rfl h.2.2.2.2.1.l1.l1.w1 (h.2.2.2.2.2.1.l1.l1.mv rfl)
theorem RN.fr {s : mS} {n : dN} (h : RN s n) (a b : Int64) : RN (wL (wL s 113 2 a) 113 3 b) (n.1, a, b, n.2.2.2) := by
  obtain ⟨h1, h2, h3, h4, h5, h6, h7⟩ := h
  refine ⟨h1, ?_, ?_, h4, h5, h6, h7⟩
  · rw [sL_wL, if_neg (by decide), sL_wL, if_pos ⟨rfl, rfl⟩]
  · rw [sL_wL, if_pos ⟨rfl, rfl⟩]
theorem RP.fra {s : mS} {D : dD} (h : RP s D) (hD : DOk D) (a b : Int64) : RP (wL (wL s 113 2 a) 113 3 b) (dFr D D.1.1 a b) :=
  h.upd (D.1.1, a, b, D.1.2.2.2) (dW D) (h.2.1.fr a b) rfl rfl hD.2.2.1 (h.1.mv rfl rfl rfl) rfl rfl rfl (by funext i; rw [sL_wL, if_neg (by omega), sL_wL, if_neg (by omega)]) (fun _ _ _ => rfl)
theorem Sim.fr {fc fr : mM Int32} (h : ∀ (s t : mS) (D : dD), CP s D → RP t D → DOk D → (∃ (x : Int32) (k : Nat), k < 12 ∧ fc s = some (x, wI s 1 11 (nI k)) ∧ fr t = some (x, wI (q0 t) 113 0 (nI k))) ∨ ∃ (x : Int32) (a b : Int64), fc s = some (x, wI (wL (wL s 1 12 a) 1 13 b) 1 11 (nI 0)) ∧ fr t = some (x, wL (wL (q0 t) 113 2 a) 113 3 b)) : Sim fc fr := by
  intro s t D hC hR hD
  rcases h s t D hC hR hD with ⟨x, k, hk, h1, h2⟩ | ⟨x, a, b, h1, h2⟩
  · exact ⟨x, _, _, dSt D k, h1, h2, hC.st hD k, (hR.q0 hD).st (dSt_ok hD (by decide)) k, dSt_ok hD hk, fc1 _ _, (fr_q0 t).tr (fr113 0 _)⟩
  · refine ⟨x, _, _, dFr D 0 a b, h1, h2, hC.fra hD 0 a b, (hR.q0 hD).fra (dSt_ok hD (by decide)) a b, ⟨(by decide : 0 < 12), hD.2⟩, ?_, (fr_q0 t).tr ((FR.l (A := rfA) 2 ⟨by decide, by decide⟩).tr (FR.l (A := rfA) 3 ⟨by decide, by decide⟩))⟩
    exact ((FR.l (A := fun b => b = 1) 12 rfl).tr ((FR.l (A := fun b => b = 1) 13 rfl).tr (FI.w (A := fun b => b = 1) _ _ rfl).fr)).c (fun b hb hr => by have : 113 ≤ b := hr.1; omega)

theorem s_holds (x : Int32) : Sim (fX8_holds 1 x) (fX9_holds 113 x) := by
  refine Sim.fr fun s t D hC hR hD => ?_
  have hS := hC.1
  have h : CW s 4 (dW D) := hC.2.2.2.2.1
  have u : RX (q0 t) (dW D) := (hR.q0 hD).1
  have hT := hR.1.1
  obtain ⟨W, hW⟩ : ∃ W, W = dW D := ⟨_, rfl⟩
  rw [← hW] at h u
  unfold fX8_holds fX9_holds
  rw [q0_b hT]
  rcases rps W x with ⟨r, hr, h0, rfl⟩ | hx
  · right
    have hI := h.ri r
    obtain ⟨a1, a2, a3, a4⟩ := rHt_b hI
    have hk : rK (wRo W r) ≤ 7 := by show rN (wRo W r) - 1 ≤ 7; have := hI.1; omega
    have hs := hI.2.2.1
    refine ⟨nI 1, lN (rHt (wRo W r) / Nat.gcd (rHt (wRo W r)) (rHb (wRo W r))), lN (rHb (wRo W r) / Nat.gcd (rHt (wRo W r)) (rHb (wRo W r))), ?_, ?_⟩
    · simp (disch := omega) only [k_now hS, k_cv hS, k_tell hS, k_none hS, k_refuse hS, k_accept hS, k_tellIf0 hS, k_tellIf1 hS, n10, r_c u, r_wa u, r_bo u, r_si u, r_ra u, r_rb u, r_yr u, r_dr u, r_pe u, r_fl u, r_pa u, r_di u, r_fr u, r_to u, r_by u, e_callV u.k, q_refuse u.1, q_no u.1, n10, g_yr h, g_wa h, g_bo h, g_si h, g_ra h, g_rb h, g_dr h, g_pe h, g_fl h, g_apa h, g_adi h, g_aro h, g_afr h, g_ato h, g_aby h, g_afc h, g_pa h, g_di h, g_ro h, g_fr h, g_to h, g_by h, e_callV h.k, li_0, li_1, li_2, li_3, li_4, li_5, li_6, li_7, li_8, li_9, li_10, li_11, li_12, li_13, li_14, li_15, li_16, li_17, li_20, li_24, li_25, li_29, li_31, li_32, li_33, li_37, li_40, li_41, li_48, li_49, li_50, li_56, li_57, li_59, li_60, li_61, li_62, li_63, li_70, li_73, li_85, li_97, li_98, li_99, li_100, li_101, li_102, li_103, li_104, li_105, li_107, li_108, li_109, li_110, li_111, li_112, li_114, li_115, li_116, li_117, li_118, li_119, li_121, li_122, li_140, li_193, li_200, li_240, li_255, li_289, li_290, li_300, li_302, li_314, li_326, li_860, li_880, li_900, li_999, li_1024, li_2801, li_3440, li_3441, li_3442, li_3443, li_3444, li_3447, li_3448, li_3449, li_3457, li_3465, li_3469, li_3473, li_3477, li_3501, li_3513, li_3525, li_3537, li_3633, li_3730, li_3742, li_3754, li_3766, li_4095, li_4096, li_4300, li_9011, li_9999, li_10000, li_36864, li_65536, li_1000000, ll_0, ll_1, ll_100, ll_11, ll_16, ll_20, ll_3, ll_32, ll_50, ll_8, ll_96, ll_99, ll_9999, ne_m1, e_if, e_ret, e_rz0, e_rz1, e_rzb, e_call, bCallX_eq, nI_add, nI_mul, nI_succ1, le_i, lt_i, eq_i, m1_i, m1_le, m1_lt, m1_ge, m1_eq, ite_true, ite_false, if_true, if_false, Nat.zero_le, true_and, and_true, and_false, false_and, decide_true, decide_false, Bool.toNat_true, Bool.toNat_false, Nat.not_lt_zero, oI_g0, n10, x_in, l_i, sub_i, k_isRope hS h hr h0, e_callV (h.rs hr).1, t_holdsTop (h.rs hr) (h.rd hr) hI h0, t_holdsBottom (h.rs hr) (h.rd hr) hI h0, c_tellFraction hS]
    · simp (disch := omega) only [k_now hS, k_cv hS, k_tell hS, k_none hS, k_refuse hS, k_accept hS, k_tellIf0 hS, k_tellIf1 hS, n10, r_c u, r_wa u, r_bo u, r_si u, r_ra u, r_rb u, r_yr u, r_dr u, r_pe u, r_fl u, r_pa u, r_di u, r_fr u, r_to u, r_by u, e_callV u.k, q_refuse u.1, q_no u.1, n10, g_yr h, g_wa h, g_bo h, g_si h, g_ra h, g_rb h, g_dr h, g_pe h, g_fl h, g_apa h, g_adi h, g_aro h, g_afr h, g_ato h, g_aby h, g_afc h, g_pa h, g_di h, g_ro h, g_fr h, g_to h, g_by h, e_callV h.k, li_0, li_1, li_2, li_3, li_4, li_5, li_6, li_7, li_8, li_9, li_10, li_11, li_12, li_13, li_14, li_15, li_16, li_17, li_20, li_24, li_25, li_29, li_31, li_32, li_33, li_37, li_40, li_41, li_48, li_49, li_50, li_56, li_57, li_59, li_60, li_61, li_62, li_63, li_70, li_73, li_85, li_97, li_98, li_99, li_100, li_101, li_102, li_103, li_104, li_105, li_107, li_108, li_109, li_110, li_111, li_112, li_114, li_115, li_116, li_117, li_118, li_119, li_121, li_122, li_140, li_193, li_200, li_240, li_255, li_289, li_290, li_300, li_302, li_314, li_326, li_860, li_880, li_900, li_999, li_1024, li_2801, li_3440, li_3441, li_3442, li_3443, li_3444, li_3447, li_3448, li_3449, li_3457, li_3465, li_3469, li_3473, li_3477, li_3501, li_3513, li_3525, li_3537, li_3633, li_3730, li_3742, li_3754, li_3766, li_4095, li_4096, li_4300, li_9011, li_9999, li_10000, li_36864, li_65536, li_1000000, ll_0, ll_1, ll_100, ll_11, ll_16, ll_20, ll_3, ll_32, ll_50, ll_8, ll_96, ll_99, ll_9999, ne_m1, e_if, e_ret, e_rz0, e_rz1, e_rzb, e_call, bCallX_eq, nI_add, nI_mul, nI_succ1, le_i, lt_i, eq_i, m1_i, m1_le, m1_lt, m1_ge, m1_eq, ite_true, ite_false, if_true, if_false, Nat.zero_le, true_and, and_true, and_false, false_and, decide_true, decide_false, Bool.toNat_true, Bool.toNat_false, Nat.not_lt_zero, oI_g0, n10, x_in, l_i, sub_i, q_isRope u hr h0, r_sl u hr h0, x_knotsOfRope u hr h0, lN_sub, x_power]
      rw [x_fraction u.1 (show (16 - rS (wRo W r)) ^ rK (wRo W r) < 2147483648 by have : (16 - rS (wRo W r)) ^ rK (wRo W r) = rHt (wRo W r) := rfl; omega) (show (16 : Nat) ^ rK (wRo W r) < 2147483648 by have : (16 : Nat) ^ rK (wRo W r) = rHb (wRo W r) := rfl; omega) (show 0 < (16 : Nat) ^ rK (wRo W r) by have : (16 : Nat) ^ rK (wRo W r) = rHb (wRo W r) := rfl; omega)]
      rfl
  · left
    refine ⟨nI 0, 2, by decide, ?_, ?_⟩
    · simp (disch := omega) only [k_now hS, k_cv hS, k_tell hS, k_none hS, k_refuse hS, k_accept hS, k_tellIf0 hS, k_tellIf1 hS, n10, r_c u, r_wa u, r_bo u, r_si u, r_ra u, r_rb u, r_yr u, r_dr u, r_pe u, r_fl u, r_pa u, r_di u, r_fr u, r_to u, r_by u, e_callV u.k, q_refuse u.1, q_no u.1, n10, g_yr h, g_wa h, g_bo h, g_si h, g_ra h, g_rb h, g_dr h, g_pe h, g_fl h, g_apa h, g_adi h, g_aro h, g_afr h, g_ato h, g_aby h, g_afc h, g_pa h, g_di h, g_ro h, g_fr h, g_to h, g_by h, e_callV h.k, li_0, li_1, li_2, li_3, li_4, li_5, li_6, li_7, li_8, li_9, li_10, li_11, li_12, li_13, li_14, li_15, li_16, li_17, li_20, li_24, li_25, li_29, li_31, li_32, li_33, li_37, li_40, li_41, li_48, li_49, li_50, li_56, li_57, li_59, li_60, li_61, li_62, li_63, li_70, li_73, li_85, li_97, li_98, li_99, li_100, li_101, li_102, li_103, li_104, li_105, li_107, li_108, li_109, li_110, li_111, li_112, li_114, li_115, li_116, li_117, li_118, li_119, li_121, li_122, li_140, li_193, li_200, li_240, li_255, li_289, li_290, li_300, li_302, li_314, li_326, li_860, li_880, li_900, li_999, li_1024, li_2801, li_3440, li_3441, li_3442, li_3443, li_3444, li_3447, li_3448, li_3449, li_3457, li_3465, li_3469, li_3473, li_3477, li_3501, li_3513, li_3525, li_3537, li_3633, li_3730, li_3742, li_3754, li_3766, li_4095, li_4096, li_4300, li_9011, li_9999, li_10000, li_36864, li_65536, li_1000000, ll_0, ll_1, ll_100, ll_11, ll_16, ll_20, ll_3, ll_32, ll_50, ll_8, ll_96, ll_99, ll_9999, ne_m1, e_if, e_ret, e_rz0, e_rz1, e_rzb, e_call, bCallX_eq, nI_add, nI_mul, nI_succ1, le_i, lt_i, eq_i, m1_i, m1_le, m1_lt, m1_ge, m1_eq, ite_true, ite_false, if_true, if_false, Nat.zero_le, true_and, and_true, and_false, false_and, decide_true, decide_false, Bool.toNat_true, Bool.toNat_false, Nat.not_lt_zero, oI_g0, n10, x_in, l_i, sub_i, k_noRope hS h hx]
    · simp (disch := omega) only [k_now hS, k_cv hS, k_tell hS, k_none hS, k_refuse hS, k_accept hS, k_tellIf0 hS, k_tellIf1 hS, n10, r_c u, r_wa u, r_bo u, r_si u, r_ra u, r_rb u, r_yr u, r_dr u, r_pe u, r_fl u, r_pa u, r_di u, r_fr u, r_to u, r_by u, e_callV u.k, q_refuse u.1, q_no u.1, n10, g_yr h, g_wa h, g_bo h, g_si h, g_ra h, g_rb h, g_dr h, g_pe h, g_fl h, g_apa h, g_adi h, g_aro h, g_afr h, g_ato h, g_aby h, g_afc h, g_pa h, g_di h, g_ro h, g_fr h, g_to h, g_by h, e_callV h.k, li_0, li_1, li_2, li_3, li_4, li_5, li_6, li_7, li_8, li_9, li_10, li_11, li_12, li_13, li_14, li_15, li_16, li_17, li_20, li_24, li_25, li_29, li_31, li_32, li_33, li_37, li_40, li_41, li_48, li_49, li_50, li_56, li_57, li_59, li_60, li_61, li_62, li_63, li_70, li_73, li_85, li_97, li_98, li_99, li_100, li_101, li_102, li_103, li_104, li_105, li_107, li_108, li_109, li_110, li_111, li_112, li_114, li_115, li_116, li_117, li_118, li_119, li_121, li_122, li_140, li_193, li_200, li_240, li_255, li_289, li_290, li_300, li_302, li_314, li_326, li_860, li_880, li_900, li_999, li_1024, li_2801, li_3440, li_3441, li_3442, li_3443, li_3444, li_3447, li_3448, li_3449, li_3457, li_3465, li_3469, li_3473, li_3477, li_3501, li_3513, li_3525, li_3537, li_3633, li_3730, li_3742, li_3754, li_3766, li_4095, li_4096, li_4300, li_9011, li_9999, li_10000, li_36864, li_65536, li_1000000, ll_0, ll_1, ll_100, ll_11, ll_16, ll_20, ll_3, ll_32, ll_50, ll_8, ll_96, ll_99, ll_9999, ne_m1, e_if, e_ret, e_rz0, e_rz1, e_rzb, e_call, bCallX_eq, nI_add, nI_mul, nI_succ1, le_i, lt_i, eq_i, m1_i, m1_le, m1_lt, m1_ge, m1_eq, ite_true, ite_false, if_true, if_false, Nat.zero_le, true_and, and_true, and_false, false_and, decide_true, decide_false, Bool.toNat_true, Bool.toNat_false, Nat.not_lt_zero, oI_g0, n10, x_in, l_i, sub_i, q_noRope u hx]
theorem wAy_le {W : wW} (hW : wOk W) : wAy W ≤ 19200 := sum_le _ 1600 (fun r n => by
  have := (rL_b (hW.2.2.2.2.2.2.2.2.2.2.2.2.1 r)).2
  omega) 12
theorem s_share (x : Int32) : Sim (fX8_share 1 x) (fX9_share 113 x) := by
  refine Sim.fr fun s t D hC hR hD => ?_
  have hS := hC.1
  have h : CW s 4 (dW D) := hC.2.2.2.2.1
  have u : RX (q0 t) (dW D) := (hR.q0 hD).1
  have hT := hR.1.1
  obtain ⟨W, hW⟩ : ∃ W, W = dW D := ⟨_, rfl⟩
  rw [← hW] at h u
  have i8 := h.wi.2.2.2.2.2.2.2.1
  have ya := wAy_le h.wi
  unfold fX8_share fX9_share
  rw [q0_b hT]
  rcases prs W x with ⟨p, hp, rfl⟩ | hx
  · have hr : fX9_share_28 fu 113 (nI p) (nI 0) (nI 0) (q0 t) = fX9_share_60 113 (nI p) (nI (wAy W)) (q0 t) := by
      refine loop_n (fun n k => fX9_share_28 n 113 (nI p) (nI (it (fun r n => n + rL (wRo W r)) 0 k)) (nI k) (q0 t)) _ 12 ?_ ?_ fu 0 (by omega) (by unfold fu; omega)
      · intro n k hk
        have hk' : ¬ 12 ≤ k := by omega
        show fX9_share_28 (n + 1) 113 _ _ _ (q0 t) = _
        rw [qX9_share_28, it_s]
        unfold fX9_share_52
        simp (disch := omega) only [r_c u, r_wa u, r_bo u, r_si u, r_ra u, r_rb u, r_yr u, r_dr u, r_pe u, r_fl u, r_pa u, r_di u, r_fr u, r_to u, r_by u, e_callV u.k, q_refuse u.1, q_no u.1, n10, x_isRope u hk, x_yardsOfRope u hk, li_0, li_1, li_2, li_3, li_4, li_5, li_6, li_7, li_8, li_9, li_10, li_11, li_12, li_13, li_14, li_15, li_16, li_17, li_20, li_24, li_25, li_29, li_31, li_32, li_33, li_37, li_40, li_41, li_48, li_49, li_50, li_56, li_57, li_59, li_60, li_61, li_62, li_63, li_70, li_73, li_85, li_97, li_98, li_99, li_100, li_101, li_102, li_103, li_104, li_105, li_107, li_108, li_109, li_110, li_111, li_112, li_114, li_115, li_116, li_117, li_118, li_119, li_121, li_122, li_140, li_193, li_200, li_240, li_255, li_289, li_290, li_300, li_302, li_314, li_326, li_860, li_880, li_900, li_999, li_1024, li_2801, li_3440, li_3441, li_3442, li_3443, li_3444, li_3447, li_3448, li_3449, li_3457, li_3465, li_3469, li_3473, li_3477, li_3501, li_3513, li_3525, li_3537, li_3633, li_3730, li_3742, li_3754, li_3766, li_4095, li_4096, li_4300, li_9011, li_9999, li_10000, li_36864, li_65536, li_1000000, ll_0, ll_1, ll_100, ll_11, ll_16, ll_20, ll_3, ll_32, ll_50, ll_8, ll_96, ll_99, ll_9999, ne_m1, e_if, e_ret, e_rz0, e_rz1, e_rzb, e_call, bCallX_eq, nI_add, nI_mul, nI_succ1, le_i, lt_i, eq_i, m1_i, m1_le, m1_lt, m1_ge, m1_eq, ite_true, ite_false, if_true, if_false, hk', bt0]
        cases h4 : rT (wRo W k) with
        | true => simp (disch := omega) only [Bool.true_eq_false, if_false]
        | false =>
          have : rL (wRo W k) = 0 := by
            rw [(h.ri k).2.2.2.2.2 (by unfold rT at h4; simpa using h4)]
            rfl
          simp (disch := omega) only [if_true, this]
      · intro n
        show fX9_share_28 (n + 1) 113 _ _ _ (q0 t) = _
        rw [qX9_share_28]
        simp (disch := omega) only [li_0, li_1, li_2, li_3, li_4, li_5, li_6, li_7, li_8, li_9, li_10, li_11, li_12, li_13, li_14, li_15, li_16, li_17, li_20, li_24, li_25, li_29, li_31, li_32, li_33, li_37, li_40, li_41, li_48, li_49, li_50, li_56, li_57, li_59, li_60, li_61, li_62, li_63, li_70, li_73, li_85, li_97, li_98, li_99, li_100, li_101, li_102, li_103, li_104, li_105, li_107, li_108, li_109, li_110, li_111, li_112, li_114, li_115, li_116, li_117, li_118, li_119, li_121, li_122, li_140, li_193, li_200, li_240, li_255, li_289, li_290, li_300, li_302, li_314, li_326, li_860, li_880, li_900, li_999, li_1024, li_2801, li_3440, li_3441, li_3442, li_3443, li_3444, li_3447, li_3448, li_3449, li_3457, li_3465, li_3469, li_3473, li_3477, li_3501, li_3513, li_3525, li_3537, li_3633, li_3730, li_3742, li_3754, li_3766, li_4095, li_4096, li_4300, li_9011, li_9999, li_10000, li_36864, li_65536, li_1000000, ll_0, ll_1, ll_100, ll_11, ll_16, ll_20, ll_3, ll_32, ll_50, ll_8, ll_96, ll_99, ll_9999, ne_m1, e_if, e_ret, e_rz0, e_rz1, e_rzb, e_call, bCallX_eq, nI_add, nI_mul, nI_succ1, le_i, lt_i, eq_i, m1_i, m1_le, m1_lt, m1_ge, m1_eq, ite_true, ite_false, if_true, if_false, Nat.le_refl]
        rfl
    have ow : wOy W p ≤ 1600 * 12 := wY_le h.wi (fun r => rT (wRo W r) && decide (rO (wRo W r) = some p)) 12
    by_cases h0 : wAy W = 0
    · left
      refine ⟨nI 0, 8, by decide, ?_, ?_⟩
      · simp (disch := omega) only [k_now hS, k_cv hS, k_tell hS, k_none hS, k_refuse hS, k_accept hS, k_tellIf0 hS, k_tellIf1 hS, n10, r_c u, r_wa u, r_bo u, r_si u, r_ra u, r_rb u, r_yr u, r_dr u, r_pe u, r_fl u, r_pa u, r_di u, r_fr u, r_to u, r_by u, e_callV u.k, q_refuse u.1, q_no u.1, n10, g_yr h, g_wa h, g_bo h, g_si h, g_ra h, g_rb h, g_dr h, g_pe h, g_fl h, g_apa h, g_adi h, g_aro h, g_afr h, g_ato h, g_aby h, g_afc h, g_pa h, g_di h, g_ro h, g_fr h, g_to h, g_by h, e_callV h.k, li_0, li_1, li_2, li_3, li_4, li_5, li_6, li_7, li_8, li_9, li_10, li_11, li_12, li_13, li_14, li_15, li_16, li_17, li_20, li_24, li_25, li_29, li_31, li_32, li_33, li_37, li_40, li_41, li_48, li_49, li_50, li_56, li_57, li_59, li_60, li_61, li_62, li_63, li_70, li_73, li_85, li_97, li_98, li_99, li_100, li_101, li_102, li_103, li_104, li_105, li_107, li_108, li_109, li_110, li_111, li_112, li_114, li_115, li_116, li_117, li_118, li_119, li_121, li_122, li_140, li_193, li_200, li_240, li_255, li_289, li_290, li_300, li_302, li_314, li_326, li_860, li_880, li_900, li_999, li_1024, li_2801, li_3440, li_3441, li_3442, li_3443, li_3444, li_3447, li_3448, li_3449, li_3457, li_3465, li_3469, li_3473, li_3477, li_3501, li_3513, li_3525, li_3537, li_3633, li_3730, li_3742, li_3754, li_3766, li_4095, li_4096, li_4300, li_9011, li_9999, li_10000, li_36864, li_65536, li_1000000, ll_0, ll_1, ll_100, ll_11, ll_16, ll_20, ll_3, ll_32, ll_50, ll_8, ll_96, ll_99, ll_9999, ne_m1, e_if, e_ret, e_rz0, e_rz1, e_rzb, e_call, bCallX_eq, nI_add, nI_mul, nI_succ1, le_i, lt_i, eq_i, m1_i, m1_le, m1_lt, m1_ge, m1_eq, ite_true, ite_false, if_true, if_false, Nat.zero_le, true_and, and_true, and_false, false_and, decide_true, decide_false, Bool.toNat_true, Bool.toNat_false, Nat.not_lt_zero, oI_g0, n10, x_in, l_i, sub_i, k_isPerson hS h hp, c_allYards h, h0]
      · simp (disch := omega) only [k_now hS, k_cv hS, k_tell hS, k_none hS, k_refuse hS, k_accept hS, k_tellIf0 hS, k_tellIf1 hS, n10, r_c u, r_wa u, r_bo u, r_si u, r_ra u, r_rb u, r_yr u, r_dr u, r_pe u, r_fl u, r_pa u, r_di u, r_fr u, r_to u, r_by u, e_callV u.k, q_refuse u.1, q_no u.1, n10, g_yr h, g_wa h, g_bo h, g_si h, g_ra h, g_rb h, g_dr h, g_pe h, g_fl h, g_apa h, g_adi h, g_aro h, g_afr h, g_ato h, g_aby h, g_afc h, g_pa h, g_di h, g_ro h, g_fr h, g_to h, g_by h, e_callV h.k, li_0, li_1, li_2, li_3, li_4, li_5, li_6, li_7, li_8, li_9, li_10, li_11, li_12, li_13, li_14, li_15, li_16, li_17, li_20, li_24, li_25, li_29, li_31, li_32, li_33, li_37, li_40, li_41, li_48, li_49, li_50, li_56, li_57, li_59, li_60, li_61, li_62, li_63, li_70, li_73, li_85, li_97, li_98, li_99, li_100, li_101, li_102, li_103, li_104, li_105, li_107, li_108, li_109, li_110, li_111, li_112, li_114, li_115, li_116, li_117, li_118, li_119, li_121, li_122, li_140, li_193, li_200, li_240, li_255, li_289, li_290, li_300, li_302, li_314, li_326, li_860, li_880, li_900, li_999, li_1024, li_2801, li_3440, li_3441, li_3442, li_3443, li_3444, li_3447, li_3448, li_3449, li_3457, li_3465, li_3469, li_3473, li_3477, li_3501, li_3513, li_3525, li_3537, li_3633, li_3730, li_3742, li_3754, li_3766, li_4095, li_4096, li_4300, li_9011, li_9999, li_10000, li_36864, li_65536, li_1000000, ll_0, ll_1, ll_100, ll_11, ll_16, ll_20, ll_3, ll_32, ll_50, ll_8, ll_96, ll_99, ll_9999, ne_m1, e_if, e_ret, e_rz0, e_rz1, e_rzb, e_call, bCallX_eq, nI_add, nI_mul, nI_succ1, le_i, lt_i, eq_i, m1_i, m1_le, m1_lt, m1_ge, m1_eq, ite_true, ite_false, if_true, if_false, Nat.zero_le, true_and, and_true, and_false, false_and, decide_true, decide_false, Bool.toNat_true, Bool.toNat_false, Nat.not_lt_zero, oI_g0, n10, x_in, l_i, sub_i, q_isPerson u hp]
        rw [hr]
        unfold fX9_share_60
        simp (disch := omega) only [k_now hS, k_cv hS, k_tell hS, k_none hS, k_refuse hS, k_accept hS, k_tellIf0 hS, k_tellIf1 hS, n10, r_c u, r_wa u, r_bo u, r_si u, r_ra u, r_rb u, r_yr u, r_dr u, r_pe u, r_fl u, r_pa u, r_di u, r_fr u, r_to u, r_by u, e_callV u.k, q_refuse u.1, q_no u.1, n10, g_yr h, g_wa h, g_bo h, g_si h, g_ra h, g_rb h, g_dr h, g_pe h, g_fl h, g_apa h, g_adi h, g_aro h, g_afr h, g_ato h, g_aby h, g_afc h, g_pa h, g_di h, g_ro h, g_fr h, g_to h, g_by h, e_callV h.k, li_0, li_1, li_2, li_3, li_4, li_5, li_6, li_7, li_8, li_9, li_10, li_11, li_12, li_13, li_14, li_15, li_16, li_17, li_20, li_24, li_25, li_29, li_31, li_32, li_33, li_37, li_40, li_41, li_48, li_49, li_50, li_56, li_57, li_59, li_60, li_61, li_62, li_63, li_70, li_73, li_85, li_97, li_98, li_99, li_100, li_101, li_102, li_103, li_104, li_105, li_107, li_108, li_109, li_110, li_111, li_112, li_114, li_115, li_116, li_117, li_118, li_119, li_121, li_122, li_140, li_193, li_200, li_240, li_255, li_289, li_290, li_300, li_302, li_314, li_326, li_860, li_880, li_900, li_999, li_1024, li_2801, li_3440, li_3441, li_3442, li_3443, li_3444, li_3447, li_3448, li_3449, li_3457, li_3465, li_3469, li_3473, li_3477, li_3501, li_3513, li_3525, li_3537, li_3633, li_3730, li_3742, li_3754, li_3766, li_4095, li_4096, li_4300, li_9011, li_9999, li_10000, li_36864, li_65536, li_1000000, ll_0, ll_1, ll_100, ll_11, ll_16, ll_20, ll_3, ll_32, ll_50, ll_8, ll_96, ll_99, ll_9999, ne_m1, e_if, e_ret, e_rz0, e_rz1, e_rzb, e_call, bCallX_eq, nI_add, nI_mul, nI_succ1, le_i, lt_i, eq_i, m1_i, m1_le, m1_lt, m1_ge, m1_eq, ite_true, ite_false, if_true, if_false, Nat.zero_le, true_and, and_true, and_false, false_and, decide_true, decide_false, Bool.toNat_true, Bool.toNat_false, Nat.not_lt_zero, oI_g0, n10, x_in, l_i, sub_i, h0]
    · right
      refine ⟨nI 1, lN (wOy W p / Nat.gcd (wOy W p) (wAy W)), lN (wAy W / Nat.gcd (wOy W p) (wAy W)), ?_, ?_⟩
      · simp (disch := omega) only [k_now hS, k_cv hS, k_tell hS, k_none hS, k_refuse hS, k_accept hS, k_tellIf0 hS, k_tellIf1 hS, n10, r_c u, r_wa u, r_bo u, r_si u, r_ra u, r_rb u, r_yr u, r_dr u, r_pe u, r_fl u, r_pa u, r_di u, r_fr u, r_to u, r_by u, e_callV u.k, q_refuse u.1, q_no u.1, n10, g_yr h, g_wa h, g_bo h, g_si h, g_ra h, g_rb h, g_dr h, g_pe h, g_fl h, g_apa h, g_adi h, g_aro h, g_afr h, g_ato h, g_aby h, g_afc h, g_pa h, g_di h, g_ro h, g_fr h, g_to h, g_by h, e_callV h.k, li_0, li_1, li_2, li_3, li_4, li_5, li_6, li_7, li_8, li_9, li_10, li_11, li_12, li_13, li_14, li_15, li_16, li_17, li_20, li_24, li_25, li_29, li_31, li_32, li_33, li_37, li_40, li_41, li_48, li_49, li_50, li_56, li_57, li_59, li_60, li_61, li_62, li_63, li_70, li_73, li_85, li_97, li_98, li_99, li_100, li_101, li_102, li_103, li_104, li_105, li_107, li_108, li_109, li_110, li_111, li_112, li_114, li_115, li_116, li_117, li_118, li_119, li_121, li_122, li_140, li_193, li_200, li_240, li_255, li_289, li_290, li_300, li_302, li_314, li_326, li_860, li_880, li_900, li_999, li_1024, li_2801, li_3440, li_3441, li_3442, li_3443, li_3444, li_3447, li_3448, li_3449, li_3457, li_3465, li_3469, li_3473, li_3477, li_3501, li_3513, li_3525, li_3537, li_3633, li_3730, li_3742, li_3754, li_3766, li_4095, li_4096, li_4300, li_9011, li_9999, li_10000, li_36864, li_65536, li_1000000, ll_0, ll_1, ll_100, ll_11, ll_16, ll_20, ll_3, ll_32, ll_50, ll_8, ll_96, ll_99, ll_9999, ne_m1, e_if, e_ret, e_rz0, e_rz1, e_rzb, e_call, bCallX_eq, nI_add, nI_mul, nI_succ1, le_i, lt_i, eq_i, m1_i, m1_le, m1_lt, m1_ge, m1_eq, ite_true, ite_false, if_true, if_false, Nat.zero_le, true_and, and_true, and_false, false_and, decide_true, decide_false, Bool.toNat_true, Bool.toNat_false, Nat.not_lt_zero, oI_g0, n10, x_in, l_i, sub_i, k_isPerson hS h hp, c_allYards h, c_ownYards h (show p < 8 by omega), h0, c_tellFraction hS]
      · simp (disch := omega) only [k_now hS, k_cv hS, k_tell hS, k_none hS, k_refuse hS, k_accept hS, k_tellIf0 hS, k_tellIf1 hS, n10, r_c u, r_wa u, r_bo u, r_si u, r_ra u, r_rb u, r_yr u, r_dr u, r_pe u, r_fl u, r_pa u, r_di u, r_fr u, r_to u, r_by u, e_callV u.k, q_refuse u.1, q_no u.1, n10, g_yr h, g_wa h, g_bo h, g_si h, g_ra h, g_rb h, g_dr h, g_pe h, g_fl h, g_apa h, g_adi h, g_aro h, g_afr h, g_ato h, g_aby h, g_afc h, g_pa h, g_di h, g_ro h, g_fr h, g_to h, g_by h, e_callV h.k, li_0, li_1, li_2, li_3, li_4, li_5, li_6, li_7, li_8, li_9, li_10, li_11, li_12, li_13, li_14, li_15, li_16, li_17, li_20, li_24, li_25, li_29, li_31, li_32, li_33, li_37, li_40, li_41, li_48, li_49, li_50, li_56, li_57, li_59, li_60, li_61, li_62, li_63, li_70, li_73, li_85, li_97, li_98, li_99, li_100, li_101, li_102, li_103, li_104, li_105, li_107, li_108, li_109, li_110, li_111, li_112, li_114, li_115, li_116, li_117, li_118, li_119, li_121, li_122, li_140, li_193, li_200, li_240, li_255, li_289, li_290, li_300, li_302, li_314, li_326, li_860, li_880, li_900, li_999, li_1024, li_2801, li_3440, li_3441, li_3442, li_3443, li_3444, li_3447, li_3448, li_3449, li_3457, li_3465, li_3469, li_3473, li_3477, li_3501, li_3513, li_3525, li_3537, li_3633, li_3730, li_3742, li_3754, li_3766, li_4095, li_4096, li_4300, li_9011, li_9999, li_10000, li_36864, li_65536, li_1000000, ll_0, ll_1, ll_100, ll_11, ll_16, ll_20, ll_3, ll_32, ll_50, ll_8, ll_96, ll_99, ll_9999, ne_m1, e_if, e_ret, e_rz0, e_rz1, e_rzb, e_call, bCallX_eq, nI_add, nI_mul, nI_succ1, le_i, lt_i, eq_i, m1_i, m1_le, m1_lt, m1_ge, m1_eq, ite_true, ite_false, if_true, if_false, Nat.zero_le, true_and, and_true, and_false, false_and, decide_true, decide_false, Bool.toNat_true, Bool.toNat_false, Nat.not_lt_zero, oI_g0, n10, x_in, l_i, sub_i, q_isPerson u hp]
        rw [hr]
        unfold fX9_share_60
        simp (disch := omega) only [k_now hS, k_cv hS, k_tell hS, k_none hS, k_refuse hS, k_accept hS, k_tellIf0 hS, k_tellIf1 hS, n10, r_c u, r_wa u, r_bo u, r_si u, r_ra u, r_rb u, r_yr u, r_dr u, r_pe u, r_fl u, r_pa u, r_di u, r_fr u, r_to u, r_by u, e_callV u.k, q_refuse u.1, q_no u.1, n10, g_yr h, g_wa h, g_bo h, g_si h, g_ra h, g_rb h, g_dr h, g_pe h, g_fl h, g_apa h, g_adi h, g_aro h, g_afr h, g_ato h, g_aby h, g_afc h, g_pa h, g_di h, g_ro h, g_fr h, g_to h, g_by h, e_callV h.k, li_0, li_1, li_2, li_3, li_4, li_5, li_6, li_7, li_8, li_9, li_10, li_11, li_12, li_13, li_14, li_15, li_16, li_17, li_20, li_24, li_25, li_29, li_31, li_32, li_33, li_37, li_40, li_41, li_48, li_49, li_50, li_56, li_57, li_59, li_60, li_61, li_62, li_63, li_70, li_73, li_85, li_97, li_98, li_99, li_100, li_101, li_102, li_103, li_104, li_105, li_107, li_108, li_109, li_110, li_111, li_112, li_114, li_115, li_116, li_117, li_118, li_119, li_121, li_122, li_140, li_193, li_200, li_240, li_255, li_289, li_290, li_300, li_302, li_314, li_326, li_860, li_880, li_900, li_999, li_1024, li_2801, li_3440, li_3441, li_3442, li_3443, li_3444, li_3447, li_3448, li_3449, li_3457, li_3465, li_3469, li_3473, li_3477, li_3501, li_3513, li_3525, li_3537, li_3633, li_3730, li_3742, li_3754, li_3766, li_4095, li_4096, li_4300, li_9011, li_9999, li_10000, li_36864, li_65536, li_1000000, ll_0, ll_1, ll_100, ll_11, ll_16, ll_20, ll_3, ll_32, ll_50, ll_8, ll_96, ll_99, ll_9999, ne_m1, e_if, e_ret, e_rz0, e_rz1, e_rzb, e_call, bCallX_eq, nI_add, nI_mul, nI_succ1, le_i, lt_i, eq_i, m1_i, m1_le, m1_lt, m1_ge, m1_eq, ite_true, ite_false, if_true, if_false, Nat.zero_le, true_and, and_true, and_false, false_and, decide_true, decide_false, Bool.toNat_true, Bool.toNat_false, Nat.not_lt_zero, oI_g0, n10, x_in, l_i, sub_i, h0, x_yardsOwn u (show p < 8 by omega), x_fraction u.1]
  · left
    refine ⟨nI 0, 2, by decide, ?_, ?_⟩
    · simp (disch := omega) only [k_now hS, k_cv hS, k_tell hS, k_none hS, k_refuse hS, k_accept hS, k_tellIf0 hS, k_tellIf1 hS, n10, r_c u, r_wa u, r_bo u, r_si u, r_ra u, r_rb u, r_yr u, r_dr u, r_pe u, r_fl u, r_pa u, r_di u, r_fr u, r_to u, r_by u, e_callV u.k, q_refuse u.1, q_no u.1, n10, g_yr h, g_wa h, g_bo h, g_si h, g_ra h, g_rb h, g_dr h, g_pe h, g_fl h, g_apa h, g_adi h, g_aro h, g_afr h, g_ato h, g_aby h, g_afc h, g_pa h, g_di h, g_ro h, g_fr h, g_to h, g_by h, e_callV h.k, li_0, li_1, li_2, li_3, li_4, li_5, li_6, li_7, li_8, li_9, li_10, li_11, li_12, li_13, li_14, li_15, li_16, li_17, li_20, li_24, li_25, li_29, li_31, li_32, li_33, li_37, li_40, li_41, li_48, li_49, li_50, li_56, li_57, li_59, li_60, li_61, li_62, li_63, li_70, li_73, li_85, li_97, li_98, li_99, li_100, li_101, li_102, li_103, li_104, li_105, li_107, li_108, li_109, li_110, li_111, li_112, li_114, li_115, li_116, li_117, li_118, li_119, li_121, li_122, li_140, li_193, li_200, li_240, li_255, li_289, li_290, li_300, li_302, li_314, li_326, li_860, li_880, li_900, li_999, li_1024, li_2801, li_3440, li_3441, li_3442, li_3443, li_3444, li_3447, li_3448, li_3449, li_3457, li_3465, li_3469, li_3473, li_3477, li_3501, li_3513, li_3525, li_3537, li_3633, li_3730, li_3742, li_3754, li_3766, li_4095, li_4096, li_4300, li_9011, li_9999, li_10000, li_36864, li_65536, li_1000000, ll_0, ll_1, ll_100, ll_11, ll_16, ll_20, ll_3, ll_32, ll_50, ll_8, ll_96, ll_99, ll_9999, ne_m1, e_if, e_ret, e_rz0, e_rz1, e_rzb, e_call, bCallX_eq, nI_add, nI_mul, nI_succ1, le_i, lt_i, eq_i, m1_i, m1_le, m1_lt, m1_ge, m1_eq, ite_true, ite_false, if_true, if_false, Nat.zero_le, true_and, and_true, and_false, false_and, decide_true, decide_false, Bool.toNat_true, Bool.toNat_false, Nat.not_lt_zero, oI_g0, n10, x_in, l_i, sub_i, k_noPerson hS h hx]
    · simp (disch := omega) only [k_now hS, k_cv hS, k_tell hS, k_none hS, k_refuse hS, k_accept hS, k_tellIf0 hS, k_tellIf1 hS, n10, r_c u, r_wa u, r_bo u, r_si u, r_ra u, r_rb u, r_yr u, r_dr u, r_pe u, r_fl u, r_pa u, r_di u, r_fr u, r_to u, r_by u, e_callV u.k, q_refuse u.1, q_no u.1, n10, g_yr h, g_wa h, g_bo h, g_si h, g_ra h, g_rb h, g_dr h, g_pe h, g_fl h, g_apa h, g_adi h, g_aro h, g_afr h, g_ato h, g_aby h, g_afc h, g_pa h, g_di h, g_ro h, g_fr h, g_to h, g_by h, e_callV h.k, li_0, li_1, li_2, li_3, li_4, li_5, li_6, li_7, li_8, li_9, li_10, li_11, li_12, li_13, li_14, li_15, li_16, li_17, li_20, li_24, li_25, li_29, li_31, li_32, li_33, li_37, li_40, li_41, li_48, li_49, li_50, li_56, li_57, li_59, li_60, li_61, li_62, li_63, li_70, li_73, li_85, li_97, li_98, li_99, li_100, li_101, li_102, li_103, li_104, li_105, li_107, li_108, li_109, li_110, li_111, li_112, li_114, li_115, li_116, li_117, li_118, li_119, li_121, li_122, li_140, li_193, li_200, li_240, li_255, li_289, li_290, li_300, li_302, li_314, li_326, li_860, li_880, li_900, li_999, li_1024, li_2801, li_3440, li_3441, li_3442, li_3443, li_3444, li_3447, li_3448, li_3449, li_3457, li_3465, li_3469, li_3473, li_3477, li_3501, li_3513, li_3525, li_3537, li_3633, li_3730, li_3742, li_3754, li_3766, li_4095, li_4096, li_4300, li_9011, li_9999, li_10000, li_36864, li_65536, li_1000000, ll_0, ll_1, ll_100, ll_11, ll_16, ll_20, ll_3, ll_32, ll_50, ll_8, ll_96, ll_99, ll_9999, ne_m1, e_if, e_ret, e_rz0, e_rz1, e_rzb, e_call, bCallX_eq, nI_add, nI_mul, nI_succ1, le_i, lt_i, eq_i, m1_i, m1_le, m1_lt, m1_ge, m1_eq, ite_true, ite_false, if_true, if_false, Nat.zero_le, true_and, and_true, and_false, false_and, decide_true, decide_false, Bool.toNat_true, Bool.toNat_false, Nat.not_lt_zero, oI_g0, n10, x_in, l_i, sub_i, q_noPerson u hx]

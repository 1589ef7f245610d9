/-! CALLS: how a call of both sides is compared -/
theorem n10 : ((1 : Nat) = 0) = False := by simp
theorem oI_g0 : (nI 0 ≤ oI none) = False := eq_false (by decide)
theorem arg (x : Int32) : x < 0 ∨ ∃ n, n < 2147483648 ∧ x = nI n := by
  rcases Classical.em (x < 0) with h | h
  · exact Or.inl h
  · obtain ⟨j, h1, h2⟩ := nI_of h
    exact Or.inr ⟨j, by omega, h2⟩
theorem bSw_no (x : Int32) {α : Type} (dm : mM α) (s : mS) : ∀ (l : List (Nat × mM α)) (k : Nat), (∀ j, j < l.length → x ≠ nI (k + j)) → bSw x k l dm s = dm s
  | [], _, _ => rfl
  | q :: l, k, h => by
    rw [e_swc, if_neg (show ¬ x = nI k from h 0 (by show 0 < l.length + 1; omega))]
    refine bSw_no x dm s l (k + 1) fun j hj => ?_
    rw [show k + 1 + j = k + (j + 1) by omega]
    exact h (j + 1) (by show j + 1 < l.length + 1; omega)
theorem sw_c (x : Int32) (n : Nat) : (∃ k, k < n ∧ x = nI k) ∨ ∀ k, k < n → x ≠ nI k := by
  rcases Classical.em (∃ k, k < n ∧ x = nI k) with h | h
  · exact Or.inl h
  · exact Or.inr fun k hk e => h ⟨k, hk, e⟩
section K8
variable {w : mS} {α : Type}
theorem k_cv (h : CS w) {β : Type} {F : mM β} {k : β → mM α} : bCallV 8 1 F k w = bCall F k w := e_callV h.1.1
theorem k_gi (h : CS w) {j : Nat} {f : Int32 → mM α} : bGI 8 1 j f w = f (sI w 1 j) w := xGI h.1.1
theorem k_gl (h : CS w) {j : Nat} {f : Int64 → mM α} : bGL 8 1 j f w = f (sL w 1 j) w := xGL h.1.1
theorem k_pi (h : CS w) {j : Nat} {x : Int32} {m : mM α} : bPI 8 1 j x m w = m (wI w 1 j x) := xPI h.1.1
theorem k_pl (h : CS w) {j : Nat} {x : Int64} {m : mM α} : bPL 8 1 j x m w = m (wL w 1 j x) := xPL h.1.1
theorem k_trays (h : CS w) {f : Nat → mM α} : bGR 8 1 0 f w = f 2 w := xGR h.1.1 h.1.2.1
theorem k_tape (h : CS w) {f : Nat → mM α} : bGR 8 1 1 f w = f 3 w := xGR h.1.1 h.1.2.2.1
theorem k_now (h : CS w) {f : Nat → mM α} : bGR 8 1 3 f w = f 4 w := xGR h.1.1 h.1.2.2.2.1
theorem k_then (h : CS w) {f : Nat → mM α} : bGR 8 1 4 f w = f 48 w := xGR h.1.1 h.1.2.2.2.2.1
theorem k_marks (h : CS w) {f : Nat → mM α} : bGR 8 1 5 f w = f 92 w := xGR h.1.1 h.1.2.2.2.2.2.1
theorem k_wr (h : CS w) {f : Nat → mM α} : bGR 8 1 7 f w = f 107 w := xGR h.1.1 h.1.2.2.2.2.2.2.1
theorem k_lr (h : CS w) {f : Nat → mM α} : bGR 8 1 8 f w = f 111 w := xGR h.1.1 h.1.2.2.2.2.2.2.2.1
theorem k_pl9 (h : CS w) {f : Nat → mM α} : bGR 8 1 9 f w = f 93 w := xGR h.1.1 h.1.2.2.2.2.2.2.2.2.1
theorem k_min (h : CS w) {f : Nat → mM α} : bGR 8 1 10 f w = f 97 w := xGR h.1.1 h.1.2.2.2.2.2.2.2.2.2
theorem k_tell (h : CS w) (x : Int32) : fX8_tell 1 x w = some (x, wI w 1 11 (nI 0)) := by
  unfold fX8_tell
  rw [k_pi h]
  rfl
theorem k_none (h : CS w) (k : Nat) : fX8_none 1 (nI k) w = some (mI, wI w 1 11 (nI k)) := by
  unfold fX8_none
  rw [k_pi h]
  rfl
theorem k_refuse (h : CS w) (k : Nat) : fX8_refuse 1 (nI k) w = some (nI 0, wI w 1 11 (nI k)) := by
  unfold fX8_refuse
  rw [k_pi h]
  rfl
theorem k_accept (h : CS w) : fX8_accept 1 w = some (nI 1, wI w 1 11 (nI 0)) := by
  unfold fX8_accept
  rw [k_pi h]
  rfl
theorem k_tellIf (h : CS w) (b : Bool) (x : Int32) : fX8_tellIf 1 (nI b.toNat) x w = some (if b then x else mI, wI w 1 11 (nI (if b then 0 else 8))) := by
  unfold fX8_tellIf
  cases b with
  | true => simp (disch := omega) only [li_0, li_1, li_2, li_3, li_4, li_5, li_6, li_7, li_8, li_9, li_10, li_11, li_12, li_13, li_14, li_15, li_16, li_17, li_20, li_24, li_25, li_29, li_31, li_32, li_33, li_37, li_40, li_41, li_48, li_49, li_50, li_56, li_57, li_59, li_60, li_61, li_62, li_63, li_70, li_73, li_85, li_97, li_98, li_99, li_100, li_101, li_102, li_103, li_104, li_105, li_107, li_108, li_109, li_110, li_111, li_112, li_114, li_115, li_116, li_117, li_118, li_119, li_121, li_122, li_140, li_193, li_200, li_240, li_255, li_289, li_290, li_300, li_302, li_314, li_326, li_860, li_880, li_900, li_999, li_1024, li_2801, li_3440, li_3441, li_3442, li_3443, li_3444, li_3447, li_3448, li_3449, li_3457, li_3465, li_3469, li_3473, li_3477, li_3501, li_3513, li_3525, li_3537, li_3633, li_3730, li_3742, li_3754, li_3766, li_4095, li_4096, li_4300, li_9011, li_9999, li_10000, li_36864, li_65536, li_1000000, ll_0, ll_1, ll_100, ll_11, ll_16, ll_20, ll_3, ll_32, ll_50, ll_8, ll_96, ll_99, ll_9999, ne_m1, e_if, e_ret, e_rz0, e_rz1, e_rzb, e_call, bCallX_eq, nI_add, nI_mul, nI_succ1, le_i, lt_i, eq_i, m1_i, m1_le, m1_lt, m1_ge, m1_eq, ite_true, ite_false, if_true, if_false, bt0, k_cv h, k_tell h, Bool.true_eq_false]
  | false => simp (disch := omega) only [li_0, li_1, li_2, li_3, li_4, li_5, li_6, li_7, li_8, li_9, li_10, li_11, li_12, li_13, li_14, li_15, li_16, li_17, li_20, li_24, li_25, li_29, li_31, li_32, li_33, li_37, li_40, li_41, li_48, li_49, li_50, li_56, li_57, li_59, li_60, li_61, li_62, li_63, li_70, li_73, li_85, li_97, li_98, li_99, li_100, li_101, li_102, li_103, li_104, li_105, li_107, li_108, li_109, li_110, li_111, li_112, li_114, li_115, li_116, li_117, li_118, li_119, li_121, li_122, li_140, li_193, li_200, li_240, li_255, li_289, li_290, li_300, li_302, li_314, li_326, li_860, li_880, li_900, li_999, li_1024, li_2801, li_3440, li_3441, li_3442, li_3443, li_3444, li_3447, li_3448, li_3449, li_3457, li_3465, li_3469, li_3473, li_3477, li_3501, li_3513, li_3525, li_3537, li_3633, li_3730, li_3742, li_3754, li_3766, li_4095, li_4096, li_4300, li_9011, li_9999, li_10000, li_36864, li_65536, li_1000000, ll_0, ll_1, ll_100, ll_11, ll_16, ll_20, ll_3, ll_32, ll_50, ll_8, ll_96, ll_99, ll_9999, ne_m1, e_if, e_ret, e_rz0, e_rz1, e_rzb, e_call, bCallX_eq, nI_add, nI_mul, nI_succ1, le_i, lt_i, eq_i, m1_i, m1_le, m1_lt, m1_ge, m1_eq, ite_true, ite_false, if_true, if_false, bt0, k_cv h, k_none h, Bool.false_eq_true]
theorem k_tellIf1 (h : CS w) (x : Int32) : fX8_tellIf 1 (nI 1) x w = some (x, wI w 1 11 (nI 0)) := k_tellIf h true x
theorem k_tellIf0 (h : CS w) (x : Int32) : fX8_tellIf 1 (nI 0) x w = some (mI, wI w 1 11 (nI 8)) := k_tellIf h false x
end K8
section K9
variable {w : mS} {α : Type}
theorem q_refuse (h : RT w) (k : Nat) : fX9_refuse 113 (nI k) w = some (mI, wI w 113 0 (nI k)) := by
  unfold fX9_refuse
  rw [xPI h.k]
  rfl
theorem q_no (h : RT w) (k : Nat) : fX9_no 113 (nI k) w = some (nI 0, wI w 113 0 (nI k)) := by
  unfold fX9_no
  rw [xPI h.k]
  rfl
/-- a call of the reference begins so -/
def q0 (t : mS) : mS := wI (wI t 113 1 (nI 0)) 113 0 (nI 0)
theorem q0_b {t : mS} (h : RT t) {m : mM α} : bPI 9 113 1 (0 : Int32) (bPI 9 113 0 (0 : Int32) m) t = m (q0 t) := by
  rw [xPI h.k, xPI (s := wI t 113 1 0) h.k]
  rfl
end K9
def dSt (D : dD) (k : Nat) : dD := ((k, D.1.2), D.2)
theorem dSt_ok {D : dD} (h : DOk D) {k : Nat} (hk : k < 12) : DOk (dSt D k) := ⟨hk, h.2⟩
theorem CN.st {s : mS} {n : dN} (h : CN s n) (k : Nat) : CN (wI s 1 11 (nI k)) (k, n.2) := by
  obtain ⟨h1, h2, h3, h4, h5, h6, h7⟩ := h
  refine ⟨?_, h2, h3, ?_, ?_, ?_, ?_⟩
  · rw [sI_wI_eq]
  · rw [sI_wI_ne (Or.inr (by decide))]; exact h4
  · rw [sI_wI_ne (Or.inr (by decide))]; exact h5
  · rw [sI_wI_ne (Or.inr (by decide))]; exact h6
  · rw [sI_wI_ne (Or.inr (by decide))]; exact h7
theorem WoS.mvI {s t : mS} {c : Nat} (h : WoS s c) (h2 : t.2 = s.2) : WoS t c := h.mv h2
theorem CW.w1 {s : mS} {W : wW} {j : Nat} {x : Int32} (h : CW s 4 W) : CW (wI s 1 j x) 4 W := by
  refine h.mv (fun _ _ => rfl) (fun b hb => ⟨?_, rfl⟩) (fun h0 => ⟨rfl, rfl, ?_, ?_, rfl⟩)
  · funext i; exact sI_wI_ne (Or.inl (by have := hb.1; omega))
  · have : 124 < sP s 4 16 := by
      rcases h.2.2.2 with hl | hl
      · exact absurd hl.1 h0
      · exact hl.1
    funext i; exact sI_wI_ne (Or.inl (by omega))
  · funext i; exact sI_wI_ne (Or.inl (by omega))
theorem CP.st {s : mS} {D : dD} (h : CP s D) (hD : DOk D) (k : Nat) : CP (wI s 1 11 (nI k)) (dSt D k) :=
  h.upd (k, D.1.2) (dW D) (A := fun b => b = 1) (FI.w (A := fun b => b = 1) _ _ rfl).fr (fun _ hb => Or.inl hb) (fun _ _ _ _ _ => rfl) rfl (h.2.1.st k) rfl hD.2.2.1 rfl h.2.2.2.2.1.w1 (h.2.2.2.2.2.1.mv rfl)
/-- the reference's object after its numbers and its world were written -/
theorem RP.upd {s t : mS} {D : dD} (h : RP s D) (n : dN) (W : wW) (hn : RN t n) (hm : nMk n = nMk (dNn D)) (ht : nTl n = nTl (dNn D)) (hm3 : nMk n ≤ 3) (hX : RX t W) (h14 : sI t 114 = sI s 114) (h15 : sI t 115 = sI s 115) (h17 : sI t 117 = sI s 117) (h16 : sL t 116 = sL s 116) (hmk : ∀ i, 860 ≤ i → i < 3440 → sI t 118 i = sI s 118 i) : RP t (n, dTp D, dTr D, W, dM D) := by
  obtain ⟨hX0, hN, hTp, hTr, hM⟩ := h
  refine ⟨hX, hn, fun k hk => ?_, fun k hk => ?_, fun i hi => ?_⟩
  · have hk : k < nTl n := hk
    rw [ht] at hk
    rw [h17]
    exact hTp k hk
  · rw [h14, h15, h16]
    exact hTr k hk
  · have hi : i < nMk n := hi
    have hi3 : i < 3 := by omega
    rw [hm] at hi
    exact (hM i hi).cong fun j hj => hmk _ (by omega) (by omega)
theorem RN.st {s : mS} {n : dN} (h : RN s n) (k : Nat) : RN (wI s 113 0 (nI k)) (k, n.2) := by
  obtain ⟨h1, h2, h3, h4, h5, h6, h7⟩ := h
  refine ⟨?_, h2, h3, ?_, ?_, ?_, ?_⟩
  · rw [sI_wI_eq]
  · rw [sI_wI_ne (Or.inr (by decide))]; exact h4
  · rw [sI_wI_ne (Or.inr (by decide))]; exact h5
  · rw [sI_wI_ne (Or.inr (by decide))]; exact h6
  · rw [sI_wI_ne (Or.inr (by decide))]; exact h7
theorem RN.th {s : mS} {n : dN} (h : RN s n) (x : Int32) : RN (wI s 113 1 x) n := by
  obtain ⟨h1, h2, h3, h4, h5, h6, h7⟩ := h
  refine ⟨?_, h2, h3, ?_, ?_, ?_, ?_⟩
  · rw [sI_wI_ne (Or.inr (by decide))]; exact h1
  · rw [sI_wI_ne (Or.inr (by decide))]; exact h4
  · rw [sI_wI_ne (Or.inr (by decide))]; exact h5
  · rw [sI_wI_ne (Or.inr (by decide))]; exact h6
  · rw [sI_wI_ne (Or.inr (by decide))]; exact h7
theorem sI_113 (s : mS) (j : Nat) (x : Int32) {b : Nat} (hb : b ≠ 113) : sI (wI s 113 j x) b = sI s b := by
  funext i; exact sI_wI_ne (Or.inl hb)
theorem RX.w113 {s : mS} {W : wW} {j : Nat} {x : Int32} (h : RX s W) : RX (wI s 113 j x) W := h.st rfl (sI_113 s j x (by decide))
theorem RP.st {s : mS} {D : dD} (h : RP s D) (hD : DOk D) (k : Nat) : RP (wI s 113 0 (nI k)) (dSt D k) :=
  h.upd (k, D.1.2) (dW D) (h.2.1.st k) rfl rfl hD.2.2.1 h.1.w113 (sI_113 s 0 _ (by decide)) (sI_113 s 0 _ (by decide)) (sI_113 s 0 _ (by decide)) rfl (fun i _ _ => by rw [sI_113 s 0 _ (by decide)])
theorem RP.th {s : mS} {D : dD} (h : RP s D) (hD : DOk D) (x : Int32) : RP (wI s 113 1 x) D :=
  h.upd D.1 (dW D) (h.2.1.th x) rfl rfl hD.2.2.1 h.1.w113 (sI_113 s 1 _ (by decide)) (sI_113 s 1 _ (by decide)) (sI_113 s 1 _ (by decide)) rfl (fun i _ _ => by rw [sI_113 s 1 _ (by decide)])
theorem RP.q0 {s : mS} {D : dD} (h : RP s D) (hD : DOk D) : RP (q0 s) (dSt D 0) := (h.th hD (nI 0)).st hD 0
theorem fr113 {s : mS} (j : Nat) (x : Int32) : FR rfA s (wI s 113 j x) := (FI.w (A := rfA) _ _ ⟨by decide, by decide⟩).fr
theorem fr_q0 (s : mS) : FR rfA s (q0 s) := (fr113 1 _).tr (fr113 0 _)
theorem fc1 {s : mS} (j : Nat) (x : Int32) : FC s (wI s 1 j x) := (FI.w (A := fun b => b = 1) j x rfl).fr.c (fun b hb hr => by have : 113 ≤ b := hr.1; omega)
/-- a call that reads: the class ends with a status, the reference too -/
theorem Sim.rd {α : Type} {fc fr : mM α} (h : ∀ (s t : mS) (D : dD), CP s D → RP t D → DOk D → ∃ (x : α) (k : Nat), k < 12 ∧ fc s = some (x, wI s 1 11 (nI k)) ∧ (fr t = some (x, wI (q0 t) 113 0 (nI k)) ∨ (k = 0 ∧ fr t = some (x, q0 t)))) : Sim fc fr := by
  intro s t D hC hR hD
  obtain ⟨x, k, hk, h1, h2⟩ := h s t D hC hR hD
  rcases h2 with h2 | ⟨rfl, h2⟩
  · exact ⟨x, _, _, dSt D k, h1, h2, hC.st hD k, (hR.q0 hD).st (dSt_ok hD (by decide)) k, dSt_ok hD hk, fc1 _ _, (fr_q0 t).tr (fr113 0 _)⟩
  · exact ⟨x, _, _, dSt D 0, h1, h2, hC.st hD 0, hR.q0 hD, dSt_ok hD hk, fc1 _ _, fr_q0 t⟩
/-- a person, a rope -/
def noP (W : wW) (x : Int32) : Prop := x < 0 ∨ ∃ n, n < 2147483648 ∧ wPe W ≤ n ∧ x = nI n
theorem prs (W : wW) (x : Int32) : (∃ n, n < wPe W ∧ x = nI n) ∨ noP W x := by
  rcases arg x with h | ⟨n, h1, h2⟩
  · exact Or.inr (Or.inl h)
  · rcases Nat.lt_or_ge n (wPe W) with h3 | h3
    · exact Or.inl ⟨n, h3, h2⟩
    · exact Or.inr (Or.inr ⟨n, h1, h3, h2⟩)
def noR (W : wW) (x : Int32) : Prop := (x < 0 ∨ ∃ n, n < 2147483648 ∧ 12 ≤ n ∧ x = nI n) ∨ ∃ r, r < 12 ∧ rT (wRo W r) = false ∧ x = nI r
theorem rps (W : wW) (x : Int32) : (∃ r, r < 12 ∧ 0 < rN (wRo W r) ∧ x = nI r) ∨ noR W x := by
  rcases arg x with h | ⟨n, h1, h2⟩
  · exact Or.inr (Or.inl (Or.inl h))
  · rcases Nat.lt_or_ge n 12 with h3 | h3
    · cases h4 : rT (wRo W n) with
      | true => exact Or.inl ⟨n, h3, rT_p h4, h2⟩
      | false => exact Or.inr (Or.inr ⟨n, h3, h4, h2⟩)
    · exact Or.inr (Or.inl (Or.inr ⟨n, h1, h3, h2⟩))
theorem neg_lt {x : Int32} (h : x < 0) : (x < nI 0) = True := by simp; exact h
section PRS
variable {s : mS} {D : dD} {W : wW}
theorem k_isPerson (hS : CS s) (h : CW s 4 W) {n : Nat} (hn : n < wPe W) : fX8_isPerson 1 (nI n) s = some (nI 1, s) := by
  have i8 := h.wi.2.2.2.2.2.2.2.1
  unfold fX8_isPerson
  simp (disch := omega) only [k_now hS, g_pe h, li_0, li_1, li_2, li_3, li_4, li_5, li_6, li_7, li_8, li_9, li_10, li_11, li_12, li_13, li_14, li_15, li_16, li_17, li_20, li_24, li_25, li_29, li_31, li_32, li_33, li_37, li_40, li_41, li_48, li_49, li_50, li_56, li_57, li_59, li_60, li_61, li_62, li_63, li_70, li_73, li_85, li_97, li_98, li_99, li_100, li_101, li_102, li_103, li_104, li_105, li_107, li_108, li_109, li_110, li_111, li_112, li_114, li_115, li_116, li_117, li_118, li_119, li_121, li_122, li_140, li_193, li_200, li_240, li_255, li_289, li_290, li_300, li_302, li_314, li_326, li_860, li_880, li_900, li_999, li_1024, li_2801, li_3440, li_3441, li_3442, li_3443, li_3444, li_3447, li_3448, li_3449, li_3457, li_3465, li_3469, li_3473, li_3477, li_3501, li_3513, li_3525, li_3537, li_3633, li_3730, li_3742, li_3754, li_3766, li_4095, li_4096, li_4300, li_9011, li_9999, li_10000, li_36864, li_65536, li_1000000, ll_0, ll_1, ll_100, ll_11, ll_16, ll_20, ll_3, ll_32, ll_50, ll_8, ll_96, ll_99, ll_9999, ne_m1, e_if, e_ret, e_rz0, e_rz1, e_rzb, e_call, bCallX_eq, nI_add, nI_mul, nI_succ1, le_i, lt_i, eq_i, m1_i, m1_le, m1_lt, m1_ge, m1_eq, ite_true, ite_false, if_true, if_false, Nat.not_lt_zero, show ¬ wPe W ≤ n by omega]
theorem k_noPerson (hS : CS s) (h : CW s 4 W) {x : Int32} (hx : noP W x) : fX8_isPerson 1 x s = some (nI 0, s) := by
  have i8 := h.wi.2.2.2.2.2.2.2.1
  unfold fX8_isPerson
  rcases hx with hx | ⟨n, h1, h2, rfl⟩
  · simp (disch := omega) only [li_0, li_1, li_2, li_3, li_4, li_5, li_6, li_7, li_8, li_9, li_10, li_11, li_12, li_13, li_14, li_15, li_16, li_17, li_20, li_24, li_25, li_29, li_31, li_32, li_33, li_37, li_40, li_41, li_48, li_49, li_50, li_56, li_57, li_59, li_60, li_61, li_62, li_63, li_70, li_73, li_85, li_97, li_98, li_99, li_100, li_101, li_102, li_103, li_104, li_105, li_107, li_108, li_109, li_110, li_111, li_112, li_114, li_115, li_116, li_117, li_118, li_119, li_121, li_122, li_140, li_193, li_200, li_240, li_255, li_289, li_290, li_300, li_302, li_314, li_326, li_860, li_880, li_900, li_999, li_1024, li_2801, li_3440, li_3441, li_3442, li_3443, li_3444, li_3447, li_3448, li_3449, li_3457, li_3465, li_3469, li_3473, li_3477, li_3501, li_3513, li_3525, li_3537, li_3633, li_3730, li_3742, li_3754, li_3766, li_4095, li_4096, li_4300, li_9011, li_9999, li_10000, li_36864, li_65536, li_1000000, ll_0, ll_1, ll_100, ll_11, ll_16, ll_20, ll_3, ll_32, ll_50, ll_8, ll_96, ll_99, ll_9999, ne_m1, e_if, e_ret, e_rz0, e_rz1, e_rzb, e_call, bCallX_eq, nI_add, nI_mul, nI_succ1, le_i, lt_i, eq_i, m1_i, m1_le, m1_lt, m1_ge, m1_eq, ite_true, ite_false, if_true, if_false, neg_lt hx]
  · simp (disch := omega) only [k_now hS, g_pe h, li_0, li_1, li_2, li_3, li_4, li_5, li_6, li_7, li_8, li_9, li_10, li_11, li_12, li_13, li_14, li_15, li_16, li_17, li_20, li_24, li_25, li_29, li_31, li_32, li_33, li_37, li_40, li_41, li_48, li_49, li_50, li_56, li_57, li_59, li_60, li_61, li_62, li_63, li_70, li_73, li_85, li_97, li_98, li_99, li_100, li_101, li_102, li_103, li_104, li_105, li_107, li_108, li_109, li_110, li_111, li_112, li_114, li_115, li_116, li_117, li_118, li_119, li_121, li_122, li_140, li_193, li_200, li_240, li_255, li_289, li_290, li_300, li_302, li_314, li_326, li_860, li_880, li_900, li_999, li_1024, li_2801, li_3440, li_3441, li_3442, li_3443, li_3444, li_3447, li_3448, li_3449, li_3457, li_3465, li_3469, li_3473, li_3477, li_3501, li_3513, li_3525, li_3537, li_3633, li_3730, li_3742, li_3754, li_3766, li_4095, li_4096, li_4300, li_9011, li_9999, li_10000, li_36864, li_65536, li_1000000, ll_0, ll_1, ll_100, ll_11, ll_16, ll_20, ll_3, ll_32, ll_50, ll_8, ll_96, ll_99, ll_9999, ne_m1, e_if, e_ret, e_rz0, e_rz1, e_rzb, e_call, bCallX_eq, nI_add, nI_mul, nI_succ1, le_i, lt_i, eq_i, m1_i, m1_le, m1_lt, m1_ge, m1_eq, ite_true, ite_false, if_true, if_false, Nat.not_lt_zero, h2]
theorem q_isPerson (h : RX s W) {n : Nat} (hn : n < wPe W) : fX9_isPerson 113 (nI n) s = some (nI 1, s) := by
  have i8 := h.wi.2.2.2.2.2.2.2.1
  rw [x_isPerson h (by omega)]
  simp [hn]
theorem q_noPerson (h : RX s W) {x : Int32} (hx : noP W x) : fX9_isPerson 113 x s = some (nI 0, s) := by
  rcases hx with hx | ⟨n, h1, h2, rfl⟩
  · exact x_isPersonN h hx
  · rw [x_isPerson h h1]
    simp [show ¬ n < wPe W by omega]
theorem k_isRope (hS : CS s) (h : CW s 4 W) {r : Nat} (hr : r < 12) (h0 : 0 < rN (wRo W r)) : fX8_isRope 1 (nI r) s = some (nI 1, s) := by
  unfold fX8_isRope
  simp (disch := omega) only [k_now hS, g_aro h, g_ro h, e_callV (h.rs hr).1, t_isThere (h.rs hr) (h.rd hr) (h.ri r), li_0, li_1, li_2, li_3, li_4, li_5, li_6, li_7, li_8, li_9, li_10, li_11, li_12, li_13, li_14, li_15, li_16, li_17, li_20, li_24, li_25, li_29, li_31, li_32, li_33, li_37, li_40, li_41, li_48, li_49, li_50, li_56, li_57, li_59, li_60, li_61, li_62, li_63, li_70, li_73, li_85, li_97, li_98, li_99, li_100, li_101, li_102, li_103, li_104, li_105, li_107, li_108, li_109, li_110, li_111, li_112, li_114, li_115, li_116, li_117, li_118, li_119, li_121, li_122, li_140, li_193, li_200, li_240, li_255, li_289, li_290, li_300, li_302, li_314, li_326, li_860, li_880, li_900, li_999, li_1024, li_2801, li_3440, li_3441, li_3442, li_3443, li_3444, li_3447, li_3448, li_3449, li_3457, li_3465, li_3469, li_3473, li_3477, li_3501, li_3513, li_3525, li_3537, li_3633, li_3730, li_3742, li_3754, li_3766, li_4095, li_4096, li_4300, li_9011, li_9999, li_10000, li_36864, li_65536, li_1000000, ll_0, ll_1, ll_100, ll_11, ll_16, ll_20, ll_3, ll_32, ll_50, ll_8, ll_96, ll_99, ll_9999, ne_m1, e_if, e_ret, e_rz0, e_rz1, e_rzb, e_call, bCallX_eq, nI_add, nI_mul, nI_succ1, le_i, lt_i, eq_i, m1_i, m1_le, m1_lt, m1_ge, m1_eq, ite_true, ite_false, if_true, if_false, Nat.not_lt_zero, show ¬ 12 ≤ r by omega, bt0, rT_of h0, Bool.true_eq_false]
theorem k_noRope (hS : CS s) (h : CW s 4 W) {x : Int32} (hx : noR W x) : fX8_isRope 1 x s = some (nI 0, s) := by
  unfold fX8_isRope
  rcases hx with (hx | ⟨n, h1, h2, rfl⟩) | ⟨r, hr, h1, rfl⟩
  · simp (disch := omega) only [li_0, li_1, li_2, li_3, li_4, li_5, li_6, li_7, li_8, li_9, li_10, li_11, li_12, li_13, li_14, li_15, li_16, li_17, li_20, li_24, li_25, li_29, li_31, li_32, li_33, li_37, li_40, li_41, li_48, li_49, li_50, li_56, li_57, li_59, li_60, li_61, li_62, li_63, li_70, li_73, li_85, li_97, li_98, li_99, li_100, li_101, li_102, li_103, li_104, li_105, li_107, li_108, li_109, li_110, li_111, li_112, li_114, li_115, li_116, li_117, li_118, li_119, li_121, li_122, li_140, li_193, li_200, li_240, li_255, li_289, li_290, li_300, li_302, li_314, li_326, li_860, li_880, li_900, li_999, li_1024, li_2801, li_3440, li_3441, li_3442, li_3443, li_3444, li_3447, li_3448, li_3449, li_3457, li_3465, li_3469, li_3473, li_3477, li_3501, li_3513, li_3525, li_3537, li_3633, li_3730, li_3742, li_3754, li_3766, li_4095, li_4096, li_4300, li_9011, li_9999, li_10000, li_36864, li_65536, li_1000000, ll_0, ll_1, ll_100, ll_11, ll_16, ll_20, ll_3, ll_32, ll_50, ll_8, ll_96, ll_99, ll_9999, ne_m1, e_if, e_ret, e_rz0, e_rz1, e_rzb, e_call, bCallX_eq, nI_add, nI_mul, nI_succ1, le_i, lt_i, eq_i, m1_i, m1_le, m1_lt, m1_ge, m1_eq, ite_true, ite_false, if_true, if_false, neg_lt hx]
  · simp (disch := omega) only [li_0, li_1, li_2, li_3, li_4, li_5, li_6, li_7, li_8, li_9, li_10, li_11, li_12, li_13, li_14, li_15, li_16, li_17, li_20, li_24, li_25, li_29, li_31, li_32, li_33, li_37, li_40, li_41, li_48, li_49, li_50, li_56, li_57, li_59, li_60, li_61, li_62, li_63, li_70, li_73, li_85, li_97, li_98, li_99, li_100, li_101, li_102, li_103, li_104, li_105, li_107, li_108, li_109, li_110, li_111, li_112, li_114, li_115, li_116, li_117, li_118, li_119, li_121, li_122, li_140, li_193, li_200, li_240, li_255, li_289, li_290, li_300, li_302, li_314, li_326, li_860, li_880, li_900, li_999, li_1024, li_2801, li_3440, li_3441, li_3442, li_3443, li_3444, li_3447, li_3448, li_3449, li_3457, li_3465, li_3469, li_3473, li_3477, li_3501, li_3513, li_3525, li_3537, li_3633, li_3730, li_3742, li_3754, li_3766, li_4095, li_4096, li_4300, li_9011, li_9999, li_10000, li_36864, li_65536, li_1000000, ll_0, ll_1, ll_100, ll_11, ll_16, ll_20, ll_3, ll_32, ll_50, ll_8, ll_96, ll_99, ll_9999, ne_m1, e_if, e_ret, e_rz0, e_rz1, e_rzb, e_call, bCallX_eq, nI_add, nI_mul, nI_succ1, le_i, lt_i, eq_i, m1_i, m1_le, m1_lt, m1_ge, m1_eq, ite_true, ite_false, if_true, if_false, Nat.not_lt_zero, h2]
  · simp (disch := omega) only [k_now hS, g_aro h, g_ro h, e_callV (h.rs hr).1, t_isThere (h.rs hr) (h.rd hr) (h.ri r), li_0, li_1, li_2, li_3, li_4, li_5, li_6, li_7, li_8, li_9, li_10, li_11, li_12, li_13, li_14, li_15, li_16, li_17, li_20, li_24, li_25, li_29, li_31, li_32, li_33, li_37, li_40, li_41, li_48, li_49, li_50, li_56, li_57, li_59, li_60, li_61, li_62, li_63, li_70, li_73, li_85, li_97, li_98, li_99, li_100, li_101, li_102, li_103, li_104, li_105, li_107, li_108, li_109, li_110, li_111, li_112, li_114, li_115, li_116, li_117, li_118, li_119, li_121, li_122, li_140, li_193, li_200, li_240, li_255, li_289, li_290, li_300, li_302, li_314, li_326, li_860, li_880, li_900, li_999, li_1024, li_2801, li_3440, li_3441, li_3442, li_3443, li_3444, li_3447, li_3448, li_3449, li_3457, li_3465, li_3469, li_3473, li_3477, li_3501, li_3513, li_3525, li_3537, li_3633, li_3730, li_3742, li_3754, li_3766, li_4095, li_4096, li_4300, li_9011, li_9999, li_10000, li_36864, li_65536, li_1000000, ll_0, ll_1, ll_100, ll_11, ll_16, ll_20, ll_3, ll_32, ll_50, ll_8, ll_96, ll_99, ll_9999, ne_m1, e_if, e_ret, e_rz0, e_rz1, e_rzb, e_call, bCallX_eq, nI_add, nI_mul, nI_succ1, le_i, lt_i, eq_i, m1_i, m1_le, m1_lt, m1_ge, m1_eq, ite_true, ite_false, if_true, if_false, Nat.not_lt_zero, show ¬ 12 ≤ r by omega, bt0, h1]
theorem q_isRope (h : RX s W) {r : Nat} (hr : r < 12) (h0 : 0 < rN (wRo W r)) : fX9_isRope 113 (nI r) s = some (nI 1, s) := by
  rw [x_isRope h hr, rT_of h0]
  rfl
theorem q_noRope (h : RX s W) {x : Int32} (hx : noR W x) : fX9_isRope 113 x s = some (nI 0, s) := by
  rcases hx with hx | ⟨r, hr, h1, rfl⟩
  · exact x_isRopeF h hx
  · rw [x_isRope h hr, h1]
    rfl
end PRS

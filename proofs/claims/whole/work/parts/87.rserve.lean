/-! THE REFERENCE SERVES -/
def bdR (W : wW) (P r : Nat) : Bool := P.testBit r && !(wth W r && (decide (ca P ≤ 1) || !who W r))
def kN (W : wW) (P : Nat) : Nat := if fs (bdR W P) 12 < 12 then 1000000 else if wDe W ≤ 1 + sm (fun r => wre W r - 1) 12 P then ca P - 1 else 1000000
abbrev wkV (W : wW) (P : Nat) : Prop := kV (wth W) (who W) (wre W) (wDe W) P
abbrev wvO (W : wW) (n c S : Nat) : Prop := vO (wth W) (who W) (wre W) (wDe W) n c S
theorem kN_yes {W : wW} {P : Nat} (h : wkV W P) : kN W P = ca P - 1 := by
  have h1 : ¬ fs (bdR W P) 12 < 12 := fun hlt => by
    have h2 := fs_yes (bdR W P) 12 hlt
    generalize fs (bdR W P) 12 = r at hlt h2
    unfold bdR at h2
    cases hb : P.testBit r with
    | false => rw [hb] at h2; cases h2
    | true =>
      obtain ⟨h3, h4⟩ := h.1 r hlt hb
      rw [hb, h3] at h2
      by_cases hc : ca P ≤ 1
      · rw [decide_eq_true hc] at h2; cases h2
      · rw [h4 (by omega)] at h2
        simp at h2
  unfold kN
  rw [if_neg h1, if_pos h.2]
theorem kN_no {W : wW} {P : Nat} (h : ¬ wkV W P) : kN W P = 1000000 := by
  unfold kN
  by_cases h1 : fs (bdR W P) 12 < 12
  · rw [if_pos h1]
  · rw [if_neg h1]
    by_cases h2 : wDe W ≤ 1 + sm (fun r => wre W r - 1) 12 P
    · refine absurd ⟨fun r hr hb => ?_, h2⟩ h
      have h3 := fs_no (bdR W P) 12 r (by have := fs_le (bdR W P) 12; omega)
      unfold bdR at h3
      rw [hb] at h3
      have h4 : wth W r = true ∧ (1 < ca P → who W r = false) := by simpa using h3
      exact h4
    · rw [if_neg h2]
theorem sm_bd (w : Nat → Nat) (P B : Nat) (h : ∀ r, w r ≤ B) : ∀ n, sm w n P ≤ B * n
  | 0 => Nat.le_refl _
  | n + 1 => by
    have ih := sm_bd w P B h n
    have := h n
    rw [sm_s]
    rw [Nat.mul_succ]
    split <;> omega
section SV
variable {s : mS} {W : wW}
theorem x_kn (u : RX s W) {P : Nat} (hP : P < 4096) (h0 : P ≠ 0) : fX9_knotsFor 113 (nI P) s = some (nI (kN W P), s) := by
  have hT := u.1
  have hde := wDe_le u.wi
  have hca := ca_p (S := P) hP h0
  have hc12 := ca_le P
  have hre : ∀ r, wre W r - 1 ≤ 1600 := fun r => by
    have := rE_b (u.wi.2.2.2.2.2.2.2.2.2.2.2.2.1 r)
    show rE (wRo W r) - 1 ≤ 1600
    omega
  have hsb : ∀ k, k ≤ 12 → sm (fun r => wre W r - 1) k P ≤ 19200 := fun k hk => by
    have := sm_bd (fun r => wre W r - 1) P 1600 hre k
    omega
  have key := loop_x (fun n k => fX9_knotsFor_4 n 113 (nI P) (nI (1 + sm (fun r => wre W r - 1) k P)) (nI k) s) (bdR W P) (fun k => some (nI (if k < 12 then 1000000 else if wDe W ≤ 1 + sm (fun r => wre W r - 1) 12 P then ca P - 1 else 1000000), s)) 12 ?_ ?_ ?_ fu (by unfold fu; omega)
  · exact key
  · intro n k hk hb
    show fX9_knotsFor_4 (n + 1) 113 (nI P) _ (nI k) s = some (nI (if k < 12 then 1000000 else _), s)
    rw [if_pos hk]
    unfold bdR at hb
    have hb : P.testBit k = true ∧ ¬ (wth W k = true ∧ (ca P ≤ 1 ∨ who W k = false)) := by
      constructor
      · cases h : P.testBit k with
        | true => rfl
        | false => rw [h] at hb; cases hb
      · rintro ⟨h1, h2⟩
        rcases h2 with h2 | h2
        · rw [h1, decide_eq_true h2] at hb; simp at hb
        · rw [h1, h2] at hb; simp at hb
    obtain ⟨hb1, hb2⟩ := hb
    rw [qX9_knotsFor_4, e_if, if_neg (by rw [li_12, le_i (by omega) (by omega)]; omega), e_if, if_neg (by rw [li_31, li_1, bit_i (by omega) (by omega), hb1]; decide), e_callV hT.k, x_call (x_isRope u hk), e_if]
    by_cases hth : wth W k = true
    · have h0k : 0 < rN (wRo W k) := rT_p hth
      have hho : who W k = true := by
        cases h : who W k with
        | true => rfl
        | false => exact absurd ⟨hth, Or.inr h⟩ hb2
      have hcg : ¬ ca P ≤ 1 := fun h => hb2 ⟨hth, Or.inl h⟩
      rw [if_neg (by rw [show rT (wRo W k) = true from hth]; decide), r_c u, li_61, nI_add, r_ho u hk h0k, e_if, if_pos (by rw [show rH (wRo W k) = true from hho]; rfl), x_call (x_bits (by omega) s), e_if, if_neg (by rw [li_1, le_i (by rw [pc_ca]; omega) (by omega), pc_ca]; exact hcg), li_1000000]
      rfl
    · rw [if_pos (by rw [show rT (wRo W k) = false by simpa using hth]; rfl), li_1000000]
      rfl
  · intro n k hk hb
    show fX9_knotsFor_4 (n + 1) 113 (nI P) _ (nI k) s = fX9_knotsFor_4 n 113 (nI P) _ (nI (k + 1)) s
    have hs1 := hsb k (by omega)
    rw [qX9_knotsFor_4, e_if, if_neg (by rw [li_12, le_i (by omega) (by omega)]; omega), e_if, sm_s]
    cases hb1 : P.testBit k with
    | false =>
      rw [if_pos (by rw [li_31, li_1, bit_i (by omega) (by omega), hb1]; rfl), nI_succ1]
      rfl
    | true =>
      unfold bdR at hb
      rw [hb1] at hb
      have h4 : wth W k = true ∧ (1 < ca P → who W k = false) := by simpa using hb
      obtain ⟨hth, h5⟩ := h4
      have h0k : 0 < rN (wRo W k) := rT_p hth
      have hr1 := wre_pos W u.wi k hth
      have hr1 : 1 ≤ rE (wRo W k) := hr1
      have h54 : fX9_knotsFor_54 (fX9_knotsFor_4 n) 113 (nI P) (nI (1 + sm (fun r => wre W r - 1) k P)) (nI k) s = fX9_knotsFor_4 n 113 (nI P) (nI (1 + (sm (fun r => wre W r - 1) k P + (wre W k - 1)))) (nI (k + 1)) s := by
        unfold fX9_knotsFor_54
        rw [e_callV hT.k, x_call (x_reachOf u hk h0k), li_1, sub_i hr1, nI_add, nI_add, Nat.add_assoc]
      rw [if_neg (by rw [li_31, li_1, bit_i (by omega) (by omega), hb1]; decide), e_callV hT.k, x_call (x_isRope u hk), e_if, if_neg (by rw [show rT (wRo W k) = true from hth]; decide), r_c u, li_61, nI_add, r_ho u hk h0k, e_if, if_pos rfl]
      cases hho : who W k with
      | true =>
        have hcl : ca P ≤ 1 := by
          rcases Nat.lt_or_ge 1 (ca P) with h | h
          · have := h5 h
            rw [hho] at this; cases this
          · exact h
        rw [if_pos (by rw [show rH (wRo W k) = true from hho]; rfl), x_call (x_bits (by omega) s), e_if, if_pos (by rw [li_1, le_i (by rw [pc_ca]; omega) (by omega), pc_ca]; exact hcl), h54]
      | false =>
        rw [if_neg (by rw [show rH (wRo W k) = false from hho]; decide), h54]
  · intro n
    show fX9_knotsFor_4 (n + 1) 113 (nI P) _ (nI 12) s = some (nI (if 12 < 12 then 1000000 else _), s)
    have hs1 := hsb 12 (by omega)
    rw [qX9_knotsFor_4, e_if, if_pos (by decide), if_neg (by decide)]
    unfold fX9_knotsFor_70
    rw [e_callV hT.k, x_call (x_depthNow u), e_if]
    by_cases hd : wDe W ≤ 1 + sm (fun r => wre W r - 1) 12 P
    · rw [if_neg (by rw [lt_i (by omega) (by omega)]; omega), if_pos hd, x_call (x_bits (by omega) s), li_1, sub_i (by rw [pc_ca]; omega), pc_ca]
      rfl
    · rw [if_pos (by rw [lt_i (by omega) (by omega)]; omega), if_neg hd, li_1000000]
      rfl
def VL (W : wW) (q S a : Nat) : Prop := a ≤ 1000000 ∧ (a < 1000000 → wvO W q a S) ∧ ∀ c, wvO W q c S → a ≤ c
theorem sub_l : ∀ (k P Q S : Nat), Q < 2 ^ k → sb Q S → sb P S → P < Q → P ≤ (Q - 1) &&& S
  | 0, P, Q, S, h, _, _, hlt => by omega
  | k + 1, P, Q, S, h, hQ, hP, hlt => by
    have hpk : 2 ^ (k + 1) = 2 * 2 ^ k := by rw [Nat.pow_succ]; omega
    have hh : ∀ x : Nat, sb x S → sb (x / 2) (S / 2) := fun x hx i hi => by
      rw [Nat.testBit_div_two] at hi ⊢
      exact hx _ hi
    have h0P : P % 2 = 1 → S % 2 = 1 := fun h1 => by
      have := hP 0 (by rw [Nat.testBit_zero]; exact decide_eq_true h1)
      rw [Nat.testBit_zero] at this
      exact of_decide_eq_true this
    by_cases hodd : Q % 2 = 1
    · have e : (Q - 1) &&& S = Q - 1 := by
        apply Nat.eq_of_testBit_eq
        intro i
        rw [Nat.testBit_and]
        cases i with
        | zero =>
          rw [Nat.testBit_zero, decide_eq_false (show ¬ (Q - 1) % 2 = 1 by omega)]
          rfl
        | succ i =>
          rw [Nat.testBit_succ, show (Q - 1) / 2 = Q / 2 by omega]
          cases hb : (Q / 2).testBit i with
          | false => rfl
          | true =>
            rw [← Nat.testBit_succ] at hb
            rw [hQ _ hb]
            rfl
      rw [e]
      omega
    · have ih := sub_l k (P / 2) (Q / 2) (S / 2) (by omega) (hh Q hQ) (hh P hP) (by omega)
      obtain ⟨X, hX⟩ : ∃ X, X = (Q - 1) &&& S := ⟨_, rfl⟩
      have e1 : X / 2 = (Q / 2 - 1) &&& (S / 2) := by
        rw [hX]
        apply Nat.eq_of_testBit_eq
        intro i
        rw [Nat.testBit_div_two, Nat.testBit_and, Nat.testBit_and, Nat.testBit_succ, Nat.testBit_succ, show (Q - 1) / 2 = Q / 2 - 1 by omega]
      have e2 : S % 2 = 1 → X % 2 = 1 := fun h1 => by
        have : X.testBit 0 = true := by
          rw [hX, Nat.testBit_and, Nat.testBit_zero, Nat.testBit_zero, decide_eq_true (show (Q - 1) % 2 = 1 by omega), decide_eq_true h1]
          rfl
        rw [Nat.testBit_zero] at this
        exact of_decide_eq_true this
      rw [← hX]
      rw [← e1] at ih
      omega
/-- the tables of the reference -/
def kT (W : wW) (v : mS) : Prop := ∀ S, S < 4096 → sI v 122 S = nI (if S = 0 then 1000000 else kN W S)
def vT (W : wW) (v : mS) (q : Nat) : Prop := ∀ S, S < 4096 → ∃ a, sI v 123 (4096 * q + S) = nI a ∧ VL W q S a
theorem RT.h122 {s : mS} (h : RT s) : sH s 122 = (11, 4096) := h.2.2.2.2.2.2.2.2.2.2.2.2.2.2.2.2.2.2.2.2.1
theorem RT.h123 {s : mS} (h : RT s) : sH s 123 = (11, 36864) := h.2.2.2.2.2.2.2.2.2.2.2.2.2.2.2.2.2.2.2.2.2.1
theorem rt_29 {w : mS} {α : Type} (hT : RT w) {f : Nat → mM α} : bGR 9 113 29 f w = f 122 w := xGR hT.k hT.2.2.2.2.2.2.2.2.2.1
theorem rt_30 {w : mS} {α : Type} (hT : RT w) {f : Nat → mM α} : bGR 9 113 30 f w = f 123 w := xGR hT.k hT.2.2.2.2.2.2.2.2.2.2.1
def bP (W : wW) (q S p b : Nat) : Prop := b ≤ 1000000 ∧ (b < 1000000 → wvO W (q + 1) b S) ∧ ∀ P, p < P → sb P S → ∀ c, wkV W P → ca P - 1 ≤ c → wvO W q (c - (ca P - 1)) (df S P) → b ≤ c
theorem bP_nx {W : wW} {q S p b b' : Nat} (h : bP W q S p b) (hp : 0 < p) (hpS : sb p S) (hS : S < 4096) (h1 : b' ≤ b) (h2 : b' < 1000000 → wvO W (q + 1) b' S) (h3 : ∀ c, wkV W p → ca p - 1 ≤ c → wvO W q (c - (ca p - 1)) (df S p) → b' ≤ c) : bP W q S ((p - 1) &&& S) b' := by
  obtain ⟨a1, a2, a3⟩ := h
  refine ⟨by omega, h2, fun P hP hPS c k1 k2 k3 => ?_⟩
  rcases Nat.lt_trichotomy P p with hlt | rfl | hgt
  · have := sub_l 12 P p S (sb_lt hpS hS) hpS hPS hlt
    omega
  · exact h3 c k1 k2 k3
  · have := a3 P hgt hPS c k1 k2 k3
    omega
theorem x_part {v : mS} (hT : RT v) {q S : Nat} (hS : S < 4096) (hq : q < 8) (hk : kT W v) (hv : vT W v q) (r82 : Nat → Int32 → Int32 → mM Int32) (r89 : Nat → Int32 → Int32 → Int32 → mM Int32) (z : Int32) : ∀ n p b, p < n → sb p S → bP W q S p b → ∃ b', fX9_serve_104 r82 r89 n 113 z (nI (q + 1)) (nI S) (nI b) (nI p) v = fX9_serve_167 r82 r89 113 z (nI (q + 1)) (nI S) (nI b') v ∧ bP W q S 0 b' := by
  intro n
  induction n with
  | zero => intro p b h; omega
  | succ n ih =>
    intro p b hpn hpS hb
    have hp4 : p < 4096 := sb_lt hpS hS
    by_cases hp0 : p = 0
    · subst hp0
      refine ⟨b, ?_, hb⟩
      rw [qX9_serve_104, e_if, if_pos (by decide)]
    · have hpS' : sb ((p - 1) &&& S) S := fun i hi => by
        rw [Nat.testBit_and] at hi
        exact (Bool.and_eq_true _ _ ▸ hi : _ ∧ _).2
      have hlt : (p - 1) &&& S < n := by
        have := Nat.and_le_left (n := p - 1) (m := S)
        omega
      have hkp : sI v 122 p = nI (kN W p) := by rw [hk p hp4, if_neg hp0]
      have h156 : ∀ b, fX9_serve_156 r82 r89 (fX9_serve_104 r82 r89 n) 113 z (nI (q + 1)) (nI S) (nI b) (nI p) v = fX9_serve_104 r82 r89 n 113 z (nI (q + 1)) (nI S) (nI b) (nI ((p - 1) &&& S)) v := fun b => by
        unfold fX9_serve_156
        rw [li_1, sub_i (by omega), and_i (by omega) (by omega)]
      have hc12 := ca_le p
      have hbb := hb.1
      by_cases hkv : wkV W p
      · obtain ⟨a, e1, e2, e3, e4⟩ := hv (df S p) (df_lt S p)
        have hkn := kN_yes hkv
        have hd12 := df_lt S p
        have hcp := ca_p hp4 hp0
        have g1 : min b (ca p - 1 + a) < 1000000 → wvO W (q + 1) (min b (ca p - 1 + a)) S := fun hlt2 => by
          rcases Nat.le_total b (ca p - 1 + a) with h | h
          · rw [Nat.min_eq_left h] at hlt2 ⊢
            exact hb.2.1 hlt2
          · rw [Nat.min_eq_right h] at hlt2 ⊢
            refine ⟨p, hp0, hpS, hkv, by omega, ?_⟩
            rw [show ca p - 1 + a - (ca p - 1) = a by omega]
            exact e3 (by omega)
        have g2 : ∀ c, wkV W p → ca p - 1 ≤ c → wvO W q (c - (ca p - 1)) (df S p) → min b (ca p - 1 + a) ≤ c := fun c _ k2 k3 => by
          have h1 := e4 _ k3
          have h2 := Nat.min_le_right b (ca p - 1 + a)
          omega
        obtain ⟨b', f1, f2⟩ := ih ((p - 1) &&& S) (min b (ca p - 1 + a)) hlt hpS' (bP_nx hb (by omega) hpS hS (Nat.min_le_left _ _) g1 g2)
        refine ⟨b', ?_, f2⟩
        rw [qX9_serve_104, e_if, if_neg (by rw [li_0, le_i (by omega) (by omega)]; omega), rt_29 hT, xAIe hT.h122 (by omega) (by decide) hkp, e_if, if_neg (by rw [li_1000000, le_i (by omega) (by omega)]; omega), rt_29 hT, xAIe hT.h122 (by omega) (by decide) hkp, rt_30 hT]
        rw [li_1, sub_i (by omega), ne_m1, an_df hS hp4, li_4096, nI_mul, nI_add, show q + 1 - 1 = q by omega, xAIe hT.h123 (by omega) (by decide) e1, nI_add, hkn, jMin_i (by omega) (by omega), h156, f1]
      · have hkn := kN_no hkv
        obtain ⟨b', f1, f2⟩ := ih ((p - 1) &&& S) b hlt hpS' (bP_nx hb (by omega) hpS hS (Nat.le_refl _) hb.2.1 (fun c h _ _ => absurd h hkv))
        refine ⟨b', ?_, f2⟩
        rw [qX9_serve_104, e_if, if_neg (by rw [li_0, le_i (by omega) (by omega)]; omega), rt_29 hT, xAIe hT.h122 (by omega) (by decide) hkp, e_if, if_pos (by rw [hkn, li_1000000]; decide), h156, f1]
abbrev pT : Nat → Prop := fun b => b = 122 ∨ b = 123
theorem x_row9 {v0 : mS} (hT0 : RT v0) {q : Nat} (hq : q < 8) (hk : kT W v0) (hv : ∀ p, p ≤ q → vT W v0 p) (r82 : Nat → Int32 → Int32 → mM Int32) (z : Int32) : ∃ v, fX9_serve_89 r82 fu 113 z (nI (q + 1)) (nI 0) v0 = fX9_serve_187 r82 113 z (nI (q + 1)) v ∧ FI pT v0 v ∧ kT W v ∧ ∀ p, p ≤ q + 1 → vT W v p := by
  have key := loop_p (fun n k => fX9_serve_89 r82 n 113 z (nI (q + 1)) (nI k)) (fun k v => FI pT v0 v ∧ kT W v ∧ (∀ p, p ≤ q → vT W v p) ∧ ∀ S, S < k → ∃ a, sI v 123 (4096 * (q + 1) + S) = nI a ∧ VL W (q + 1) S a) 4096 (fX9_serve_187 r82 113 z (nI (q + 1))) (fun v => FI pT v0 v ∧ kT W v ∧ ∀ p, p ≤ q + 1 → vT W v p) ?_ ?_ fu 0 v0 (by omega) (by unfold fu; omega) ⟨FI.rf, hk, hv, fun S hS => absurd hS (by omega)⟩
  · exact key
  · rintro n k v hk' ⟨hF, hkT, hvT, hrow⟩
    have hTv := hT0.mv hF.2
    obtain ⟨b, e1, e2, e3, e4⟩ := x_part hTv hk' hq hkT (hvT q (Nat.le_refl _)) r82 (fX9_serve_89 r82 n) z fu k 1000000 (by unfold fu; omega) (fun _ h => h) ⟨Nat.le_refl _, fun h => absurd h (by omega), fun P hP hPS c _ _ _ => by have := Nat.le_of_testBit hPS; omega⟩
    have hVL : VL W (q + 1) k b := by
      refine ⟨e2, e3, fun c hc => ?_⟩
      obtain ⟨P, p1, p2, p3, p4, p5⟩ := hc
      exact e4 P (by omega) p2 c p3 p4 p5
    refine ⟨wI v 123 (4096 * (q + 1) + k) (nI b), ⟨hF.tr (FI.w _ _ (Or.inr rfl)), fun S hS => ?_, fun p hp S hS => ?_, fun S hS => ?_⟩, ?_⟩
    · rw [sI_wI_ne (Or.inl (by decide))]; exact hkT S hS
    · obtain ⟨a, a1, a2⟩ := hvT p hp S hS
      exact ⟨a, by rw [sI_wI_ne (Or.inr (by omega))]; exact a1, a2⟩
    · by_cases hSk : S = k
      · subst hSk
        exact ⟨b, sI_wI_eq _ _ _ _, hVL⟩
      · obtain ⟨a, a1, a2⟩ := hrow S (by omega)
        exact ⟨a, by rw [sI_wI_ne (Or.inr (by omega))]; exact a1, a2⟩
    · show fX9_serve_89 r82 (n + 1) 113 z (nI (q + 1)) (nI k) v = _
      rw [qX9_serve_89, e_if, if_neg (by rw [li_4096, le_i (by omega) (by omega)]; omega), li_1000000, e1]
      unfold fX9_serve_167
      rw [rt_30 hTv, li_4096, nI_mul, nI_add, xSI hTv.h123 (by omega) (by decide), nI_succ1]
  · rintro n v ⟨hF, hkT, hvT, hrow⟩
    refine ⟨v, ?_, hF, hkT, fun p hp => ?_⟩
    · show fX9_serve_89 r82 (n + 1) 113 z (nI (q + 1)) (nI 4096) v = _
      rw [qX9_serve_89, e_if, if_pos (by decide)]
    · by_cases hpq : p ≤ q
      · exact hvT p hpq
      · rw [show p = q + 1 by omega]
        exact hrow
theorem x_serve (u : RX s W) : ∃ v, fX9_serve 113 s = some (nI (wAn W), v) ∧ FI pT s v ∧ ∀ q, q ≤ wAn W → vT W v q := by
  have hT := u.1
  have hpe : wPe W ≤ 8 := u.wi.2.2.2.2.2.2.2.1
  have han : wAn W ≤ wPe W := wAn_le W (wPe W)
  have h1 : fX9_serve 113 s = fX9_serve_37 113 (nI (wAn W)) s := by
    unfold fX9_serve
    refine loop_n (fun n k => fX9_serve_4 n 113 (nI (it (fun p n => if wAl W p then n + 1 else n) 0 k)) (nI k) s) (fX9_serve_37 113 (nI (wAn W)) s) (wPe W) ?_ ?_ fu 0 (by omega) (by unfold fu; omega)
    · intro n k hk
      show fX9_serve_4 (n + 1) 113 _ (nI k) s = fX9_serve_4 n 113 _ (nI (k + 1)) s
      have hle := wAn_le W k
      rw [qX9_serve_4, r_c u, li_7, r_pe u, e_if, if_neg (by rw [le_i (by omega) (by omega)]; omega), e_callV hT.k, x_call (x_isAlive u hk), e_if, it_s]
      unfold fX9_serve_29
      cases wAl W k with
      | true =>
        rw [if_neg (by decide), if_pos rfl, li_1, nI_add, nI_add]
      | false =>
        rw [if_pos (by decide), nI_succ1, li_0, nI_add]
        rfl
    · intro n
      show fX9_serve_4 (n + 1) 113 _ (nI (wPe W)) s = _
      rw [qX9_serve_4, r_c u, li_7, r_pe u, e_if, if_pos (by rw [le_i (by omega) (by omega)]; omega)]
      rfl
  have h2 : ∃ v, fX9_serve_37 113 (nI (wAn W)) s = fX9_serve_80 113 (nI (wAn W)) v ∧ FI pT s v ∧ kT W v ∧ vT W v 0 := by
    unfold fX9_serve_37
    have key := loop_p (fun n k => fX9_serve_39 n 113 (nI (wAn W)) (nI k)) (fun k v => FI pT s v ∧ ∀ S, S < k → sI v 122 S = nI (if S = 0 then 1000000 else kN W S) ∧ sI v 123 S = nI 0) 4096 (fX9_serve_80 113 (nI (wAn W))) (fun v => FI pT s v ∧ kT W v ∧ vT W v 0) ?_ ?_ fu 0 s (by omega) (by unfold fu; omega) ⟨FI.rf, fun S hS => absurd hS (by omega)⟩
    · exact key
    · rintro n k v hk ⟨hF, hv⟩
      have uv : RX v W := u.mv hF.H hF.P (hF.1 118 (by decide))
      have hTv := uv.1
      have h66 : ∀ x : Int32, fX9_serve_66 (fX9_serve_39 n) 113 (nI (wAn W)) (nI k) x (nI k) 122 v = fX9_serve_39 n 113 (nI (wAn W)) (nI (k + 1)) (wI (wI v 122 k x) 123 k (nI 0)) := fun x => by
        have hTw : RT (wI v 122 k x) := hTv.w
        unfold fX9_serve_66
        rw [xSI hTv.h122 hk (by decide), rt_30 hTw, xSI hTw.h123 (by omega) (by decide), nI_succ1, li_0]
      refine ⟨wI (wI v 122 k (nI (if k = 0 then 1000000 else kN W k))) 123 k (nI 0), ⟨(hF.tr (FI.w _ _ (Or.inl rfl))).tr (FI.w _ _ (Or.inr rfl)), fun S hS => ?_⟩, ?_⟩
      · by_cases hSk : S = k
        · subst hSk
          exact ⟨by rw [sI_wI_ne (Or.inl (by decide)), sI_wI_eq], sI_wI_eq _ _ _ _⟩
        · obtain ⟨a1, a2⟩ := hv S (by omega)
          exact ⟨by rw [sI_wI_ne (Or.inl (by decide)), sI_wI_ne (Or.inr hSk)]; exact a1, by rw [sI_wI_ne (Or.inr hSk), sI_wI_ne (Or.inl (by decide))]; exact a2⟩
      · show fX9_serve_39 (n + 1) 113 _ (nI k) v = _
        rw [qX9_serve_39, e_if, if_neg (by rw [li_4096, le_i (by omega) (by omega)]; omega), rt_29 hTv, e_if]
        by_cases h0 : k = 0
        · rw [if_pos (by rw [h0]; rfl), li_1000000, h66, if_pos h0]
        · rw [if_neg (by rw [li_0, eq_i (by omega) (by omega)]; exact h0), e_callV hTv.k, x_call (x_kn uv hk h0), h66, if_neg h0]
    · rintro n v ⟨hF, hv⟩
      refine ⟨v, ?_, hF, fun S hS => (hv S hS).1, fun S hS => ⟨0, ?_, Nat.zero_le _, fun _ => trivial, fun c _ => Nat.zero_le _⟩⟩
      · show fX9_serve_39 (n + 1) 113 _ (nI 4096) v = _
        rw [qX9_serve_39, e_if, if_pos (by decide)]
      · rw [show 4096 * 0 + S = S by omega]
        exact (hv S hS).2
  obtain ⟨v0, e0, f0, k0, w0'⟩ := h2
  have hT0 := hT.mv f0.2
  have key := loop_s (fun n k => fX9_serve_82 n 113 (nI (wAn W)) (nI k)) (fun k v => FI pT v0 v ∧ kT W v ∧ (∀ q, q < k → vT W v q) ∧ 1 ≤ k) (wAn W + 1) (fun q => q.1 = nI (wAn W) ∧ FI pT v0 q.2 ∧ ∀ p, p ≤ wAn W → vT W q.2 p) ?_ ?_ fu 1 v0 (by omega) (by unfold fu; omega) ⟨FI.rf, k0, fun q hq => by rw [show q = 0 by omega]; exact w0', by omega⟩
  · obtain ⟨⟨x, v⟩, e1, e2, e3, e4⟩ := key
    have e2 : x = nI (wAn W) := e2
    rw [e2] at e1
    refine ⟨v, ?_, f0.tr e3, e4⟩
    rw [h1, e0]
    exact e1
  · rintro n k v hk ⟨hF, hkT, hvT, hk1⟩
    · obtain ⟨q, rfl⟩ : ∃ q, k = q + 1 := ⟨k - 1, by omega⟩
      have hTv := hT0.mv hF.2
      obtain ⟨w, b1, b2, b3, b4⟩ := x_row9 hTv (show q < 8 by omega) hkT (fun p hp => hvT p (by omega)) (fX9_serve_82 n) (nI (wAn W))
      refine ⟨w, ⟨hF.tr b2, b3, fun p hp => b4 p (by omega), by omega⟩, ?_⟩
      show fX9_serve_82 (n + 1) 113 _ (nI (q + 1)) v = _
      rw [qX9_serve_82, e_if, if_neg (by rw [lt_i (by omega) (by omega)]; omega), li_0, b1]
      unfold fX9_serve_187
      rw [nI_succ1]
  · rintro n v ⟨hF, hkT, hvT, -⟩
    refine ⟨(nI (wAn W), v), ?_, rfl, hF, fun p hp => hvT p (by omega)⟩
    show fX9_serve_82 (n + 1) 113 _ (nI (wAn W + 1)) v = _
    rw [qX9_serve_82, e_if, if_pos (by rw [lt_i (by omega) (by omega)]; omega)]
    rfl
end SV

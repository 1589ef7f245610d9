/-! THE CLASS WEIGHS ITS ROPES -/
abbrev wth (W : wW) (r : Nat) : Bool := rT (wRo W r)
abbrev who (W : wW) (r : Nat) : Bool := rH (wRo W r)
abbrev wre (W : wW) (r : Nat) : Nat := rE (wRo W r)
abbrev wcn (W : wW) (k : Nat) : Nat := cn (wth W) (who W) (wre W) (wDe W) k
abbrev wgp (W : wW) (k : Nat) : Nat → Nat := gp (wth W) (who W) (wre W) (wDe W) k
abbrev wiG (W : wW) (r : Nat) : Bool := iG (wth W) (who W) (wre W) (wDe W) r
abbrev wal (W : wW) (r : Nat) : Bool := al (wth W) (wre W) (wDe W) r
def wak (W : wW) (k : Nat) : Nat := sm (fun r => if wal W r then 1 else 0) k 4095
theorem wak_s (W : wW) {k : Nat} (hk : k < 12) : wak W (k + 1) = if wal W k then wak W k + 1 else wak W k := by
  unfold wak
  rw [sm_s, b4095 hk, if_pos rfl]
  split <;> rfl
theorem wak_le (W : wW) : ∀ k, wak W k ≤ k
  | 0 => Nat.le_refl _
  | k + 1 => by
    have := wak_le W k
    unfold wak at this ⊢
    rw [sm_s]
    (split <;> try split) <;> omega
theorem wre_pos (W : wW) (hw : wOk W) (r : Nat) (h : wth W r = true) : 1 ≤ wre W r := by
  have hI := hw.2.2.2.2.2.2.2.2.2.2.2.2.1 r
  have h1 := rL_b hI
  have h2 : 0 < rN (wRo W r) := rT_p h
  show 1 ≤ rL (wRo W r) - (rN (wRo W r) - 1)
  omega
theorem CW.pf {s v : mS} {D : dD} {A : Nat → Prop} (h : CP s D) (hF : FI A s v) (hA : ∀ b, A b → (93 ≤ b ∧ b < 98) ∨ b = cF s) : CW v 4 (dW D) := by
  have hc := h.2.2.2.2.1
  have hl := h.2.2.2.2.2.2.2.2.2.1
  have h3 := h.2.2.2.2.2.2.2.2.1
  refine hc.mv (fun _ _ => by rw [hF.H]) (fun b hb => ⟨hF.1 b (fun ha => ?_), by rw [hF.P]⟩) (fun h0 => ?_)
  · have h1 := hb.1
    have h2 := hb.2
    rcases hA b ha with h | h
    · omega
    · rcases h3 with h3 | h3
      · omega
      · have := h3.1; omega
  · rcases hl with hl | ⟨l1, l2, l3, l4, -⟩
    · exact absurd hl h0
    · refine ⟨by rw [hF.H], by rw [hF.H], hF.1 _ (fun ha => ?_), hF.1 _ (fun ha => ?_), by rw [hF.P]⟩
      · rcases hA _ ha with h | h
        · omega
        · exact l4 h
      · rcases hA _ ha with h | h
        · omega
        · exact l3 h
theorem CP.pf {s v : mS} {D : dD} {A : Nat → Prop} (h : CP s D) (hD : DOk D) (hF : FI A s v) (hA : ∀ b, A b → (93 ≤ b ∧ b < 98) ∨ b = cF s) : CP v D := by
  have h3 := h.2.2.2.2.2.2.2.2.1
  refine h.upd D.1 (dW D) hF.fr (fun b hb => Or.inr (Or.inr (hA b hb))) (fun b j _ _ _ => by rw [hF.P]) (by rw [hF.P]) (h.2.1.mv (hF.1 1 (fun ha => ?_)) (by rw [hF.L])) rfl hD.2.2.1 rfl (CW.pf h hF hA) (h.2.2.2.2.2.1.mv hF.2)
  rcases hA 1 ha with h | h
  · omega
  · rcases h3 with h3 | h3
    · omega
    · have := h3.1; omega
abbrev pA0 : Nat → Prop := fun b => b = 93 ∨ b = 94
section WG
variable {s : mS} {D : dD} {W : wW}
theorem CS.k93 (hS : CS s) : (sH s 93).1 = 2 := hS.2.2.2.1.1
theorem CS.p4 (hS : CS s) : sP s 93 4 = 94 := hS.2.2.2.1.2.1
theorem CS.p6 (hS : CS s) : sP s 93 6 = 96 := hS.2.2.2.1.2.2.1
theorem CS.h94 (hS : CS s) : sH s 94 = (11, 12) := hS.2.2.2.1.2.2.2.1
theorem CS.h96 (hS : CS s) : sH s 96 = (11, 13) := hS.2.2.2.1.2.2.2.2
theorem CS.h97 (hS : CS s) : sH s 97 = (11, 8) := hS.2.1.2.2.2
/-- gains of the first ropes, how many reach alone -/
def gI (W : wW) (k : Nat) (v : mS) : Prop := sI v 93 1 = nI (wak W k) ∧ sI v 93 2 = nI (wcn W k) ∧ ∀ i, i < wcn W k → sI v 94 i = nI (wre W (wgp W k i) - 1)
theorem gI_no {k : Nat} {v : mS} (hk : k < 12) (h : gI W k v) (ha : wal W k = false) (hg : wiG W k = false) : gI W (k + 1) v := by
  have h1 : wak W (k + 1) = wak W k := by rw [wak_s W hk, ha]; rfl
  have h2 : wcn W (k + 1) = wcn W k := by show (if wiG W k then _ else _) = _; rw [hg]; rfl
  have h3 : wgp W (k + 1) = wgp W k := by show (if wiG W k then _ else _) = _; rw [hg]; rfl
  unfold gI
  rw [h1, h2, h3]
  exact h
theorem c_gain (hC : CP s D) (hW : W = dW D) {z y : Int32} : ∀ v0, FI pA0 s v0 → gI W 0 v0 → sI v0 93 0 = z → sI v0 93 3 = y → ∃ v, fX2_weigh_41 fu 93 4 (nI (wDe W)) (nI 0) v0 = fX2_weigh_142 93 4 v ∧ FI pA0 s v ∧ gI W 12 v ∧ sI v 93 0 = z ∧ sI v 93 3 = y := by
  intro v0 h0 h1 h2 h3
  have hpA : ∀ b, pA0 b → (93 ≤ b ∧ b < 98) ∨ b = cF s := fun b hb => by
    rcases hb with hb | hb <;> omega
  have key := loop_p (fun n k => fX2_weigh_41 n 93 4 (nI (wDe W)) (nI k)) (fun k v => FI pA0 s v ∧ gI W k v ∧ sI v 93 0 = z ∧ sI v 93 3 = y) 12 (fX2_weigh_142 93 4) (fun v => FI pA0 s v ∧ gI W 12 v ∧ sI v 93 0 = z ∧ sI v 93 3 = y) ?_ ?_ fu 0 v0 (by omega) (by unfold fu; omega) ⟨h0, h1, h2, h3⟩
  · obtain ⟨v, e1, e2⟩ := key
    exact ⟨v, e1, e2⟩
  · rintro n k v hk ⟨hF, hg, hz, hy⟩
    have hv : CW v 4 W := by rw [hW]; exact CW.pf hC hF hpA
    have hS : CS v := hC.1.fi hF
    have hRS := hv.rs hk
    have hRD := hv.rd hk
    have hRI := hv.ri k
    have hde := wDe_le hv.wi
    have hrb := rE_b hRI
    have hree : wre W k = rE (wRo W k) := rfl
    have ht := t_isThere hRS hRD hRI
    have hak := wak_le W k
    have hck := cn_le (th := wth W) (ho := who W) (R := wre W) (D := wDe W) k
    have hck : wcn W k ≤ k := hck
    have e85 : ∀ (w : mS), w = v → wth W k = false → fX2_weigh_85 (fX2_weigh_41 n) 93 4 (nI (wDe W)) (nI k) (4 + 8 + 3 * k) w = fX2_weigh_41 n 93 4 (nI (wDe W)) (nI (k + 1)) w := fun w hw hth => by
      subst hw
      unfold fX2_weigh_85
      rw [e_callV hRS.1, x_call ht, e_if, if_pos (by show nI (wth W k).toNat = 0; rw [hth]; rfl), nI_succ1]
    by_cases hth : wth W k = true
    · have hr0 : 0 < rN (wRo W k) := rT_p hth
      have hre := t_reach hRS hRD hRI hr0
      have ht1 : ¬ nI (rT (wRo W k)).toNat = 0 := by
        rw [show rT (wRo W k) = true from hth]
        decide
      by_cases hal : wDe W ≤ wre W k
      · have ha : wal W k = true := by
          show (wth W k && decide (wDe W ≤ wre W k)) = true
          rw [hth, decide_eq_true hal]; rfl
        have hg0 : wiG W k = false := by
          show (wth W k && (!decide (wDe W ≤ wre W k) && _)) = false
          rw [decide_eq_true hal]
          simp
        refine ⟨wI v 93 1 (nI (wak W k + 1)), ⟨hF.tr (FI.w _ _ (Or.inl rfl)), ⟨?_, ?_, fun i hi => ?_⟩, ?_, ?_⟩, ?_⟩
        · rw [sI_wI_eq, wak_s W hk, ha]; rfl
        · rw [sI_wI_ne (Or.inr (by decide)), hg.2.1]
          show nI (wcn W k) = nI (if wiG W k then _ else _)
          rw [hg0]; rfl
        · have h2 : wcn W (k + 1) = wcn W k := by show (if wiG W k then _ else _) = _; rw [hg0]; rfl
          have h3 : wgp W (k + 1) = wgp W k := by show (if wiG W k then _ else _) = _; rw [hg0]; rfl
          rw [h2] at hi
          rw [h3, sI_wI_ne (Or.inl (by decide))]
          exact hg.2.2 i hi
        · rw [sI_wI_ne (Or.inr (by decide))]; exact hz
        · rw [sI_wI_ne (Or.inr (by decide))]; exact hy
        · show fX2_weigh_41 (n + 1) 93 4 _ (nI k) v = _
          rw [qX2_weigh_41, e_if, if_neg (by rw [li_12, le_i (by omega) (by omega)]; omega), g_aro hv, g_ro hv hk, e_callV hRS.1, x_call ht, e_if, if_neg ht1, e_callV hRS.1, x_call hre, e_if, if_neg (by rw [lt_i (by omega) (by omega)]; omega), xGIe hS.k93 hg.1, xPI hS.k93, nI_succ1, nI_succ1]
      · have ha : wal W k = false := by
          show (wth W k && decide (wDe W ≤ wre W k)) = false
          rw [decide_eq_false hal]; simp
        have hstep : fX2_weigh_41 (n + 1) 93 4 (nI (wDe W)) (nI k) v = fX2_weigh_85 (fX2_weigh_41 n) 93 4 (nI (wDe W)) (nI k) (4 + 8 + 3 * k) v := by
          rw [qX2_weigh_41, e_if, if_neg (by rw [li_12, le_i (by omega) (by omega)]; omega), g_aro hv, g_ro hv hk, e_callV hRS.1, x_call ht, e_if, if_neg ht1, e_callV hRS.1, x_call hre, e_if, if_pos (by rw [lt_i (by omega) (by omega)]; omega)]
        by_cases hho : who W k = true
        · have hg0 : wiG W k = false := by
            show (wth W k && (!decide (wDe W ≤ wre W k) && (!who W k && _))) = false
            rw [hho]
            simp
          refine ⟨v, ⟨hF, gI_no hk hg ha hg0, hz, hy⟩, ?_⟩
          show fX2_weigh_41 (n + 1) 93 4 _ (nI k) v = _
          rw [hstep]
          unfold fX2_weigh_85
          rw [e_callV hRS.1, x_call ht, e_if, if_neg ht1, xGIe hRS.1 hRD.2.2.2.2.1, e_if, if_neg (by rw [show rH (wRo W k) = true from hho]; decide), nI_succ1]
        · have hho : who W k = false := by simpa using hho
          have h85 : fX2_weigh_85 (fX2_weigh_41 n) 93 4 (nI (wDe W)) (nI k) (4 + 8 + 3 * k) v = bCallV 3 (4 + 8 + 3 * k) (fX3_reach (4 + 8 + 3 * k)) (fun x3 => bIf (x3 ≤ (1 : Int32)) (fX2_weigh_41 n 93 4 (nI (wDe W)) (nI k + 1)) (bGR 2 93 4 (fun x4 => bGI 2 93 2 (fun x5 => bCallV 3 (4 + 8 + 3 * k) (fX3_reach (4 + 8 + 3 * k)) (fun x6 => bSI x4 x5 (x6 - (1 : Int32)) (bGI 2 93 2 (fun x7 => bPI 2 93 2 (x7 + (1 : Int32)) (fX2_weigh_41 n 93 4 (nI (wDe W)) (nI k + 1))))))))) v := by
            unfold fX2_weigh_85
            rw [e_callV hRS.1, x_call ht, e_if, if_neg ht1, xGIe hRS.1 hRD.2.2.2.2.1, e_if, if_pos (by rw [show rH (wRo W k) = false from hho]; rfl)]
          by_cases hr1 : wre W k ≤ 1
          · have hg0 : wiG W k = false := by
              show (wth W k && (!decide (wDe W ≤ wre W k) && (!who W k && decide (1 < wre W k)))) = false
              rw [decide_eq_false (show ¬ 1 < wre W k by omega)]
              simp
            refine ⟨v, ⟨hF, gI_no hk hg ha hg0, hz, hy⟩, ?_⟩
            show fX2_weigh_41 (n + 1) 93 4 _ (nI k) v = _
            rw [hstep, h85, e_callV hRS.1, x_call hre, e_if, if_pos (by rw [li_1, le_i (by omega) (by omega)]; exact hr1), nI_succ1]
          · have hg1 : wiG W k = true := by
              show (wth W k && (!decide (wDe W ≤ wre W k) && (!who W k && decide (1 < wre W k)))) = true
              rw [hth, hho, decide_eq_true (show 1 < wre W k by omega), decide_eq_false hal]
              rfl
            have h2 : wcn W (k + 1) = wcn W k + 1 := by show (if wiG W k then _ else _) = _; rw [hg1]; rfl
            have h3 : wgp W (k + 1) = up (wgp W k) (wcn W k) k := by show (if wiG W k then _ else _) = _; rw [hg1]; rfl
            have hSw : CS (wI v 94 (wcn W k) (nI (wre W k - 1))) := hS.w
            refine ⟨wI (wI v 94 (wcn W k) (nI (wre W k - 1))) 93 2 (nI (wcn W k + 1)), ⟨(hF.tr (FI.w _ _ (Or.inr rfl))).tr (FI.w _ _ (Or.inl rfl)), ⟨?_, ?_, fun i hi => ?_⟩, ?_, ?_⟩, ?_⟩
            · rw [sI_wI_ne (Or.inr (by decide)), sI_wI_ne (Or.inl (by decide)), hg.1, wak_s W hk, ha]; rfl
            · rw [sI_wI_eq, h2]
            · rw [h2] at hi
              rw [h3, sI_wI_ne (Or.inl (by decide))]
              by_cases hic : i = wcn W k
              · rw [hic, sI_wI_eq, up_s]
              · rw [sI_wI_ne (Or.inr hic), up_n _ _ hic]
                exact hg.2.2 i (by omega)
            · rw [sI_wI_ne (Or.inr (by decide)), sI_wI_ne (Or.inl (by decide))]; exact hz
            · rw [sI_wI_ne (Or.inr (by decide)), sI_wI_ne (Or.inl (by decide))]; exact hy
            · show fX2_weigh_41 (n + 1) 93 4 _ (nI k) v = _
              rw [hstep, h85, e_callV hRS.1, x_call hre, e_if, if_neg (by rw [li_1, le_i (by omega) (by omega)]; exact hr1), xGR hS.k93 hS.p4, xGIe hS.k93 hg.2.1, e_callV hRS.1, x_call hre, li_1, sub_i (by omega), xSI hS.h94 (by omega) (by decide)]
              rw [xGI hSw.k93, sI_wI_ne (Or.inl (by decide)), hg.2.1, xPI hSw.k93, nI_add, nI_add]
    · have hth : wth W k = false := by simpa using hth
      have ha : wal W k = false := by
        show (wth W k && _) = false
        rw [hth]; rfl
      have hg0 : wiG W k = false := by
        show (wth W k && _) = false
        rw [hth]; rfl
      refine ⟨v, ⟨hF, gI_no hk hg ha hg0, hz, hy⟩, ?_⟩
      show fX2_weigh_41 (n + 1) 93 4 _ (nI k) v = _
      rw [qX2_weigh_41, e_if, if_neg (by rw [li_12, le_i (by omega) (by omega)]; omega), g_aro hv, g_ro hv hk, e_callV hRS.1, x_call ht, e_if, if_pos (by show nI (wth W k).toNat = 0; rw [hth]; rfl), e85 v rfl hth]
  · rintro n v ⟨hF, hg, hz, hy⟩
    refine ⟨v, ?_, hF, hg, hz, hy⟩
    show fX2_weigh_41 (n + 1) 93 4 _ (nI 12) v = _
    rw [qX2_weigh_41, e_if, if_pos (by decide)]
end WG

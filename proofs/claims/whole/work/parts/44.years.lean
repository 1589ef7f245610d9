/-! YEARS: what becomes of a world -/
def roO (ρ : rR) (o : Option Nat) : rR := (o, rB ρ, rH ρ, rS ρ, rP ρ)
def roB (ρ : rR) (b : Option Nat) : rR := (rO ρ, b, rH ρ, rS ρ, rP ρ)
def wOw (W : wW) (r : Nat) (o : Option Nat) : wW := wSetRo W (up (wRo W) r (roO (wRo W r) o))
def wBw (W : wW) (r : Nat) (b : Option Nat) : wW := wSetRo W (up (wRo W) r (roB (wRo W r) b))
def rKe (ρ : rR) (κ : Nat) : rR := (rO ρ, rB ρ, rH ρ, rS ρ, sK κ (rP ρ) (rN ρ))
def rRe (ρ : rR) (κ : Nat) : rR := (rO ρ, none, false, rS ρ, sR κ (rP ρ) (rN ρ))
def wSp (W : wW) (r κ q : Nat) : wW := wSetRo W (up (up (wRo W) r (rKe (wRo W r) κ)) q (rRe (wRo W r) κ))
theorem wOk_set {W : wW} (h : wOk W) (f : Nat → rR) (h1 : ∀ r, rI (f r)) (h2 : ∀ r p, rO (f r) = some p → p < wPe W) (h3 : ∀ r p, rB (f r) = some p → p < wPe W) : wOk (wSetRo W f) := by
  obtain ⟨iY, iW, iB, iS, iR, iRb, iD, iP, iPa, iDi, iF, iFd, iRo, iOw, iBo, iLa⟩ := h
  exact ⟨iY, iW, iB, iS, iR, iRb, iD, iP, iPa, iDi, iF, iFd, h1, h2, h3, iLa⟩
theorem wOk_up {W : wW} (h : wOk W) {r : Nat} {ρ : rR} (h1 : rI ρ) (h2 : ∀ p, rO ρ = some p → p < wPe W) (h3 : ∀ p, rB ρ = some p → p < wPe W) : wOk (wSetRo W (up (wRo W) r ρ)) := by
  have h0 := h
  obtain ⟨iY, iW, iB, iS, iR, iRb, iD, iP, iPa, iDi, iF, iFd, iRo, iOw, iBo, iLa⟩ := h
  refine wOk_set h0 _ (fun q => ?_) (fun q p => ?_) (fun q p => ?_)
  · by_cases hq : q = r
    · rw [hq, up_s]; exact h1
    · rw [up_n _ _ hq]; exact iRo q
  · by_cases hq : q = r
    · rw [hq, up_s]; exact h2 p
    · rw [up_n _ _ hq]; exact iOw q p
  · by_cases hq : q = r
    · rw [hq, up_s]; exact h3 p
    · rw [up_n _ _ hq]; exact iBo q p
theorem rI_mk {o b : Option Nat} {hy : Bool} {sl : Nat} {ps : List (Nat × Nat)} (h1 : ps.length ≤ 8) (h0 : 0 < ps.length) (h2 : piOk ps) (h3 : sl ≤ 15) (h4 : ∀ p, o = some p → p < 8) (h5 : ∀ p, b = some p → p < 8) : rI (o, b, hy, sl, ps) := ⟨h1, h2, h3, h4, h5, fun e => absurd e (by show ¬ ps.length = 0; omega)⟩
theorem rI.pi {ρ : rR} (h : rI ρ) : piOk (rP ρ) := h.2.1
theorem wOw_ok {W : wW} (h : wOk W) {r : Nat} {o : Option Nat} (h0 : 0 < rN (wRo W r)) (ho : ∀ p, o = some p → p < wPe W) : wOk (wOw W r o) := by
  have hI := h.2.2.2.2.2.2.2.2.2.2.2.2.1 r
  have h8 := h.2.2.2.2.2.2.2.1
  refine wOk_up h (rI_mk hI.1 h0 hI.pi hI.2.2.1 (fun p e => ?_) hI.2.2.2.2.1) ho (h.2.2.2.2.2.2.2.2.2.2.2.2.2.2.1 r)
  have := ho p e
  omega
theorem wBw_ok {W : wW} (h : wOk W) (r : Nat) : wOk (wBw W r none) := by
  have hI := h.2.2.2.2.2.2.2.2.2.2.2.2.1 r
  refine wOk_up h ?_ (h.2.2.2.2.2.2.2.2.2.2.2.2.2.1 r) (fun p e => by cases e)
  refine ⟨hI.1, hI.2.1, hI.2.2.1, hI.2.2.2.1, fun p e => (by cases e), fun e => ?_⟩
  have := hI.2.2.2.2.2 e
  show roB (wRo W r) none = r0
  rw [this]
  rfl
theorem sK_pos {κ : Nat} {ρ : rR} (hI : rI ρ) (h1 : 1 ≤ κ) (h0 : 0 < rN ρ) : 0 < (sK κ (rP ρ) (rN ρ)).length := by
  have h2 := qT_sK κ (rP ρ) (rN ρ)
  have h3 := rL_b hI
  rcases Nat.eq_zero_or_pos (sK κ (rP ρ) (rN ρ)).length with h | h
  · unfold qT at h2
    rw [h, qS_0] at h2
    unfold rL at h3
    omega
  · exact h
theorem sR_pos {κ : Nat} {ρ : rR} (h1 : κ < rL ρ) : 0 < (sR κ (rP ρ) (rN ρ)).length := by
  have h2 := qT_sR κ (rP ρ) (rN ρ)
  rcases Nat.eq_zero_or_pos (sR κ (rP ρ) (rN ρ)).length with h | h
  · unfold qT at h2
    rw [h, qS_0] at h2
    unfold rL at h1
    omega
  · exact h
theorem rKe_I {κ : Nat} {ρ : rR} (hI : rI ρ) (h1 : 1 ≤ κ) (h0 : 0 < rN ρ) : rI (rKe ρ κ) :=
  rI_mk (Nat.le_trans (sK_le _ _ _) hI.1) (sK_pos hI h1 h0) (sK_ok hI.pi _ (Nat.le_refl _)) hI.2.2.1 hI.2.2.2.1 hI.2.2.2.2.1
theorem rRe_I {κ : Nat} {ρ : rR} (hI : rI ρ) (h1 : κ < rL ρ) : rI (rRe ρ κ) :=
  rI_mk (Nat.le_trans (sR_le _ _ _) hI.1) (sR_pos h1) (sR_ok hI.pi _ (Nat.le_refl _)) hI.2.2.1 hI.2.2.2.1 (fun p e => by cases e)
theorem wSp_ok {W : wW} (h : wOk W) {r κ q : Nat} (h0 : 0 < rN (wRo W r)) (h1 : 1 ≤ κ) (h2 : κ < rL (wRo W r)) : wOk (wSp W r κ q) := by
  have h00 := h
  obtain ⟨iY, iW, iB, iS, iR, iRb, iD, iP, iPa, iDi, iF, iFd, iRo, iOw, iBo, iLa⟩ := h
  refine wOk_set h00 _ (fun p => ?_) (fun p x => ?_) (fun p x => ?_)
  · by_cases hq : p = q
    · rw [hq, up_s]; exact rRe_I (iRo r) h2
    · rw [up_n _ _ hq]
      by_cases hr : p = r
      · rw [hr, up_s]; exact rKe_I (iRo r) h1 h0
      · rw [up_n _ _ hr]; exact iRo p
  · by_cases hq : p = q
    · rw [hq, up_s]; exact iOw r x
    · rw [up_n _ _ hq]
      by_cases hr : p = r
      · rw [hr, up_s]; exact iOw r x
      · rw [up_n _ _ hr]; exact iOw p x
  · by_cases hq : p = q
    · rw [hq, up_s]; intro e; cases e
    · rw [up_n _ _ hq]
      by_cases hr : p = r
      · rw [hr, up_s]; exact iBo r x
      · rw [up_n _ _ hr]; exact iBo p x
/-- the class's world after ropes were written -/
theorem CW.ropes {s t : mS} {a : Nat} {W : wW} {f : Nat → rR} (h : CW s a W) (ha : a + 44 ≤ 124) (hF : FI (wA a) s t) (h0 : ∀ b, a ≤ b → b < a + 7 → sI t b = sI s b) (hr : ∀ r, r < 12 → RoD t (a + 8 + 3 * r) (f r)) (hok : wOk (wSetRo W f)) : CW t a (wSetRo W f) := by
  obtain ⟨hS, ⟨e0, e1, e2, e3, e4, e5, e6, e7, e11, ep, ef, er⟩, hw, hl⟩ := h
  refine ⟨hS.mv hF.2, ⟨?_, ?_, ?_, ?_, ?_, ?_, ?_, ?_, ?_, fun p hp => ?_, fun q hq => ?_, hr⟩, hok, ?_⟩
  · rw [h0 _ (by omega) (by omega)]; exact e0
  · rw [h0 _ (by omega) (by omega)]; exact e1
  · rw [h0 _ (by omega) (by omega)]; exact e2
  · rw [h0 _ (by omega) (by omega)]; exact e3
  · rw [h0 _ (by omega) (by omega)]; exact e4
  · rw [h0 _ (by omega) (by omega)]; exact e5
  · rw [h0 _ (by omega) (by omega)]; exact e6
  · rw [h0 _ (by omega) (by omega)]; exact e7
  · rw [h0 _ (by omega) (by omega)]; exact e11
  · rw [h0 _ (by omega) (by omega), h0 _ (by omega) (by omega)]; exact ep p hp
  · rw [h0 _ (by omega) (by omega), h0 _ (by omega) (by omega), h0 _ (by omega) (by omega)]; exact ef q hq
  · rw [hF.P]
    rcases hl with hl | ⟨hb, hl⟩
    · exact Or.inl hl
    · refine LaD.mv (Or.inr ⟨hb, hl⟩) hF.H fun _ => ?_
      exact ⟨hF.1 _ (by show ¬ (_ ∧ _); omega), hF.1 _ (by show ¬ (_ ∧ _); omega), by rw [hF.P]⟩
theorem CW.rope1 {s t : mS} {a r : Nat} {W : wW} {ρ : rR} (h : CW s a W) (ha : a + 44 ≤ 124) (hr : r < 12) (hF : FI (rAt (a + 8 + 3 * r)) s t) (hD : RoD t (a + 8 + 3 * r) ρ) (hok : wOk (wSetRo W (up (wRo W) r ρ))) : CW t a (wSetRo W (up (wRo W) r ρ)) := by
  refine h.ropes ha (hF.mo fun b hb => ?_) (fun b h1 h2 => hF.1 b (by show ¬ (_ ∨ _ ∨ _); omega)) (fun q hq => ?_) hok
  · have hb : b = a + 8 + 3 * r ∨ b = a + 8 + 3 * r + 1 ∨ b = a + 8 + 3 * r + 2 := hb
    exact ⟨by omega, by omega⟩
  · by_cases hqr : q = r
    · rw [hqr, up_s]; exact hD
    · rw [up_n _ _ hqr]
      exact (h.rd hq).fi hF (by show ¬ (_ ∨ _ ∨ _); omega) (by show ¬ (_ ∨ _ ∨ _); omega) (by show ¬ (_ ∨ _ ∨ _); omega)
section YC
variable {s : mS} {a r : Nat} {W : wW}
theorem c_own (h : CW s a W) (ha : a + 44 ≤ 124) (hr : r < 12) {o : Option Nat} (h0 : 0 < rN (wRo W r)) (ho : ∀ p, o = some p → p < wPe W) : CW (wI s (a + 8 + 3 * r) 0 (oI o)) a (wOw W r o) := by
  obtain ⟨d0, d1, d2, d3, d4, d5, d6⟩ := h.rd hr
  refine h.rope1 ha hr (FI.w _ _ (Or.inl rfl)) ⟨?_, ?_, ?_, ?_, ?_, ?_, fun k hk => ?_⟩ (wOw_ok h.wi h0 ho)
  · rw [sI_wI_eq]; rfl
  · rw [sI_wI_ne (Or.inr (by omega))]; exact d1
  · rw [sI_wI_ne (Or.inr (by omega))]; exact d2
  · rw [sI_wI_ne (Or.inr (by omega))]; exact d3
  · rw [sI_wI_ne (Or.inr (by omega))]; exact d4
  · rw [sI_wI_ne (Or.inr (by omega))]; exact d5
  · rw [sI_wI_ne (Or.inl (by omega)), sI_wI_ne (Or.inl (by omega))]; exact d6 k hk
theorem c_bor0 (h : CW s a W) (ha : a + 44 ≤ 124) (hr : r < 12) : CW (wI s (a + 8 + 3 * r) 1 mI) a (wBw W r none) := by
  obtain ⟨d0, d1, d2, d3, d4, d5, d6⟩ := h.rd hr
  refine h.rope1 ha hr (FI.w _ _ (Or.inl rfl)) ⟨?_, ?_, ?_, ?_, ?_, ?_, fun k hk => ?_⟩ (wBw_ok h.wi r)
  · rw [sI_wI_ne (Or.inr (by omega))]; exact d0
  · rw [sI_wI_eq]; rfl
  · rw [sI_wI_ne (Or.inr (by omega))]; exact d2
  · rw [sI_wI_ne (Or.inr (by omega))]; exact d3
  · rw [sI_wI_ne (Or.inr (by omega))]; exact d4
  · rw [sI_wI_ne (Or.inr (by omega))]; exact d5
  · rw [sI_wI_ne (Or.inl (by omega)), sI_wI_ne (Or.inl (by omega))]; exact d6 k hk
theorem c_split (h : CW s a W) (ha : a + 44 ≤ 124) {q κ : Nat} (hr : r < 12) (hq : q < 12) (hqr : q ≠ r) (h0 : 0 < rN (wRo W r)) (h1 : 1 ≤ κ) (h2 : κ < rL (wRo W r)) : ∃ t, fX3_splitAt (a + 8 + 3 * r) (nI κ) (a + 8 + 3 * q) s = some ((), t) ∧ FI (wA a) s t ∧ CW t a (wSp W r κ q) := by
  have hI := h.ri r
  have hb := rL_b hI
  obtain ⟨t, e1, e2, e3, e4⟩ := t_splitAt (h.rs hr) (h.rd hr) hI (h.rs hq) (by omega) (κ := κ) (by omega)
  have hF : FI (wA a) s t := e2.mo fun b hb => by
    have hb : (b = a + 8 + 3 * r ∨ b = a + 8 + 3 * r + 1 ∨ b = a + 8 + 3 * r + 2) ∨ (b = a + 8 + 3 * q ∨ b = a + 8 + 3 * q + 1 ∨ b = a + 8 + 3 * q + 2) := hb
    exact ⟨by omega, by omega⟩
  refine ⟨t, e1, hF, h.ropes ha hF (fun b h3 h4 => e2.1 b (by show ¬ ((_ ∨ _ ∨ _) ∨ (_ ∨ _ ∨ _)); omega)) (fun p hp => ?_) (wSp_ok h.wi h0 h1 h2)⟩
  by_cases hpq : p = q
  · rw [hpq, up_s]; exact e4
  · rw [up_n _ _ hpq]
    by_cases hpr : p = r
    · rw [hpr, up_s]; exact e3
    · rw [up_n _ _ hpr]
      exact (h.rd hp).fi e2 (by show ¬ ((_ ∨ _ ∨ _) ∨ (_ ∨ _ ∨ _)); omega) (by show ¬ ((_ ∨ _ ∨ _) ∨ (_ ∨ _ ∨ _)); omega) (by show ¬ ((_ ∨ _ ∨ _) ∨ (_ ∨ _ ∨ _)); omega)
/-- the facts are written -/
theorem CW.fc (h : CW s a W) (ha : a + 44 ≤ 124) (j : Nat) (x : Int32) : CW (wI s (a + 7) j x) a W := by
  have hF : FI (fun b => b = a + 7) s (wI s (a + 7) j x) := FI.w _ _ rfl
  obtain ⟨hS, ⟨e0, e1, e2, e3, e4, e5, e6, e7, e11, ep, ef, er⟩, hw, hl⟩ := h
  have g : ∀ b, b ≠ a + 7 → sI (wI s (a + 7) j x) b = sI s b := fun b hb => hF.1 b hb
  refine ⟨hS.mv hF.2, ⟨?_, ?_, ?_, ?_, ?_, ?_, ?_, ?_, ?_, fun p hp => ?_, fun q hq => ?_, fun q hq => ?_⟩, hw, ?_⟩
  · rw [g _ (by omega)]; exact e0
  · rw [g _ (by omega)]; exact e1
  · rw [g _ (by omega)]; exact e2
  · rw [g _ (by omega)]; exact e3
  · rw [g _ (by omega)]; exact e4
  · rw [g _ (by omega)]; exact e5
  · rw [g _ (by omega)]; exact e6
  · rw [g _ (by omega)]; exact e7
  · rw [g _ (by omega)]; exact e11
  · rw [g _ (by omega), g _ (by omega)]; exact ep p hp
  · rw [g _ (by omega), g _ (by omega), g _ (by omega)]; exact ef q hq
  · exact (er q hq).mv (g _ (by omega)) (g _ (by omega)) (g _ (by omega))
  · rw [hF.P]
    rcases hl with hl | ⟨hb, hl⟩
    · exact Or.inl hl
    · refine LaD.mv (Or.inr ⟨hb, hl⟩) hF.H fun _ => ?_
      exact ⟨hF.1 _ (by omega), hF.1 _ (by omega), by rw [hF.P]⟩
def ffS (s : mS) (a : Nat) (v : Nat → Nat) : Nat → mS
  | 0 => s
  | k + 1 => wI (ffS s a v k) (a + 7) k (nI (v k))
theorem ffS_cw (h : CW s a W) (ha : a + 44 ≤ 124) (v : Nat → Nat) : ∀ k, CW (ffS s a v k) a W
  | 0 => h
  | k + 1 => (ffS_cw h ha v k).fc ha _ _
theorem ffS_fi (s : mS) (a : Nat) (v : Nat → Nat) : ∀ k, FI (fun b => b = a + 7) s (ffS s a v k)
  | 0 => FI.rf
  | k + 1 => (ffS_fi s a v k).tr (FI.w _ _ rfl)
theorem ffS_at (s : mS) (a : Nat) (v : Nat → Nat) : ∀ k i, i < k → sI (ffS s a v k) (a + 7) i = nI (v i)
  | 0, i, h => by omega
  | k + 1, i, h => by
    show sI (wI (ffS s a v k) (a + 7) k (nI (v k))) (a + 7) i = _
    by_cases hi : i = k
    · rw [hi, sI_wI_eq]
    · rw [sI_wI_ne (Or.inr hi)]; exact ffS_at s a v k i (by omega)
theorem ffS_w (h : CW s a W) (ha : a + 44 ≤ 124) (v : Nat → Nat) {k : Nat} (hk : k < 8) {x : Int32} (hx : x = nI (v k)) {α : Type} {m : mM α} : bSI (a + 7) (nI k) x m (ffS s a v k) = m (ffS s a v (k + 1)) := by
  subst hx
  exact xSI (ffS_cw h ha v k).1.2.2.2.2.2.2.2.2.2.2.2.2.2.2.1 hk (by decide)
theorem c_findFacts (h : CW s a W) (ha : a + 44 ≤ 124) (hr : r < 12) (h0 : 0 < rN (wRo W r)) {hs : Nat} (hs8 : hs < 256) : ∃ t, fX7_findFacts a (a + 8 + 3 * r) (nI hs) s = some ((), t) ∧ FI (fun b => b = a + 7) s t ∧ CW t a W ∧ ∀ i, i < 8 → sI t (a + 7) i = nI (wFx W r hs i) := by
  have hI := h.ri r
  have hE := rE_b hI
  have hde := wDe_le h.wi
  have K := ffS_cw h ha (wFx W r hs)
  refine ⟨ffS s a (wFx W r hs) 8, ?_, ffS_fi s a _ 8, K 8, ffS_at s a _ 8⟩
  have e39 : fX7_findFacts_39 a (a + 8 + 3 * r) (nI hs) (nI (wFx W r hs 1)) (nI 1) (a + 7) (ffS s a (wFx W r hs) 1) = some ((), ffS s a (wFx W r hs) 8) := by
    unfold fX7_findFacts_39
    rw [ffS_w h ha (wFx W r hs) (k := 1) (x := nI (wFx W r hs 1)) (by decide) rfl, g_afc (K 2), xGIe ((K 2).rs hr).1 ((K 2).rd hr).2.2.2.1, show (2 : Int32) = nI 2 from rfl, ffS_w h ha (wFx W r hs) (k := 2) (x := nI (rL (wRo W r))) (by decide) rfl]
    rw [g_afc (K 3), e_callV ((K 3).rs hr).1, x_call (t_reach ((K 3).rs hr) ((K 3).rd hr) hI h0), show (3 : Int32) = nI 3 from rfl, ffS_w h ha (wFx W r hs) (k := 3) (x := nI (rE (wRo W r))) (by decide) rfl]
    rw [g_afc (K 4), e_callV ((K 4).rs hr).1, x_call (t_knots ((K 4).rs hr) ((K 4).rd hr) h0), show (4 : Int32) = nI 4 from rfl, ffS_w h ha (wFx W r hs) (k := 4) (x := nI (rK (wRo W r))) (by decide) rfl]
    rw [g_afc (K 5), e_callV ((K 5).rs hr).1, x_call (t_oldest ((K 5).rs hr) ((K 5).rd hr) hI), g_yr (K 5), nI_add, show (5 : Int32) = nI 5 from rfl, ffS_w h ha (wFx W r hs) (k := 5) (x := nI (rA (wRo W r) + wYr W)) (by decide) rfl]
    rw [g_afc (K 6), x_call (j_bitCount (by omega) _), show (6 : Int32) = nI 6 from rfl, ffS_w h ha (wFx W r hs) (k := 6) (x := nI (pc hs)) (by decide) rfl]
    rw [g_afc (K 7), g_yr (K 7), show (7 : Int32) = nI 7 from rfl, ffS_w h ha (wFx W r hs) (k := 7) (x := nI (wYr W)) (by decide) rfl]
    rfl
  have e17 : fX7_findFacts_17 a (a + 8 + 3 * r) (nI hs) (nI (wFx W r hs 0)) (nI 0) (a + 7) s = some ((), ffS s a (wFx W r hs) 8) := by
    unfold fX7_findFacts_17
    have w0 : ∀ {α : Type} {m : mM α}, bSI (a + 7) (nI 0) (nI (wFx W r hs 0)) m s = m (ffS s a (wFx W r hs) 1) := fun {α} {m} => ffS_w h ha (wFx W r hs) (k := 0) (x := nI (wFx W r hs 0)) (by decide) rfl
    rw [w0, g_afc (K 1), e_callV ((K 1).rs hr).1, x_call (t_reach ((K 1).rs hr) ((K 1).rd hr) hI h0), e_callV (K 1).k, x_call (c_depthNow (K 1))]
    simp (disch := omega) only [li_0, li_1, li_2, li_3, li_4, li_5, li_6, li_7, li_8, li_9, li_10, li_11, li_12, li_13, li_14, li_15, li_16, li_17, li_20, li_24, li_25, li_29, li_31, li_32, li_33, li_37, li_40, li_41, li_48, li_49, li_50, li_56, li_57, li_59, li_60, li_61, li_62, li_63, li_70, li_73, li_85, li_97, li_98, li_99, li_100, li_101, li_102, li_103, li_104, li_105, li_107, li_108, li_109, li_110, li_111, li_112, li_114, li_115, li_116, li_117, li_118, li_119, li_121, li_122, li_140, li_193, li_200, li_240, li_255, li_289, li_290, li_300, li_302, li_314, li_326, li_860, li_880, li_900, li_999, li_1024, li_2801, li_3440, li_3441, li_3442, li_3443, li_3444, li_3447, li_3448, li_3449, li_3457, li_3465, li_3469, li_3473, li_3477, li_3501, li_3513, li_3525, li_3537, li_3633, li_3730, li_3742, li_3754, li_3766, li_4095, li_4096, li_4300, li_9011, li_9999, li_10000, li_36864, li_65536, li_1000000, ll_0, ll_1, ll_100, ll_11, ll_16, ll_20, ll_3, ll_32, ll_50, ll_8, ll_96, ll_99, ll_9999, ne_m1, e_if, e_ret, e_rz0, e_rz1, e_rzb, e_call, bCallX_eq, nI_add, nI_mul, nI_succ1, le_i, lt_i, eq_i, m1_i, m1_le, m1_lt, m1_ge, m1_eq, ite_true, ite_false, if_true, if_false]
    have e1 : wFx W r hs 1 = (decide (wDe W ≤ rE (wRo W r))).toNat := rfl
    by_cases hc : rE (wRo W r) < wDe W
    · rw [if_pos hc]
      rw [e1, show decide (wDe W ≤ rE (wRo W r)) = false by simp; omega] at e39
      exact e39
    · rw [if_neg hc]
      rw [e1, show decide (wDe W ≤ rE (wRo W r)) = true by simp; omega] at e39
      exact e39
  unfold fX7_findFacts
  rw [g_afc h, xGIe (h.rs hr).1 (h.rd hr).2.2.2.2.1]
  have e0 : wFx W r hs 0 = (rH (wRo W r)).toNat := rfl
  rw [e0] at e17
  cases hh : rH (wRo W r) with
  | false => rw [hh] at e17; exact e17
  | true => rw [hh] at e17; exact e17
end YC

/-! THE WHOLE TEXT OF A LAW, both readers -/
section LTEXT
variable {s t : mS} {C : Nat → Nat} {N m : Nat}
theorem j_readLaw (hS : CS s) (hC3 : ∀ k, k < N → sI s 3 k = xb (C k) ∧ C k < 256) (hT : RT t) (hC7 : ∀ k, k < N → sI t 117 k = xb (C k) ∧ C k < 256) (hN : N ≤ 300) (h8 : sI t 113 8 = nI m) (hm : m ≤ 900) (hNm : N ≤ m) : ∃ v' t' r, fX1_readLaw 111 (nI N) s = some (r, v') ∧ fX9_law 113 (nI N) t = fX9_law_59 113 t' ∧ JF C N s (x00 t N) v' t' r := by
  -- the class
  obtain ⟨u1, hu1⟩ : ∃ u1, u1 = wI (wI (wI s 111 1 (nI 0)) 111 2 (nI 0)) 111 3 (nI 0) := ⟨_, rfl⟩
  have hF1 : FI a11 s u1 := by
    rw [hu1]
    exact ((FI.w (A := a11) _ _ (Or.inr (Or.inl rfl))).tr (FI.w (A := a11) _ _ (Or.inr (Or.inl rfl)))).tr (FI.w (A := a11) _ _ (Or.inr (Or.inl rfl)))
  have hS1 : CS u1 := hS.fi hF1
  have hb3 : ∀ k, k < N → sI u1 3 k = xb (C k) ∧ C k < 256 := fun k hk => by
    rw [hF1.1 3 (by decide)]
    exact hC3 k hk
  obtain ⟨v1, d1, d2, d3⟩ := c_open hS1 (by omega) hb3
  have h111 : sI v1 111 = sI u1 111 := d2.1 111 (by decide)
  have hc : JLc v1 [] [] 0 := by
    refine ⟨?_, ?_, ?_, fun i hi => absurd hi (Nat.not_lt_zero i)⟩
    · rw [h111, hu1, sI_wI_ne (Or.inr (by decide)), sI_wI_ne (Or.inr (by decide)), sI_wI_eq]
      rfl
    · rw [h111, hu1, sI_wI_ne (Or.inr (by decide)), sI_wI_eq]
    · rw [h111, hu1, sI_wI_eq]
      rfl
  -- the reference
  have hTa : RT (wI t 113 1 (nI 0)) := hT.w
  have hTb : RT (wI (wI t 113 1 (nI 0)) 113 0 (nI 0)) := hTa.w
  have h8b : sI (wI (wI t 113 1 (nI 0)) 113 0 (nI 0)) 113 8 = nI m := by
    rw [sI_wI_ne (Or.inr (by decide)), sI_wI_ne (Or.inr (by decide))]
    exact h8
  obtain ⟨t0, f1, f2, f3⟩ := x_opens3 (C := C) hTb hN h8b hm hNm (fun k hk => by
    rw [sI_wI_ne (Or.inl (by decide)), sI_wI_ne (Or.inl (by decide))]
    exact hC7 k hk)
  have hT0 := f3.1.1
  have hT1 : RT (wI t0 113 31 (nI 0)) := hT0.w
  have hT2 : RT (wI (wI t0 113 31 (nI 0)) 113 19 (nI 0)) := hT1.w
  obtain ⟨t1, ht1⟩ : ∃ t1, t1 = wI (wI (wI t0 113 31 (nI 0)) 113 19 (nI 0)) 113 20 (nI 0) := ⟨_, rfl⟩
  have r1 : RG t1 C N (sk C N 0) := by
    rw [ht1]
    exact ((f3.i (by decide)).i (by decide)).i (by decide)
  have hr : JLr t1 [] [] 0 := by
    refine ⟨?_, ?_, ?_, fun i hi => absurd hi (Nat.not_lt_zero i), fun i hi => absurd hi (Nat.not_lt_zero i)⟩
    · rw [ht1, sI_wI_ne (Or.inr (by decide)), sI_wI_ne (Or.inr (by decide)), sI_wI_eq]
      rfl
    · rw [ht1, sI_wI_ne (Or.inr (by decide)), sI_wI_eq]
      rfl
    · rw [ht1, sI_wI_eq]
  have hFr : FWL (x00 t N) t1 := by
    have e : FWL t0 t1 := by
      rw [ht1]
      exact (FWL.i31.tr (FW.i ⟨by decide, by decide⟩).l2).tr (FW.i ⟨by decide, by decide⟩).l2
    exact (f2.fw14).l2.tr e
  have hok : lOk [] := ⟨by decide, by decide, fun q hq => by cases hq⟩
  obtain ⟨v', t', r, z1, z2, z3, z4, z5⟩ := j_laws hN 5000 v1 t1 [] (sk C N 0) 0 0 5000 d3 r1 ⟨hc, hr⟩ hok (by decide) (Nat.zero_le _) (Nat.zero_le _) (by omega) (by omega)
  refine ⟨v', t', r, ?_, ?_, (hF1.tr (d2.mo (fun b hb => Or.inl hb))).tr z3, hFr.tr z4, z5⟩
  · unfold fX1_readLaw
    rw [li_0, li_1, xPI hS.k111, xPI (s := wI s 111 1 (nI 0)) hS.k111, xPI (s := wI (wI s 111 1 (nI 0)) 111 2 (nI 0)) hS.k111, ← hu1, xGR hS1.k111 hS1.p111, e_callV hS1.k106, x_call d1]
    exact z1
  · unfold fX9_law
    rw [li_0, xPI hT.k, xPI hTa.k, e_callV hTb.k, x_call f1, e_if, if_neg (by decide), xPI hT0.k, xPI hT1.k, xPI hT2.k, ← ht1]
    exact z2
end LTEXT
/-! A LAW'S CELLS MADE -/
section MADE
variable {v : mS}
theorem x_cp2 {s : mS} {a0 a n0 n m : Nat} {α : Type} {k : mM α} (h1 : sH s a0 = (11, n0)) (h2 : sH s a = (11, n)) (hm0 : m ≤ n0) (hm : m ≤ n) (hn0 : n0 < 2147483648) : bCpI a0 (nI 0) a (nI 0) (nI m) k s = k (cpI s a0 0 a 0 m) := by
  unfold bCpI
  rw [if_pos ?_, nI_clamp (by omega), nI_clamp (by omega)]
  refine ⟨by rw [h1], by rw [h2], nI_pos (by omega), nI_pos (by omega), nI_pos (by omega), ?_, ?_⟩
  · rw [nI_clamp (by omega), nI_clamp (by omega), h1]; show 0 + m ≤ n0; omega
  · rw [nI_clamp (by omega), nI_clamp (by omega), h2]; show 0 + m ≤ n; omega
def mdS (v : mS) (n nL : Nat) : mS := wI (wP (cpI (wN (wN v 0 2) 11 n) 112 0 (sZ v + 1 + 1) 0 n) (sZ v + 1) 0 (sZ v + 1 + 1)) (sZ v + 1) 1 (nI nL)
theorem c_made (hS : CS v) (hz : 124 ≤ sZ v) {n nL : Nat} (h1 : sI v 111 1 = nI nL) (h3 : sI v 111 3 = nI n) (hn : n < 300) : fX1_made 111 v = some (sZ v + 1, mdS v n nL) := by
  have k1 : (sH (wN v 0 2) 111).1 = 1 := hN hS.k111 (by omega)
  have q1 : sP (wN v 0 2) 111 4 = 112 := by rw [sP_wN, if_neg (by omega)]; exact hS.q111
  have i3 : sI (wN v 0 2) 111 3 = nI n := by rw [sI_wN, if_neg (by omega)]; exact h3
  have g1 : sH (wN v 0 2) 112 = (11, 300) := by rw [sHo (by omega)]; exact hS.h112
  have g2 : sH (wN (wN v 0 2) 11 n) 112 = (11, 300) := by rw [sHo (by rw [sZ_wN]; omega)]; exact g1
  have g3 : sH (wN (wN v 0 2) 11 n) (sZ v + 1 + 1) = (11, n) := by rw [sH_wN, sZ_wN, if_pos rfl]
  have hcp : fJ7_copyOf_59c91 112 (nI n) (wN v 0 2) = some (sZ v + 1 + 1, cpI (wN (wN v 0 2) 11 n) 112 0 (sZ v + 1 + 1) 0 n) := by
    unfold fJ7_copyOf_59c91
    rw [xLen g1, e_if, if_neg (by rw [eq_i (by omega) (by decide)]; omega), i_na (by omega), sZ_wN, xLen g2, li_0, jMin_i (by decide) (by omega), show min 300 n = n by omega, x_cp2 g2 g3 (by omega) (Nat.le_refl _) (by decide)]
    rfl
  obtain ⟨w, hw⟩ : ∃ w, w = cpI (wN (wN v 0 2) 11 n) 112 0 (sZ v + 1 + 1) 0 n := ⟨_, rfl⟩
  rw [← hw] at hcp
  have kw : (sH w 111).1 = 1 := by
    rw [hw]
    show (sH (wN (wN v 0 2) 11 n) 111).1 = 1
    exact hN k1 (by rw [sZ_wN]; omega)
  have iw : sI w 111 1 = nI nL := by
    rw [hw, sI_cpI_ne (by omega), sI_wN, if_neg (by rw [sZ_wN]; omega), sI_wN, if_neg (by omega)]
    exact h1
  have kb : (sH w (sZ v + 1)).1 = 0 := by
    rw [hw]
    show (sH (wN (wN v 0 2) 11 n) (sZ v + 1)).1 = 0
    rw [sHo (by rw [sZ_wN]; omega), sH_wN, if_pos rfl]
  have hin : fX0_init (sZ v + 1) (sZ v + 1 + 1) (nI nL) w = some ((), mdS v n nL) := by
    unfold fX0_init
    have kp : (sH (wP w (sZ v + 1) 0 (sZ v + 1 + 1)) (sZ v + 1)).1 = 0 := kb
    rw [i_obj (by rw [kb]; decide), xPR kb, xPI kp, hw]
    rfl
  unfold fX1_made
  rw [i_new]
  show bGR 1 111 4 _ (wN v 0 2) = _
  rw [xGR k1 q1, xGIe k1 i3, x_call hcp, xGIe kw iw, e_callV kb, x_call hin]
  rfl
theorem mdS_g (v : mS) (n nL : Nat) : Gw v (mdS v n nL) 2 (2 + n) := by
  have h1 : Gw v (wN (wN v 0 2) 11 n) 2 (2 + n) := (Gw.n v 0 2).tr (Gw.n _ 11 n)
  have h2 : Gw v (cpI (wN (wN v 0 2) 11 n) 112 0 (sZ v + 1 + 1) 0 n) 2 (2 + n) := ⟨fun b hb => ⟨by
    funext i
    rw [sI_cpI_ne (by omega), (h1.1 b hb).1], (h1.1 b hb).2⟩, h1.2⟩
  exact (h2.p (by omega)).i (by omega)
theorem mdS_ld {n : Nat} {L : List (List qS3 × Nat)} (hz : 124 ≤ sZ v) (hn : n = (lEnc L).length) (h112 : ∀ i, i < (lEnc L).length → sI v 112 i = (lEnc L).getD i 0) : LaD (mdS v n L.length) (sZ v + 1) L := by
  subst hn
  refine Or.inr ⟨by omega, ?_, ?_, sI_wI_eq _ _ _ _, ?_, fun j hj => ?_⟩
  · show (sH (wN (wN v 0 2) 11 _) (sZ v + 1)).1 = 0
    rw [sHo (by rw [sZ_wN]; omega), sH_wN, if_pos rfl]
  · show sP (wP _ (sZ v + 1) 0 (sZ v + 1 + 1)) (sZ v + 1) 0 = _
    rw [sP_wP, if_pos ⟨rfl, rfl⟩]
  · show sH (wN (wN v 0 2) 11 _) (sZ v + 1 + 1) = _
    rw [sH_wN, sZ_wN, if_pos rfl]
  · unfold mdS
    rw [sI_wI_ne (Or.inl (by omega))]
    show sI (cpI (wN (wN v 0 2) 11 _) 112 0 (sZ v + 1 + 1) 0 _) (sZ v + 1 + 1) j = _
    rw [sI_cpI_eq hj, sI_wN, if_neg (by rw [sZ_wN]; omega), sI_wN, if_neg (by omega)]
    exact h112 j hj
end MADE

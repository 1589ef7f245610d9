/-! THE CLASS'S NUMBERS OF KNOTS -/
theorem l_fillI {s : mS} {a n : Nat} (hH : sH s a = (11, n)) (hn : n ≤ 60) (x : Int32) : ∃ t, fJ7_fill_53178 a x s = some ((), t) ∧ FI (fun b => b = a) s t ∧ ∀ i, i < n → sI t a i = x := by
  unfold fJ7_fill_53178
  rw [xLen hH]
  have key := loop_s (fun m k => fJ7_fill_53178_5 m a x (nI k) (nI n)) (fun k v => FI (fun b => b = a) s v ∧ ∀ i, i < k → sI v a i = x) n (fun q => FI (fun b => b = a) s q.2 ∧ ∀ i, i < n → sI q.2 a i = x) ?_ ?_ fu 0 s (by omega) (by unfold fu; omega) ⟨FI.rf, fun i hi => absurd hi (by omega)⟩
  · obtain ⟨⟨⟨⟩, t⟩, e1, e2, e3⟩ := key
    exact ⟨t, e1, e2, e3⟩
  · rintro m k v hk ⟨hF, hv⟩
    have hHv : sH v a = (11, n) := by rw [hF.H]; exact hH
    refine ⟨wI v a k x, ⟨hF.tr (FI.w _ _ rfl), fun i hi => ?_⟩, ?_⟩
    · by_cases hik : i = k
      · rw [hik, sI_wI_eq]
      · rw [sI_wI_ne (Or.inr hik)]; exact hv i (by omega)
    · show fJ7_fill_53178_5 (m + 1) a _ _ _ v = _
      rw [qJ7_fill_53178_5, e_if, if_neg (by rw [le_i (by omega) (by omega)]; omega), xSI hHv hk (by omega), nI_succ1]
  · rintro m v ⟨hF, hv⟩
    refine ⟨((), v), ?_, hF, hv⟩
    show fJ7_fill_53178_5 (m + 1) a _ _ _ v = _
    rw [qJ7_fill_53178_5, e_if, if_pos (by rw [le_i (by omega) (by omega)]; omega)]
    rfl
def wgi (W : wW) : Nat → Nat := gi (wth W) (who W) (wre W) (wDe W)
def wgF (W : wW) (S : Nat) : Nat := gF (wgi W) (wcn W 12) (max 1 (wDe W - 1)) S
/-- what the planner tells behind weigh -/
def PL (v : mS) (W : wW) : Prop := sI v 93 0 = nI (decide (wBo W < wDe W)).toNat ∧ sI v 93 1 = nI (wak W 12) ∧ (wDe W ≤ wBo W → ∀ q, q < 13 → sI v 96 q = if wak W 12 < wAn W then oI (fw (wgF W) (2 ^ wcn W 12) q) else if q = 0 then nI 0 else mI)
theorem c_weigh {s : mS} {D : dD} (hC : CP s D) (hD : DOk D) : ∃ v, fX2_weigh 93 4 s = some ((), v) ∧ CP v D ∧ FC s v ∧ PL v (dW D) := by
  obtain ⟨W, hW⟩ : ∃ W, W = dW D := ⟨_, rfl⟩
  have hS := hC.1
  have h : CW s 4 W := by rw [hW]; exact hC.2.2.2.2.1
  have hwi := h.wi
  have hde := wDe_le hwi
  have hbo : wBo W ≤ 999 := hwi.2.2.1
  have hpe : wPe W ≤ 8 := hwi.2.2.2.2.2.2.2.1
  have han : wAn W ≤ wPe W := wAn_le W (wPe W)
  have hak := wak_le W 12
  have hcn := cn_le (th := wth W) (ho := who W) (R := wre W) (D := wDe W) 12
  have hcn : wcn W 12 ≤ 12 := hcn
  have hpow : (2 : Nat) ^ wcn W 12 ≤ 2 ^ 12 := Nat.pow_le_pow_right (by decide) hcn
  have hpow1 : 1 ≤ (2 : Nat) ^ wcn W 12 := Nat.two_pow_pos _
  obtain ⟨dry, hdry⟩ : ∃ b, b = decide (wBo W < wDe W) := ⟨_, rfl⟩
  have hS1 : ∀ (j : Nat) (x : Int32), CS (wI s 93 j x) := fun _ _ => hS.w
  -- the beginning
  have hbeg : fX2_weigh 93 4 s = fX2_weigh_41 fu 93 4 (nI (wDe W)) (nI 0) (wI (wI (wI (wI s 93 0 (nI dry.toNat)) 93 3 (nI (wDe W) - nI 1)) 93 1 (nI 0)) 93 2 (nI 0)) := by
    have h19 : ∀ z : Int32, z = nI dry.toNat → fX2_weigh_19 93 4 (nI (wDe W)) z 93 s = fX2_weigh_41 fu 93 4 (nI (wDe W)) (nI 0) (wI (wI (wI (wI s 93 0 (nI dry.toNat)) 93 3 (nI (wDe W) - nI 1)) 93 1 (nI 0)) 93 2 (nI 0)) := fun z hz => by
      subst hz
      unfold fX2_weigh_19
      refine Eq.trans (xPZ (by exact hS.k93) (by cases dry <;> simp <;> decide)) ?_
      refine Eq.trans (xPI (by exact hS.k93)) ?_
      refine Eq.trans (xPI (by exact hS.k93)) ?_
      refine Eq.trans (xPI (by exact hS.k93)) ?_
      rfl
    unfold fX2_weigh
    rw [e_callV h.k, x_call (c_depthNow h), g_bo h, e_if]
    by_cases hd : wDe W ≤ wBo W
    · rw [if_pos (by rw [le_i (by omega) (by omega)]; exact hd)]
      exact h19 _ (by rw [hdry, decide_eq_false (by omega)]; rfl)
    · rw [if_neg (by rw [le_i (by omega) (by omega)]; exact hd)]
      exact h19 _ (by rw [hdry, decide_eq_true (by omega)]; rfl)
  have hF0 : FI pA0 s (wI (wI (wI (wI s 93 0 (nI dry.toNat)) 93 3 (nI (wDe W) - nI 1)) 93 1 (nI 0)) 93 2 (nI 0)) := (((FI.w (A := pA0) 0 (nI dry.toNat) (Or.inl rfl)).tr (FI.w 3 _ (Or.inl rfl))).tr (FI.w 1 _ (Or.inl rfl))).tr (FI.w 2 _ (Or.inl rfl))
  obtain ⟨v1, e1, f1, g1, z1, y1⟩ := c_gain hC hW (z := nI dry.toNat) (y := nI (wDe W) - nI 1) _ hF0 ⟨by rw [sI_wI_ne (Or.inr (by decide)), sI_wI_eq]; rfl, sI_wI_eq _ _ _ _, fun i hi => absurd hi (Nat.not_lt_zero _)⟩ (by rw [sI_wI_ne (Or.inr (by decide)), sI_wI_ne (Or.inr (by decide)), sI_wI_ne (Or.inr (by decide)), sI_wI_eq]) (by rw [sI_wI_ne (Or.inr (by decide)), sI_wI_ne (Or.inr (by decide)), sI_wI_eq])
  have hSv1 := hS.fi f1
  obtain ⟨v2, e2, f2, g2⟩ := l_fillI hSv1.h96 (by decide) mI
  have hSv2 := hSv1.fi f2
  obtain ⟨v3, hv3⟩ : ∃ v3, v3 = wI v2 96 0 (nI 0) := ⟨_, rfl⟩
  have hSv3 : CS v3 := by rw [hv3]; exact hSv2.w
  have fA : FI (fun b => b = 93 ∨ b = 94 ∨ b = 96) s v3 := by
    rw [hv3]
    exact ((f1.mo (fun b hb => by rcases hb with hb | hb <;> omega)).tr (f2.mo (fun b hb => Or.inr (Or.inr hb)))).tr (FI.w _ _ (Or.inr (Or.inr rfl)))
  have e93 : ∀ j, sI v3 93 j = sI v1 93 j := fun j => by
    rw [hv3, sI_wI_ne (Or.inl (by decide)), f2.1 93 (by decide)]
  have e94 : ∀ j, sI v3 94 j = sI v1 94 j := fun j => by
    rw [hv3, sI_wI_ne (Or.inl (by decide)), f2.1 94 (by decide)]
  have e96 : ∀ q, q < 13 → sI v3 96 q = if q = 0 then nI 0 else mI := fun q hq => by
    by_cases hq0 : q = 0
    · rw [hv3, hq0, sI_wI_eq, if_pos rfl]
    · rw [hv3, sI_wI_ne (Or.inr hq0), g2 q hq, if_neg hq0]
  have hpA : ∀ b, (b = 93 ∨ b = 94 ∨ b = 96) → (93 ≤ b ∧ b < 98) ∨ b = cF s := fun b hb => by omega
  have hC3 : CP v3 D := hC.pf hD fA hpA
  have h3 : CW v3 4 W := by rw [hW]; exact hC3.2.2.2.2.1
  have hmid : fX2_weigh 93 4 s = bIf (nI dry.toNat = 0) (bCallV 7 4 (fX7_countAlive 4) (fun x4 => bGI 2 93 1 (fun x5 => bIf (x4 ≤ x5) (bRet ()) (bCallV 2 93 (fX2_fillSets 93) (fun _ => bRet ()))))) (bRet ()) v3 := by
    rw [hbeg, e1]
    unfold fX2_weigh_142
    have hm : ((-1 : Int32)) = mI := rfl
    rw [xGR hSv1.k93 hSv1.p6, hm, x_call e2, xGR hSv2.k93 hSv2.p6, li_0, xSI hSv2.h96 (by decide) (by decide), ← hv3, xGIe hSv3.k93 ((e93 0).trans z1)]
  have hFC3 : FC s v3 := fA.fr.c (fun b hb hr => by have h1 : 113 ≤ b := hr.1; omega)
  by_cases hd : wDe W ≤ wBo W
  · have hdf : dry = false := by rw [hdry, decide_eq_false (by omega)]
    rw [hdf] at hmid z1
    have hmid2 : fX2_weigh 93 4 s = bIf (nI (wAn W) ≤ nI (wak W 12)) (bRet ()) (bCallV 2 93 (fX2_fillSets 93) (fun _ => bRet ())) v3 := by
      rw [hmid, e_if, if_pos (by decide), e_callV h3.k, x_call (c_countAlive h3), xGIe hSv3.k93 ((e93 1).trans g1.1)]
    by_cases hal : wAn W ≤ wak W 12
    · refine ⟨v3, ?_, hC3, hFC3, ?_, ?_, fun _ q hq => ?_⟩
      · rw [hmid2, e_if, if_pos (by rw [le_i (by omega) (by omega)]; exact hal)]
        rfl
      · rw [e93, z1, ← hW, ← hdry, hdf]
      · rw [e93, g1.1, ← hW]
      · rw [e96 q hq, ← hW]
        exact (if_neg (by omega)).symm
    · have hmid3 : fX2_weigh 93 4 s = bCall (fX2_fillSets 93) (fun _ => bRet ()) v3 := by
        rw [hmid2, e_if, if_neg (by rw [le_i (by omega) (by omega)]; exact hal), e_callV hSv3.k93]
      obtain ⟨len, l1, l2, l3⟩ : ∃ n, sH v3 (cF v3) = (11, n) ∧ 1 ≤ n ∧ n ≤ 4096 := hC3.2.2.2.2.2.2.2.1
      have l4 := hC3.2.2.2.2.2.2.2.2.1
      have hz3 := hC3.2.2.2.2.2.2.1
      have hgN : 0 < wcn W 12 → nI (wDe W) - nI 1 = nI (max 1 (wDe W - 1)) := fun h0 => by
        obtain ⟨r, r1, r2, r3⟩ := cn_ex (th := wth W) (ho := who W) (R := wre W) (D := wDe W) 12 0 h0
        have r4 : wth W r = true ∧ wre W r < wDe W ∧ who W r = false ∧ 1 < wre W r := by
          unfold iG at r2
          simpa using r2
        rw [sub_i (by omega), Nat.max_eq_right (by omega)]
      have hgl : ∀ i, i < wcn W 12 → wgi W i < 2000 := fun i _ => by
        have := rE_b (hwi.2.2.2.2.2.2.2.2.2.2.2.2.1 (wgp W 12 i))
        show wre W (wgp W 12 i) - 1 < 2000
        show rE (wRo W (wgp W 12 i)) - 1 < 2000
        omega
      have hN : 0 < max 1 (wDe W - 1) := by omega
      have hN1 : max 1 (wDe W - 1) ≤ 1000 := by omega
      have hfin : ∀ (v4 : mS) (f len2 : Nat), CP v4 D → (f = cF v4) → (∀ j, sI v4 93 j = sI v3 93 j ∧ sI v4 94 j = sI v3 94 j ∧ sI v4 96 j = sI v3 96 j) → sH v4 f = (11, len2) → 2 ^ wcn W 12 ≤ len2 → len2 ≤ 4096 → ∃ v, fX2_fillSets_23 93 (nI (2 ^ wcn W 12)) v4 = some ((), v) ∧ CP v D ∧ FI (fun b => b = f ∨ b = 96) v4 v ∧ PL v W := by
        intro v4 f len2 hC4 hf hsame hH hl1 hl2
        have hSv4 := hC4.1
        have hf3 : f = 95 ∨ 124 < f := by
          rw [hf]
          rcases hC4.2.2.2.2.2.2.2.2.1 with h | h
          · exact Or.inl h
          · exact Or.inr h.1
        have hfh : fH v4 (wgi W) (wcn W 12) (max 1 (wDe W - 1)) f len2 := by
          refine ⟨hSv4, hf.symm, hf3, hH, ?_, fun i hi => ?_, fun h0 => ?_⟩
          · rw [(hsame 2).1, e93]; exact g1.2.1
          · rw [(hsame i).2.1, e94]; exact g1.2.2 i hi
          · rw [(hsame 3).1, e93, y1]; exact hgN h0
        obtain ⟨v, k1, k2, k3⟩ := c_fill hfh hcn hN hN1 hgl hl1 hl2 (fun q hq => by rw [(hsame q).2.2]; exact e96 q hq)
        have k93 : sI v 93 = sI v4 93 := k2.1 93 (by rintro (h | h) <;> omega)
        refine ⟨v, k1, hC4.pf hD k2 (fun b hb => ?_), k2, ?_, ?_, fun _ q hq => ?_⟩
        · rcases hb with hb | hb
          · exact Or.inr (hb.trans hf)
          · omega
        · rw [k93, (hsame 0).1, e93, z1, ← hdry, hdf]
        · rw [k93, (hsame 1).1, e93, g1.1]
        · rw [if_pos (by omega)]
          exact k3 q hq
      have hset : (1 : Int32) <<< (nI (wcn W 12) &&& 31) = nI (2 ^ wcn W 12) := by rw [li_31, li_1, one_shl (by omega)]
      by_cases hle : 2 ^ wcn W 12 ≤ len
      · obtain ⟨v, k1, k2, k3, k4⟩ := hfin v3 (cF v3) len hC3 rfl (fun _ => ⟨rfl, rfl, rfl⟩) l1 hle l3
        have hff : FI (fun b => b = 93 ∨ b = 94 ∨ b = 96 ∨ b = cF v3) s v := (fA.mo (fun b hb => by omega)).tr (k3.mo (fun b hb => by omega))
        refine ⟨v, ?_, k2, hff.fr.c (fun b hb hr => ?_), by rw [← hW]; exact k4⟩
        · rw [hmid3]
          unfold fX2_fillSets
          rw [e_call, xGIe hSv3.k93 ((e93 2).trans g1.2.1), xGR hSv3.k93 rfl, xLen l1, hset, e_if, if_pos (by rw [le_i (by omega) (by omega)]; exact hle), k1]
          rfl
        · have h1 : 113 ≤ b := hr.1
          have h2 : b ≤ 124 := hr.2
          omega
      · have hC4 := hC3.nf (n := 2 ^ wcn W 12) hD.2.2.1 ⟨hpow1, hpow⟩
        obtain ⟨v4, hv4⟩ : ∃ v4, v4 = wP (wN v3 11 (2 ^ wcn W 12)) 93 5 (sZ v3 + 1) := ⟨_, rfl⟩
        rw [← hv4] at hC4
        have hc4 : cF v4 = sZ v3 + 1 := by
          show sP v4 93 5 = _
          rw [hv4, sP_wP, if_pos ⟨rfl, rfl⟩]
        have hGw := Gw.n v3 11 (2 ^ wcn W 12)
        have hI4 : ∀ b, b ≤ sZ v3 → sI v4 b = sI v3 b := fun b hb => by rw [hv4]; exact (hGw.1 b hb).1
        obtain ⟨v, k1, k2, k3, k4⟩ := hfin v4 (sZ v3 + 1) (2 ^ wcn W 12) hC4 hc4.symm (fun j => ⟨by rw [hI4 93 (by omega)], by rw [hI4 94 (by omega)], by rw [hI4 96 (by omega)]⟩) (by rw [hv4]; show sH (wN v3 11 _) (sZ v3 + 1) = _; rw [sH_wN, if_pos rfl]) (Nat.le_refl _) hpow
        refine ⟨v, ?_, k2, ?_, by rw [← hW]; exact k4⟩
        · rw [hmid3]
          unfold fX2_fillSets
          rw [e_call, xGIe hSv3.k93 ((e93 2).trans g1.2.1), xGR hSv3.k93 rfl, xLen l1, hset, e_if, if_neg (by rw [le_i (by omega) (by omega)]; exact hle), i_na (by omega), xPR (by rw [sHo (by omega)]; exact hSv3.k93), ← hv4, k1]
          rfl
        · have hz4 : sZ v4 = sZ v3 + 1 := by rw [hv4]; rfl
          have hw4 : sW v4 = sW v3 + 2 ^ wcn W 12 := by rw [hv4]; rfl
          have hzA := fA.Z
          have hwA := fA.W
          have hz5 := k3.Z
          have hw5 := k3.W
          refine ⟨fun b hb => ?_, fun b hb => ?_, by omega, by omega, by omega, by omega⟩
          · have h1 := hb.1
            have h2 := hb.2
            have q := fA.fr.1 b (by omega)
            have q2 := k3.fr.1 b (by omega)
            have q3 := hGw.1 b (by omega)
            refine ⟨q2.1.trans ((hI4 b (by omega)).trans q.1), q2.2.1.trans (Eq.trans ?_ (q3.2.1.trans q.2.1)), q2.2.2.trans (Eq.trans ?_ (q3.2.2.1.trans q.2.2))⟩
            · rw [hv4]; rfl
            · rw [hv4]
              funext i
              rw [sP_wP, if_neg (by omega)]
          · rw [k3.H, hv4]
            show sH (wN v3 11 _) b = _
            rw [sHo (by omega), fA.H]
  · have hdf : dry = true := by rw [hdry, decide_eq_true (by omega)]
    refine ⟨v3, ?_, hC3, hFC3, ?_, ?_, fun hc => absurd hc (by rw [← hW]; exact hd)⟩
    · rw [hmid, hdf, e_if, if_neg (by decide)]
      rfl
    · rw [e93, z1, ← hW, ← hdry]
    · rw [e93, g1.1, ← hW]
/-- the fewest knots for so many -/
def kf (W : wW) (n : Nat) : Option Nat := if n ≤ wak W 12 then some 0 else (fw (wgF W) (2 ^ wcn W 12) (n - wak W 12)).map (fun m => m - (n - wak W 12))
theorem max0_i : ∀ n, n < 9 → ∀ a, a < 13 → jMax (0 : Int32) (nI n - nI a) = nI (n - a) := by decide
theorem wgF_0 (W : wW) : wgF W 0 = 0 := by
  rcases gF_at (g := wgi W) (n := wcn W 12) (N := max 1 (wDe W - 1)) 0 with h | ⟨i, -, h2, -⟩
  · exact h
  · rw [Nat.zero_testBit] at h2; cases h2
theorem fw_0 (W : wW) (k : Nat) (hk : 1 ≤ k) : fw (wgF W) k 0 = some 0 := by
  cases h : fw (wgF W) k 0 with
  | none => exact absurd (by rw [wgF_0]) (fw_none _ _ _ h 0 (by omega))
  | some m =>
    have := (fw_some _ _ _ _ h).2 0 (by omega) (by rw [wgF_0])
    have hca0 : ca 0 = 0 := sm_z _ 12
    rw [show m = 0 by omega]
theorem c_knotsFor {v : mS} {W : wW} (hS : CS v) (h : PL v W) (hn8 : wAn W ≤ 8) (hde : wDe W ≤ 999) {n : Nat} (hn : n ≤ wAn W) : fX2_knotsFor 93 (nI n) v = some (if wBo W < wDe W then mI else oI (kf W n), v) := by
  obtain ⟨h1, h2, h3⟩ := h
  have hak := wak_le W 12
  unfold fX2_knotsFor
  rw [xGIe hS.k93 h1, e_if]
  by_cases hd : wBo W < wDe W
  · rw [decide_eq_true hd, if_neg (by decide), if_pos hd]
    rfl
  · have h3 := h3 (by omega) (n - wak W 12) (by omega)
    have h4 : sI v 96 (n - wak W 12) = oI (fw (wgF W) (2 ^ wcn W 12) (n - wak W 12)) := by
      rw [h3]
      by_cases hlt : wak W 12 < wAn W
      · rw [if_pos hlt]
      · have e0 : n - wak W 12 = 0 := by omega
        rw [if_neg hlt, if_pos e0, e0, fw_0 W _ (Nat.two_pow_pos _)]
        rfl
    rw [decide_eq_false hd, if_pos (by decide), if_neg hd, xGIe hS.k93 h2, max0_i n (by omega) _ (by omega), e_if, if_neg (by rw [li_12, lt_i (by omega) (by omega)]; omega), xGR hS.k93 hS.p6, xAIe hS.h96 (by omega) (by decide) h4, e_if, xGR hS.k93 hS.p6, xAIe hS.h96 (by omega) (by decide) h4]
    unfold kf
    by_cases hle : n ≤ wak W 12
    · have e0 : n - wak W 12 = 0 := by omega
      rw [e0, fw_0 W _ (Nat.two_pow_pos _), oI_s, if_neg (by decide), if_pos hle]
      show some (nI 0 - nI 0, v) = _
      rw [sub_i (Nat.le_refl _)]
      rfl
    · rw [if_neg hle]
      cases hf : fw (wgF W) (2 ^ wcn W 12) (n - wak W 12) with
      | none =>
        rw [oI_n, if_pos (by decide)]
        rfl
      | some m =>
        have hm := fw_12 _ _ _ _ hf
        obtain ⟨⟨S, -, s2, s3⟩, -⟩ := fw_some _ _ _ _ hf
        have hN1 : max 1 (wDe W - 1) ≤ 1000 := by omega
        have hc := gF_card (g := wgi W) (n := wcn W 12) (N := max 1 (wDe W - 1)) (cn_le 12) (by omega) hN1 S
        have s2 : gF (wgi W) (wcn W 12) (max 1 (wDe W - 1)) S / 1024 = n - wak W 12 := s2
        rw [if_neg (by rw [li_1, ne_m1, oI_s, m1_i (by omega)]; exact id), oI_s]
        show some (nI m - nI (n - wak W 12), v) = _
        rw [sub_i (by omega)]
        rfl

/-! MARK, BACK: the calls -/
theorem RN.mk {s : mS} {n : dN} (h : RN s n) (m : Nat) : RN (wI s 113 28 (nI m)) (n.1, n.2.1, n.2.2.1, n.2.2.2.1, n.2.2.2.2.1, n.2.2.2.2.2.1, m) := by
  obtain ⟨h1, h2, h3, h4, h5, h6, h7⟩ := h
  refine ⟨?_, h2, h3, ?_, ?_, ?_, sI_wI_eq _ _ _ _⟩
  · rw [sI_wI_ne (Or.inr (by decide))]; exact h1
  · rw [sI_wI_ne (Or.inr (by decide))]; exact h4
  · rw [sI_wI_ne (Or.inr (by decide))]; exact h5
  · rw [sI_wI_ne (Or.inr (by decide))]; exact h6
theorem dMk_ok {D : dD} (h : DOk D) {m : Nat} {W : wW} {M : Nat → wW} (hm : m ≤ 3) : DOk (dMk D m W M) := ⟨(by decide : 0 < 12), h.2.1, hm, h.2.2.2⟩
theorem fr118 {s t : mS} (h : FI at118 s t) : FR rfA s t := (h.mo (B := rfA) (fun b hb => by have hb : b = 118 := hb; subst hb; exact ⟨by decide, by decide⟩)).fr
theorem s_mark : Sim (fX8_mark 1) (fX9_mark 113) := by
  intro s t D hC hR hD
  have hS := hC.1
  have hT := hR.1.1
  have hR0 := hR.q0 hD
  have hT0 : RT (q0 t) := hR0.1.1
  have hD0 : DOk (dSt D 0) := dSt_ok hD (by decide)
  have hm := hD.2.2.1
  obtain ⟨nm, hnm⟩ : ∃ nm, nm = nMk (dNn D) := ⟨_, rfl⟩
  have e6 : sI s 1 6 = nI nm := by rw [hnm]; exact hC.2.1.2.2.2.2.2.2
  have e28 : sI (q0 t) 113 28 = nI nm := by rw [hnm]; exact hR0.2.1.2.2.2.2.2.2
  have hnm3 : nm ≤ 3 := by omega
  by_cases h3 : nm < 3
  · have hcl : ∃ t, fX8_mark 1 s = some (nI (nm + 1), t) ∧ CP t (dMk D (nm + 1) (dW D) (up (dM D) nm (dW D))) ∧ FC s t := by
      have h1 : fX8_mark 1 s = if ¬ cM s nm = 0 then fX8_mark_43 1 s else bNew 7 (fun x7 => bCallV 7 x7 (fX7_init x7) (fun _ => bSR 16 92 (nI nm) x7 (fX8_mark_43 1))) s := by
        unfold fX8_mark
        rw [k_get hS e6, e_if, if_pos (by rw [li_3, lt_i (by omega) (by omega)]; exact h3), k_marks hS, k_get hS e6, xAR hS.2.1.2.2.1 h3 (by decide) rfl, e_if]
        by_cases h0 : sP s 92 nm = 0
        · rw [if_neg (by rw [h0]; exact fun h => h rfl), if_neg (by show ¬ ¬ sP s 92 nm = 0; rw [h0]; exact fun h => h rfl), k_marks hS, k_get hS e6]
        · rw [if_pos h0, if_pos h0]
      by_cases h0 : cM s nm = 0
      · obtain ⟨u, f1, f2, f3, f4⟩ := c_worldNew s
        have hz : 124 ≤ sZ s := hC.2.2.2.2.2.2.1
        have h92 : sH u 92 = (16, 3) := by rw [(f2.1 92 (by omega)).2.2.2]; exact hS.2.1.2.2.1
        have hC2 : CP (wP u 92 nm (sZ s + 1)) D := by
          have q := hC.nw (by rw [← hnm]; exact h3) (by rw [← hnm]; exact h0) f2 f3.1
          rw [← hnm] at q
          exact q
        have hn0 : cM (wP u 92 nm (sZ s + 1)) nm ≠ 0 := by
          show sP (wP u 92 nm (sZ s + 1)) 92 nm ≠ 0
          rw [sP_wP, if_pos ⟨rfl, rfl⟩]
          omega
        obtain ⟨w, g1, g2, g3, g4, g5⟩ := c_mark43 hC2 (by rw [← hnm]; exact h3) (by rw [← hnm]; exact hn0)
        rw [← hnm] at g1 g2
        refine ⟨w, ?_, g2, ?_⟩
        · rw [h1, if_neg (by rw [h0]; exact fun h => h rfl), f1, i_sr h92 h3 (by decide) (by rw [f3.1.1]; rfl), g1]
        · obtain ⟨c1, c2, c3, c4, c5, c6⟩ := g3
          have hzu := f2.2.1
          have hwu := f2.2.2
          have hz' : sZ (wP u 92 nm (sZ s + 1)) = sZ u := rfl
          have hw' : sW (wP u 92 nm (sZ s + 1)) = sW u := rfl
          refine ⟨fun b hb => ?_, fun b hb => ?_, by omega, by omega, by omega, by omega⟩
          · obtain ⟨q1, q2, q3⟩ := c1 b hb
            have q := f2.1 b (by have := hb.2; omega)
            refine ⟨q1.trans q.1, q2.trans q.2.1, q3.trans (Eq.trans ?_ q.2.2.1)⟩
            funext i
            rw [sP_wP, if_neg (by have := hb.1; omega)]
          · rw [c2 b (by omega)]
            exact (f2.1 b hb).2.2.2
      · obtain ⟨w, g1, g2, g3, g4, g5⟩ := c_mark43 hC (by rw [← hnm]; exact h3) (by rw [← hnm]; exact h0)
        rw [← hnm] at g1 g2
        exact ⟨w, by rw [h1, if_pos h0, g1], g2, g3⟩
    obtain ⟨s', a1, a2, a3⟩ := hcl
    have hT1 : RT (wI (q0 t) 113 28 (nI (nm + 1))) := hT0.w
    obtain ⟨t', b1, b2, b3, b4⟩ := x_copy hT1 (show 0 ≤ 4 by omega) (show nm + 1 ≤ 4 by omega) (show 0 ≠ nm + 1 by omega)
    have hT' := hT1.mv b2.2
    have e18 : sI (wI (q0 t) 113 28 (nI (nm + 1))) 118 = sI (q0 t) 118 := sI_113 _ _ _ (by decide)
    rw [e18] at b3 b4
    refine ⟨nI (nm + 1), s', t', _, a1, ?_, a2, ?_, dMk_ok hD (by omega), a3, ((fr_q0 t).tr (fr113 28 _)).tr (fr118 b2)⟩
    · unfold fX9_mark
      rw [q0_b hT, xGIe hT0.k e28, e_if, if_neg (by rw [li_3, eq_i (by omega) (by omega)]; omega), xGIe hT0.k e28, xPI hT0.k, nI_succ1]
      show bGI 9 113 28 _ (wI (q0 t) 113 28 (nI (nm + 1))) = _
      rw [xGIe hT1.k (sI_wI_eq _ _ _ _), li_0, e_callV hT1.k, x_call b1, xGIe hT'.k (by rw [b2.1 113 (by decide), sI_wI_eq])]
      rfl
    · obtain ⟨r1, r2, r3, r4, r5⟩ := hR0
      refine ⟨⟨hT', r1.2.cong fun i hi => ?_⟩, ?_, fun k hk => ?_, fun k hk => ?_, fun i hi => ?_⟩
      · exact b4 i (Or.inl (by omega))
      · exact (r2.mk (nm + 1)).mv (b2.1 113 (by decide)) (by rw [b2.L])
      · rw [b2.1 117 (by decide), sI_113 _ _ _ (by decide)]; exact r3 k hk
      · rw [b2.1 114 (by decide), b2.1 115 (by decide), b2.L, sI_113 _ _ _ (by decide), sI_113 _ _ _ (by decide)]
        exact r4 k hk
      · have hi : i < nm + 1 := hi
        show RW _ (up (dM D) nm (dW D) i)
        by_cases hin : i = nm
        · rw [hin, up_s]
          refine r1.2.cong fun j hj => ?_
          rw [b3 j hj]
          congr 1
          omega
        · rw [up_n _ _ hin]
          refine (r5 i (by show i < nMk (dNn D); omega)).cong fun j hj => ?_
          exact b4 _ (Or.inl (by omega))
  · have e3 : nm = 3 := by omega
    refine ⟨mI, wI s 1 11 (nI 7), wI (q0 t) 113 0 (nI 7), dSt D 7, ?_, ?_, hC.st hD 7, hR0.st hD0 7, dSt_ok hD (by decide), fc1 _ _, (fr_q0 t).tr (fr113 0 _)⟩
    · unfold fX8_mark
      rw [k_get hS e6, e_if, if_neg (by rw [li_3, lt_i (by omega) (by omega)]; exact h3), k_cv hS, li_7, x_call (k_none hS 7)]
      rfl
    · unfold fX9_mark
      rw [q0_b hT, xGIe hT0.k e28, e_if, if_pos (by rw [e3]; rfl), e_callV hT0.k, li_7, x_call (q_refuse hT0 7)]
      rfl
theorem s_back : Sim (fX8_back 1) (fX9_back 113) := by
  intro s t D hC hR hD
  have hC0 := hC
  have hS := hC.1
  have hT := hR.1.1
  have hR0 := hR.q0 hD
  have hT0 : RT (q0 t) := hR0.1.1
  have hD0 : DOk (dSt D 0) := dSt_ok hD (by decide)
  have hm := hD.2.2.1
  obtain ⟨nm, hnm⟩ : ∃ nm, nm = nMk (dNn D) := ⟨_, rfl⟩
  have e6 : sI s 1 6 = nI nm := by rw [hnm]; exact hC.2.1.2.2.2.2.2.2
  have e28 : sI (q0 t) 113 28 = nI nm := by rw [hnm]; exact hR0.2.1.2.2.2.2.2.2
  have hnm3 : nm ≤ 3 := by omega
  by_cases h0 : nm = 0
  · refine ⟨mI, wI s 1 11 (nI 8), wI (q0 t) 113 0 (nI 8), dSt D 8, ?_, ?_, hC.st hD 8, hR0.st hD0 8, dSt_ok hD (by decide), fc1 _ _, (fr_q0 t).tr (fr113 0 _)⟩
    · unfold fX8_back fX8_back_21
      rw [k_get hS e6, e_if, if_pos (by rw [li_0, le_i (by omega) (by omega)]; omega), k_cv hS, li_8, x_call (k_none hS 8)]
      rfl
    · unfold fX9_back
      rw [q0_b hT, xGIe hT0.k e28, e_if, if_pos (by rw [h0]; rfl), e_callV hT0.k, li_8, x_call (q_refuse hT0 8)]
      rfl
  · obtain ⟨k, hk⟩ : ∃ k, nm = k + 1 := ⟨nm - 1, by omega⟩
    obtain ⟨-, hN, hTp, hTr, hc, hw, ⟨m1, ⟨mn, m2, m2'⟩, m3, m4, m5, m6, m7⟩⟩ := hC
    rw [← hnm] at m7
    have hk3 : k < 3 := by omega
    obtain ⟨q1, q2, q3⟩ := m7 k (by omega)
    have q4 := (m5 k hk3 q1).1
    obtain ⟨a, ha⟩ : ∃ a, a = cM s k := ⟨_, rfl⟩
    rw [← ha] at q1 q2 q3 q4
    have hs1 : CS (wI s 1 6 (nI k)) := hS.w
    have hwI : ∀ {j x c X} {v : mS}, CW v c X → 1 < c → CW (wI v 1 j x) c X := fun {j x c X v} hx hc1 => by
      have q : ∀ b, b ≠ 1 → sI (wI v 1 j x) b = sI v b := fun b hb => by
        funext i; rw [sI_wI_ne (Or.inl hb)]
      refine hx.mv (fun _ _ => rfl) (fun b hb => ⟨q b (by have := hb.1; omega), rfl⟩) (fun hz => ?_)
      rcases hx.2.2.2 with hl | hl
      · exact absurd hl.1 hz
      · have := hl.1
        exact ⟨rfl, rfl, q _ (by omega), q _ (by omega), rfl⟩
    have hc4 : WoS (wI s 1 6 (nI k)) 4 := hc.1.mv rfl
    obtain ⟨v, e1, e2, e3, e4⟩ := c_copyFrom hc4 (hwI q2 (by omega) : CW (wI s 1 6 (nI k)) a (dM D k)) (by omega) (fun hz => by
      rcases q3 with hl | hl
      · exact absurd hl hz
      · have h1 := hl.1
        have e : sP (wI s 1 6 (nI k)) a 16 = sP s a 16 := rfl
        exact ⟨fun hb => by have := hb.2; omega, fun hb => by have := hb.2; omega⟩)
    have g : ∀ b, ¬ wA 4 b → sI v b = sI (wI s 1 6 (nI k)) b ∧ sL v b = sL s b ∧ sP v b = sP s b := e2.1
    have g1 := g 1 (by show ¬ (_ ∧ _); omega)
    have hSv : CS v := hS.mv (fun b _ => by rw [e2.2.1]; rfl) (fun b j hb _ _ _ hb4 => by
      rw [(g b (by show ¬ (_ ∧ _); omega)).2.2])
    have hv6 : sI v 1 6 = nI k := by rw [g1.1]; exact sI_wI_eq _ _ _ _
    have hF : FR (fun b => b = 1 ∨ wA 4 b) s (wI v 1 11 (nI 0)) := ((FI.w (A := fun b => b = 1 ∨ wA 4 b) 6 (nI k) (Or.inl rfl)).fr.tr (e2.mo fun _ hb => Or.inr hb)).tr (FI.w (A := fun b => b = 1 ∨ wA 4 b) 11 (nI 0) (Or.inl rfl)).fr
    have e16 : sP v 4 16 = sP s a 16 := e4
    obtain ⟨t', b1, b2, b3, b4⟩ := x_copy hT0 (show k + 1 ≤ 4 by omega) (show 0 ≤ 4 by omega) (show k + 1 ≠ 0 by omega)
    have hT' := hT0.mv b2.2
    have ht28 : sI t' 113 28 = nI (k + 1) := by rw [b2.1 113 (by decide), e28, hk]
    have hT2 : RT (wI t' 113 28 (nI k)) := hT'.w
    refine ⟨nI k, wI v 1 11 (nI 0), wI t' 113 28 (nI k), dMk D k (dM D k) (dM D), ?_, ?_, ?_, ?_, dMk_ok hD (by omega), ?_, ((fr_q0 t).tr (fr118 b2)).tr (fr113 28 _)⟩
    · unfold fX8_back
      have e0 : nI nm - (1 : Int32) = nI k := by rw [hk, li_1, sub_i (by omega)]; rfl
      rw [k_get hS e6, e_if, if_neg (by rw [li_0, le_i (by omega) (by omega)]; omega), k_marks hS, k_get hS e6, e0, xAR hS.2.1.2.2.1 hk3 (by decide) ha.symm, e_if, if_pos q1, k_get hS e6, e0, k_pi hS, k_now hs1, k_marks hs1, k_get hs1 (sI_wI_eq _ _ _ _), xAR hs1.2.1.2.2.1 hk3 (by decide) (show sP (wI s 1 6 (nI k)) 92 k = a from ha.symm), e_callV hc4.1, x_call e1, k_get hSv hv6, k_cv hSv, x_call (k_tell hSv _)]
      rfl
    · unfold fX9_back
      rw [q0_b hT, xGIe hT0.k e28, e_if, if_neg (by rw [li_0, eq_i (by omega) (by omega)]; exact h0), xGIe hT0.k e28, e_callV hT0.k, hk, li_0, x_call b1, xGIe hT'.k ht28, li_1, sub_i (by omega), xPI hT'.k]
      show bGI 9 113 28 _ (wI t' 113 28 (nI k)) = _
      rw [xGIe hT2.k (sI_wI_eq _ _ _ _)]
      rfl
    · refine hC0.upM _ _ _ hF (fun b hb => hb.elim Or.inl fun h => Or.inr (Or.inl h)) ?_ (fun i hi hz => ?_) ?_ rfl (hwI e3 (by omega)) ?_ (fun i hi => ?_)
      · exact g1.2.2
      · have q5 := (m5 i hi hz).1
        exact (m5 i hi hz).2.2.mvP2 (fun b _ => by show sH v b = _; rw [e2.2.1]; rfl) (fun b hb j _ => by
          show sP v b j = _
          rw [(g b (by have := hb.1; show ¬ (_ ∧ _); omega)).2.2])
      · obtain ⟨h1, h2, h3, h4, h5, h6, h7⟩ := hN
        have gI : ∀ j, j ≠ 11 → j ≠ 6 → sI (wI v 1 11 (nI 0)) 1 j = sI s 1 j := fun j h11 h6 => by
          rw [sI_wI_ne (Or.inr h11), g1.1, sI_wI_ne (Or.inr h6)]
        refine ⟨sI_wI_eq _ _ _ _, ?_, ?_, ?_, ?_, ?_, ?_⟩
        · show sL v 1 12 = _
          rw [g1.2.1]; exact h2
        · show sL v 1 13 = _
          rw [g1.2.1]; exact h3
        · rw [gI _ (by decide) (by decide)]; exact h4
        · rw [gI _ (by decide) (by decide)]; exact h5
        · rw [gI _ (by decide) (by decide)]; exact h6
        · rw [sI_wI_ne (Or.inr (by decide))]; exact hv6
      · show LwA s (sP v 4 16)
        rw [e16]; exact q3
      · have hi : i < k := hi
        obtain ⟨j1, j2, j3⟩ := m7 i (by omega)
        have j5 := (m5 i (by omega) j1).1
        have e16i : sP v (cM s i) = sP s (cM s i) := (g _ (by show ¬ (_ ∧ _); omega)).2.2
        have hg : ∀ b, 124 < b → sI v b = sI s b := fun b hb => by
          rw [(g b (by show ¬ (_ ∧ _); omega)).1]
          funext j
          rw [sI_wI_ne (Or.inl (by omega))]
        refine ⟨j1, hwI (j2.mv (fun _ _ => by rw [e2.2.1]; rfl) (fun b hb => ?_) (fun hz => ?_)) (by omega), ?_⟩
        · have h1 := hb.1
          exact ⟨hg b (by omega), (g b (by show ¬ (_ ∧ _); omega)).2.2⟩
        · rcases j3 with hl | hl
          · exact absurd hl hz
          · have h1 := hl.1
            exact ⟨by rw [e2.2.1]; rfl, by rw [e2.2.1]; rfl, hg _ h1, hg _ (by omega), (g _ (by show ¬ (_ ∧ _); omega)).2.2⟩
        · show LwA s (sP v (cM s i) 16)
          rw [e16i]; exact j3
    · obtain ⟨r1, r2, r3, r4, r5⟩ := hR0
      have e18 : sI (wI t' 113 28 (nI k)) 118 = sI t' 118 := sI_113 _ _ _ (by decide)
      refine ⟨⟨hT2, ?_⟩, ?_, fun j hj => ?_, fun j hj => ?_, fun i hi => ?_⟩
      · rw [e18]
        refine (r5 k (by show k < nMk (dNn D); omega)).cong fun j hj => ?_
        have := b3 j hj
        rw [show 860 * 0 + j = j by omega] at this
        rw [this]
      · exact (r2.mv (b2.1 113 (by decide)) (by rw [b2.L])).mk k
      · rw [sI_113 _ _ _ (by decide), b2.1 117 (by decide)]; exact r3 j hj
      · rw [sI_113 _ _ _ (by decide), sI_113 _ _ _ (by decide), b2.1 114 (by decide), b2.1 115 (by decide)]
        show _ ∧ _ ∧ ∀ l, _ → ∀ j', _ → sL t' 116 _ = _
        rw [b2.L]
        exact r4 j hj
      · have hi : i < k := hi
        rw [e18]
        refine (r5 i (by show i < nMk (dNn D); omega)).cong fun j hj => ?_
        exact b4 _ (Or.inr (by omega))
    · refine hF.c fun b hb hr => ?_
      have h1 : 113 ≤ b := hr.1
      rcases hb with hb | hb
      · omega
      · have := hb.2; omega

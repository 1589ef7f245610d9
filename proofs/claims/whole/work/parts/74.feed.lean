/-! THE TAPE IS FED -/
theorem xSB {a i n : Nat} {x : Int32} {α : Type} {m : mM α} {s : mS} (h : sH s a = (10, n)) (hi : i < n) (hn : n < 2147483648) : bSB a (nI i) x m s = m (wI s a i x.toInt8.toInt32) := by
  unfold bSB
  rw [h, if_pos ⟨rfl, inB_nI hi hn⟩, nI_clamp (by omega)]
def bY (x k : Int32) : Int32 := (Int32.toInt8 (x >>> (k &&& 31))).toInt32.toInt8.toInt32
/-- ints of a cell were written behind what was there, and how many are told in a place of another one -/
def Tq (c o q : Nat) (s t : mS) (m : Nat) (T : Nat → Int32) : Prop := FI (fun b => b = c ∨ b = o) s t ∧ (∀ j, j ≠ q → sI t c j = sI s c j) ∧ sI t c q = nI m ∧ ∀ k, k < m → sI t o k = T k
theorem Tq.s {c o q : Nat} {s t : mS} {m : Nat} {T : Nat → Int32} (h : Tq c o q s t m T) (hco : c ≠ o) (x : Int32) : Tq c o q s (wI (wI t o m x) c q (nI (m + 1))) (m + 1) (up T m x) := by
  obtain ⟨h1, h2, h3, h4⟩ := h
  refine ⟨(h1.tr (FI.w _ _ (Or.inr rfl))).tr (FI.w _ _ (Or.inl rfl)), fun j hj => ?_, sI_wI_eq _ _ _ _, fun k hk => ?_⟩
  · rw [sI_wI_ne (Or.inr hj), sI_wI_ne (Or.inl hco)]; exact h2 j hj
  · rw [sI_wI_ne (Or.inl (Ne.symm hco))]
    by_cases hkm : k = m
    · rw [hkm, sI_wI_eq, up_s]
    · rw [sI_wI_ne (Or.inr hkm), up_n _ _ hkm]; exact h4 k (by omega)
def tp4 (T : Nat → Int32) (m : Nat) (x : Int32) : Nat → Int32 := up (up (up (up T m (bY x 24)) (m + 1) (bY x 16)) (m + 1 + 1) (bY x 8)) (m + 1 + 1 + 1) (bY x 0)
theorem up_B {T : Nat → Int32} {m : Nat} {x : Int32} (h : ∀ k, k < m → isB (T k)) (hx : isB x) : ∀ k, k < m + 1 → isB (up T m x k) := fun k hk => by
  by_cases hkm : k = m
  · rw [hkm, up_s]; exact hx
  · rw [up_n _ _ hkm]; exact h k (by omega)
theorem bY_B (x k : Int32) : isB (bY x k) := by
  unfold isB bY
  simp only [Int8.toInt8_toInt32]
theorem tp4_B {T : Nat → Int32} {m : Nat} (h : ∀ k, k < m → isB (T k)) (x : Int32) : ∀ k, k < m + 1 + 1 + 1 + 1 → isB (tp4 T m x k) := up_B (up_B (up_B (up_B h (bY_B _ _)) (bY_B _ _)) (bY_B _ _)) (bY_B _ _)
section TQ
variable {s t : mS} {m : Nat} {T : Nat → Int32}
theorem c_put1 (hS : CS s) (h : Tq 1 3 2 s t m T) (hm : m < 900) {x sh : Int32} (hsh : ¬ sh < 0) (f : Nat) : fX8_putOnTape_3 (f + 1) 1 x sh t = fX8_putOnTape_3 f 1 x (sh + -8) (wI (wI t 3 m (bY x sh)) 1 2 (nI (m + 1))) := by
  have hSt := hS.fi h.1
  have e2 := h.2.2.1
  have hSw : CS (wI t 3 m (bY x sh)) := hSt.w
  rw [qX8_putOnTape_3, e_if, if_neg hsh, k_gi hSt, e2, e_if, if_neg (by rw [li_900, le_i (by decide) (by omega)]; omega), k_tape hSt, k_gi hSt, e2, xSB hSt.2.1.2.1 hm (by decide)]
  show bGI 8 1 2 _ (wI t 3 m (bY x sh)) = _
  rw [k_gi hSw, k_pi hSw, sI_wI_ne (Or.inl (by decide)), e2, nI_succ1]
theorem c_put (hS : CS s) (h : Tq 1 3 2 s t m T) (hm : m + 4 ≤ 900) (x : Int32) : ∃ t', fX8_putOnTape 1 x t = some ((), t') ∧ Tq 1 3 2 s t' (m + 1 + 1 + 1 + 1) (tp4 T m x) := by
  have h1 := h.s (by decide) (bY x 24)
  have h2 := h1.s (by decide) (bY x 16)
  have h3 := h2.s (by decide) (bY x 8)
  have h4 := h3.s (by decide) (bY x 0)
  refine ⟨_, ?_, h4⟩
  unfold fX8_putOnTape
  rw [show fu = 4995 + 1 + 1 + 1 + 1 + 1 from rfl, c_put1 hS h (by omega) (by decide), show (24 : Int32) + -8 = 16 by decide, c_put1 hS h1 (by omega) (by decide), show (16 : Int32) + -8 = 8 by decide, c_put1 hS h2 (by omega) (by decide), show (8 : Int32) + -8 = 0 by decide, c_put1 hS h3 (by omega) (by decide), qX8_putOnTape_3, e_if, if_pos (by decide)]
  rfl
theorem x_put1 (hS : RT s) (h : Tq 113 117 8 s t m T) (hm : m < 900) {x sh k : Int32} (hsh : ¬ sh < 0) (hk : (8 : Int32) * sh = k) (f : Nat) : fX9_lay_2 (f + 1) 113 x sh t = fX9_lay_2 f 113 x (sh + -1) (wI (wI t 117 m (bY x k)) 113 8 (nI (m + 1))) := by
  have hSt := hS.mv h.1.2
  have e2 := h.2.2.1
  have hSw : RT (wI t 117 m (bY x k)) := hSt.w
  rw [qX9_lay_2, e_if, if_neg hsh, xGR hSt.k hSt.2.2.2.2.1, xGIe hSt.k e2, xSB hSt.2.2.2.2.2.2.2.2.2.2.2.2.2.2.2.1 hm (by decide), hk]
  show bGI 9 113 8 _ (wI t 117 m (bY x k)) = _
  rw [xGI hSw.k, xPI hSw.k, sI_wI_ne (Or.inl (by decide)), e2, nI_succ1]
theorem x_put (hS : RT s) (h : Tq 113 117 8 s t m T) (hm : m + 4 ≤ 900) (x : Int32) : ∃ t', fX9_lay 113 x t = some ((), t') ∧ Tq 113 117 8 s t' (m + 1 + 1 + 1 + 1) (tp4 T m x) := by
  have h1 := h.s (by decide) (bY x 24)
  have h2 := h1.s (by decide) (bY x 16)
  have h3 := h2.s (by decide) (bY x 8)
  have h4 := h3.s (by decide) (bY x 0)
  refine ⟨_, ?_, h4⟩
  unfold fX9_lay
  rw [show fu = 4995 + 1 + 1 + 1 + 1 + 1 from rfl, x_put1 hS h (by omega) (by decide) (show (8 : Int32) * 3 = 24 by decide), show (3 : Int32) + -1 = 2 by decide, x_put1 hS h1 (by omega) (by decide) (show (8 : Int32) * 2 = 16 by decide), show (2 : Int32) + -1 = 1 by decide, x_put1 hS h2 (by omega) (by decide) (show (8 : Int32) * 1 = 8 by decide), show (1 : Int32) + -1 = 0 by decide, x_put1 hS h3 (by omega) (by decide) (show (8 : Int32) * 0 = 0 by decide), qX9_lay_2, e_if, if_pos (by decide)]
  rfl
end TQ
def dTl (D : dD) (m : Nat) (T : Nat → Int32) : dD := ((D.1.1, D.1.2.1, D.1.2.2.1, D.1.2.2.2.1, D.1.2.2.2.2.1, m, D.1.2.2.2.2.2.2), T, D.2.2)
theorem FC.rf {s : mS} : FC s s := (FR.rf (A := fun _ => False)).c (fun _ hb => hb.elim)
theorem s_feed (x1 x2 x3 x4 x5 : Int32) : Sim (fX8_feed 1 x1 x2 x3 x4 x5) (fX9_feed 113 x1 x2 x3 x4 x5) := by
  intro s t D hC hR hD
  have hS := hC.1
  have hT := hR.1.1
  have hR0 : RP (wI t 113 1 (nI 0)) D := hR.th hD (nI 0)
  have hT0 := hR0.1.1
  have h9 := hD.2.1.1
  obtain ⟨n, hn⟩ : ∃ n, n = nTl (dNn D) := ⟨_, rfl⟩
  have e1 : sI s 1 2 = nI n := by rw [hn]; exact hC.2.1.2.2.2.2.2.1
  have e2 : sI (wI t 113 1 (nI 0)) 113 8 = nI n := by rw [hn]; exact hR0.2.1.2.2.2.2.2.1
  have p1 : ∀ k, k < n → sI s 3 k = dTp D k := by rw [hn]; exact hC.2.2.1
  have p2 : ∀ k, k < n → sI (wI t 113 1 (nI 0)) 117 k = dTp D k := by rw [hn]; exact hR0.2.2.1
  have h9 : n ≤ 900 := by omega
  by_cases h8 : n ≤ 880
  · have a0 : Tq 1 3 2 s s n (dTp D) := ⟨FI.rf, fun _ _ => rfl, e1, p1⟩
    have b0 : Tq 113 117 8 (wI t 113 1 (nI 0)) (wI t 113 1 (nI 0)) n (dTp D) := ⟨FI.rf, fun _ _ => rfl, e2, p2⟩
    obtain ⟨s1, f1, a1⟩ := c_put hS a0 (by omega) x1
    obtain ⟨s2, f2, a2⟩ := c_put hS a1 (by omega) x2
    obtain ⟨s3, f3, a3⟩ := c_put hS a2 (by omega) x3
    obtain ⟨s4, f4, a4⟩ := c_put hS a3 (by omega) x4
    obtain ⟨s5, f5, a5⟩ := c_put hS a4 (by omega) x5
    obtain ⟨t1, g1, b1⟩ := x_put hT0 b0 (by omega) x1
    obtain ⟨t2, g2, b2⟩ := x_put hT0 b1 (by omega) x2
    obtain ⟨t3, g3, b3⟩ := x_put hT0 b2 (by omega) x3
    obtain ⟨t4, g4, b4⟩ := x_put hT0 b3 (by omega) x4
    obtain ⟨t5, g5, b5⟩ := x_put hT0 b4 (by omega) x5
    have hB := tp4_B (tp4_B (tp4_B (tp4_B (tp4_B (T := dTp D) (m := n) (fun k hk => hD.2.1.2 k (by rw [← hn]; exact hk)) x1) x2) x3) x4) x5
    obtain ⟨Tp, hTp⟩ : ∃ Tp, Tp = tp4 (tp4 (tp4 (tp4 (tp4 (dTp D) n x1) (n + 1 + 1 + 1 + 1) x2) (n + 1 + 1 + 1 + 1 + 1 + 1 + 1 + 1) x3) (n + 1 + 1 + 1 + 1 + 1 + 1 + 1 + 1 + 1 + 1 + 1 + 1) x4) (n + 1 + 1 + 1 + 1 + 1 + 1 + 1 + 1 + 1 + 1 + 1 + 1 + 1 + 1 + 1 + 1) x5 := ⟨_, rfl⟩
    rw [← hTp] at a5 b5 hB
    obtain ⟨m, hm⟩ : ∃ m, m = n + 1 + 1 + 1 + 1 + 1 + 1 + 1 + 1 + 1 + 1 + 1 + 1 + 1 + 1 + 1 + 1 + 1 + 1 + 1 + 1 := ⟨_, rfl⟩
    rw [← hm] at a5 b5 hB
    obtain ⟨a51, a52, a53, a54⟩ := a5
    obtain ⟨b51, b52, b53, b54⟩ := b5
    have hN := hC.2.1
    have hM := hR0.2.1
    refine ⟨nI m, s5, t5, dTl D m Tp, ?_, ?_, ?_, ?_, ⟨hD.1, ⟨by show m ≤ 900; omega, hB⟩, hD.2.2⟩, ?_, ?_⟩
    · unfold fX8_feed
      rw [k_gi hS, e1, e_if, if_pos (by rw [li_880, le_i (by omega) (by decide)]; omega), k_cv hS, x_call f1, k_cv (hS.fi a1.1), x_call f2, k_cv (hS.fi a2.1), x_call f3, k_cv (hS.fi a3.1), x_call f4, k_cv (hS.fi a4.1), x_call f5, k_gi (hS.fi a51), a53]
      rfl
    · unfold fX9_feed
      rw [xPI hT.k]
      show bGI 9 113 8 _ (wI t 113 1 (nI 0)) = _
      rw [xGIe hT0.k e2, li_20, nI_add, e_if, if_pos (by rw [li_900, le_i (by omega) (by decide)]; omega), e_callV hT0.k, x_call g1, e_callV (hT0.mv b1.1.2).k, x_call g2, e_callV (hT0.mv b2.1.2).k, x_call g3, e_callV (hT0.mv b3.1.2).k, x_call g4, e_callV (hT0.mv b4.1.2).k, x_call g5, xGIe (hT0.mv b51.2).k b53]
      rfl
    · have hF : FR bB s s5 := (a51.mo (B := bB) (fun b hb => hb.elim Or.inl fun h => Or.inr (Or.inl h))).fr
      refine hC.upB (D.1.1, D.1.2.1, D.1.2.2.1, D.1.2.2.2.1, D.1.2.2.2.2.1, m, D.1.2.2.2.2.2.2) Tp (dTr D) hF a51.P ?_ rfl hD.2.2.1 a54 ?_
      · refine ⟨?_, ?_, ?_, ?_, ?_, a53, ?_⟩
        · rw [a52 _ (by decide)]; exact hN.1
        · rw [a51.L]; exact hN.2.1
        · rw [a51.L]; exact hN.2.2.1
        · rw [a52 _ (by decide)]; exact hN.2.2.2.1
        · rw [a52 _ (by decide)]; exact hN.2.2.2.2.1
        · rw [a52 _ (by decide)]; exact hN.2.2.2.2.2.2
      · intro k hk
        rw [a51.1 (98 + 2 * k) (by show ¬ (_ ∨ _); omega), a51.L]
        exact hC.2.2.2.1 k hk
    · refine hR0.upB (D.1.1, D.1.2.1, D.1.2.2.1, D.1.2.2.2.1, D.1.2.2.2.2.1, m, D.1.2.2.2.2.2.2) Tp (dTr D) b51.H b51.P (b51.1 118 (by decide)) ?_ rfl b54 ?_
      · refine ⟨?_, ?_, ?_, ?_, ?_, b53, ?_⟩
        · rw [b52 _ (by decide)]; exact hM.1
        · rw [b51.L]; exact hM.2.1
        · rw [b51.L]; exact hM.2.2.1
        · rw [b52 _ (by decide)]; exact hM.2.2.2.1
        · rw [b52 _ (by decide)]; exact hM.2.2.2.2.1
        · rw [b52 _ (by decide)]; exact hM.2.2.2.2.2.2
      · intro k hk
        rw [b51.1 114 (by decide), b51.1 115 (by decide), b51.L]
        exact hR0.2.2.2.1 k hk
    · exact bB_c (a51.mo (B := bB) (fun b hb => hb.elim Or.inl fun h => Or.inr (Or.inl h))).fr
    · exact (fr113 1 _).tr (b51.mo (B := rfA) (fun b hb => by rcases hb with rfl | rfl <;> exact ⟨by decide, by decide⟩)).fr
  · refine ⟨mI, s, wI t 113 1 (nI 0), D, ?_, ?_, hC, hR0, hD, FC.rf, fr113 1 _⟩
    · unfold fX8_feed
      rw [k_gi hS, e1, e_if, if_neg (by rw [li_880, le_i (by omega) (by decide)]; omega)]
      rfl
    · unfold fX9_feed
      rw [xPI hT.k]
      show bGI 9 113 8 _ (wI t 113 1 (nI 0)) = _
      rw [xGIe hT0.k e2, li_20, nI_add, e_if, if_neg (by rw [li_900, le_i (by omega) (by decide)]; omega)]
      rfl

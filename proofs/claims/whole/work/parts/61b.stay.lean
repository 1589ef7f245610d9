/-! ROPES STAY -/
def TT (W V : wW) : Prop := ∀ r, r < 12 → 0 < rN (wRo W r) → 0 < rN (wRo V r)
theorem TT.rf (W : wW) : TT W W := fun _ _ h => h
theorem TT.tr {W V U : wW} (h1 : TT W V) (h2 : TT V U) : TT W U := fun r hr h => h2 r hr (h1 r hr h)
theorem TT.ow (V : wW) (c : Nat) (o : Option Nat) : TT V (wOw V c o) := fun r hr h => by
  show 0 < rN (up (wRo V) c (roO (wRo V c) o) r)
  by_cases e : r = c
  · subst e; rw [up_s]; exact h
  · rw [up_n _ _ e]; exact h
theorem TT.bw (V : wW) (c : Nat) (o : Option Nat) : TT V (wBw V c o) := fun r hr h => by
  show 0 < rN (up (wRo V) c (roB (wRo V c) o) r)
  by_cases e : r = c
  · subst e; rw [up_s]; exact h
  · rw [up_n _ _ e]; exact h
theorem up2 (f : Nat → rR) {c q r : Nat} (x y : rR) (h0 : r ≠ q) (hx : 0 < rN (f c) → 0 < rN x) (h : 0 < rN (f r)) : 0 < rN (up (up f c x) q y r) := by
  rw [up_n _ _ h0]
  by_cases e2 : r = c
  · rw [e2, up_s]
    rw [e2] at h
    exact hx h
  · rw [up_n _ _ e2]; exact h
theorem TT.sp {V : wW} {c κ : Nat} (hI : rI (wRo V c)) (h1 : 1 ≤ κ) : TT V (wSp V c κ (wFr V)) := fun r hr h => by
  have hne : r ≠ wFr V := fun e => fr_ne h (Nat.lt_of_le_of_lt (Nat.le_of_eq e.symm) hr) e.symm
  exact up2 (wRo V) _ _ hne (fun h0 => sK_pos hI h1 h0) h
theorem TT.sh {W : wW} (hW : wOk W) {r hs : Nat} (hr : r < 12) (h0 : 0 < rN (wRo W r)) (hpt : 0 < pc hs) (hlen : pc hs ≤ rL (wRo W r)) (hrn : wRn W + pc hs ≤ 13) : ∀ p, p ≤ wPe W → TT W (shS W r hs p).1
  | 0, _ => TT.rf W
  | p + 1, hp => by
    have ih := TT.sh hW hr h0 hpt hlen hrn p (by omega)
    obtain ⟨i1, i2, i3, i4, i5⟩ := shInv hW hr h0 hpt hlen hrn p (by omega)
    have hev : 1 ≤ rL (wRo W r) / pc hs := (Nat.one_le_div_iff hpt).mpr hlen
    have eS : shS W r hs (p + 1) = shP hs (pc hs) (rL (wRo W r) / pc hs) (rL (wRo W r) % pc hs) p (shS W r hs p) := rfl
    rw [eS]
    generalize shS W r hs p = z at ih i1 i2 i3 i4 i5 ⊢
    obtain ⟨V, cur, k⟩ := z
    dsimp only at ih i1 i2 i3 i4 i5
    unfold shP
    dsimp only
    split
    · split
      · dsimp only
        refine (ih.tr (TT.ow V cur (some p))).tr (TT.sp ?_ ?_)
        · have hI := i1.2.2.2.2.2.2.2.2.2.2.2.2.1 cur
          rw [wOw_r]
          by_cases hn : 0 < rN (wRo V cur)
          · have h8 := hW.2.2.2.2.2.2.2.1
            exact rI_mk hI.1 hn hI.pi hI.2.2.1 (fun q e => by cases e; omega) hI.2.2.2.2.1
          · subst i4
            rename_i hb hk
            have hs1 := pcn_s hs p
            rw [hb] at hs1
            have hs1 : pcn hs (p + 1) = pcn hs p + 1 := hs1
            exact absurd (i5 (by omega)).1 hn
        · split <;> omega
      · exact ih.tr (TT.ow V cur (some p))
    · exact ih
/-- a world that came out of another one -/
def GT (W V : wW) : Prop := wOk V ∧ wPe V = wPe W ∧ TT W V
theorem GT.rf {W : wW} (h : wOk W) : GT W W := ⟨h, rfl, TT.rf W⟩
theorem GT.tr {W V U : wW} (h1 : GT W V) (h2 : GT V U) : GT W U := ⟨h2.1, h2.2.1.trans h1.2.1, h1.2.2.tr h2.2.2⟩
theorem GT.ow {W : wW} (h : wOk W) {r : Nat} {o : Option Nat} (h0 : 0 < rN (wRo W r)) (ho : ∀ p, o = some p → p < wPe W) : GT W (wOw W r o) := ⟨wOw_ok h h0 ho, rfl, TT.ow _ _ _⟩
theorem GT.bw {W : wW} (h : wOk W) (r : Nat) : GT W (wBw W r none) := ⟨wBw_ok h r, rfl, TT.bw _ _ _⟩
theorem GT.hd {W : wW} (h : wOk W) {r hs : Nat} (hr : r < 12) (h0 : 0 < rN (wRo W r)) (hs8 : hs < 2 ^ wPe W) : GT W (wHd W r hs) := by
  have hP8 := h.2.2.2.2.2.2.2.1
  have h28 : (2 : Nat) ^ wPe W ≤ 2 ^ 8 := Nat.pow_le_pow_right (by decide) hP8
  unfold wHd
  split
  · exact GT.ow h h0 (fun p e => by cases e)
  · rename_i hn
    have hz : hs ≠ 0 := fun e => hn (Or.inl e)
    split
    · exact GT.ow h h0 (fun p e => by cases e; exact gr_pe hP8 hs8 hz)
    · split
      · exact GT.ow h h0 (fun p e => wPo_lt W hs _ p e)
      · split
        · rename_i h3
          have h7 := h3.2
          unfold wFe at h7
          rw [Bool.and_eq_true, Bool.and_eq_true, decide_eq_true_eq, decide_eq_true_eq] at h7
          have hpos := pc_pos (m := hs) (by omega) hz
          obtain ⟨i1, i2, -⟩ := shInv h hr h0 hpos h7.2.1 h7.2.2 (wPe W) (Nat.le_refl _)
          exact ⟨i1, i2, TT.sh h hr h0 hpos h7.2.1 h7.2.2 (wPe W) (Nat.le_refl _)⟩
        · exact GT.ow h h0 (fun p e => by cases e; exact lo_pe hP8 hs8 hz)
theorem GT.ck {W : wW} (h : wOk W) (p : Nat) : ∀ k, GT W (wCk W p k)
  | 0 => by
    have e : wCk W p 0 = W := by
      unfold wCk
      have : (fun r => if r < 0 ∧ rB (wRo W r) = some p then roB (wRo W r) none else wRo W r) = wRo W := by
        funext r
        rw [if_neg (by omega)]
      rw [this]
      rfl
    rw [e]
    exact GT.rf h
  | k + 1 => by
    have ih := GT.ck h p k
    rw [wCk_s]
    split
    · exact ih.tr (GT.bw ih.1 k)
    · exact ih
theorem GT.bk {W : wW} (h : wOk W) {p : Nat} (hp : p < wPe W) : ∀ k, k ≤ 12 → GT W (wBk W p k)
  | 0, _ => GT.ck h p 12
  | k + 1, hk => by
    have ih := GT.bk h hp k (by omega)
    show GT W (if rT (wRo (wBk W p k) k) && decide (rO (wRo (wBk W p k) k) = some p) then wHd (wBw (wBk W p k) k none) k (wHe W p) else wBk W p k)
    split
    · rename_i hc
      rw [Bool.and_eq_true] at hc
      have h1 := GT.bw ih.1 k
      refine ih.tr (h1.tr (GT.hd h1.1 (by omega) (h1.2.2 k (by omega) (rT_p hc.1)) ?_))
      rw [h1.2.1, ih.2.1]
      exact wHe_lt2 W p
    · exact ih
theorem GT.yk {W : wW} (h : wOk (wY1 W)) : ∀ k, k ≤ wPe W → GT (wY1 W) (wYk W k)
  | 0, _ => GT.rf h
  | k + 1, hk => by
    have ih := GT.yk h k (by omega)
    show GT (wY1 W) (if wDi (wYk W k) k = some (wYr (wYk W k)) then wBu (wYk W k) k else wYk W k)
    split
    · refine ih.tr (GT.bk ih.1 ?_ 12 (by decide))
      rw [ih.2.1]
      exact hk
    · exact ih
theorem wY1_ok {W : wW} (h : wOk W) (hy : wYr W < 200) : wOk (wY1 W) := by
  obtain ⟨iY, iW, iB, iS, iR, iRb, iD, iP, -⟩ := id h
  refine wNum_ok h (by omega) ?_ iB ?_
  · unfold yW; split <;> omega
  · unfold yD; split <;> omega
theorem GT.ps {W : wW} (h : wOk W) : GT W (wPs W) := by
  unfold wPs
  split
  · rename_i hy
    exact GT.yk (wY1_ok h hy) (wPe W) (Nat.le_refl _)
  · exact GT.rf h
theorem GT.q {W : wW} (h : wOk W) : ∀ n, GT W (wQ W n)
  | 0 => GT.rf h
  | n + 1 => by
    have ih := GT.q h n
    rw [wQ_s]
    exact ih.tr (GT.ps ih.1)

/-! THE PART OF A PERSON -/
def per (W : wW) (pa di : Option Nat) : wW := (wYr W, wWa W, wBo W, wSi W, wRa W, wRb W, wDr W, wPe W + 1, (fun i => if i = wPe W then pa else wPa W i), (fun i => if i = wPe W then di else wDi W i), wFl W, wFd W, wRo W, wLa W)
/-- a name that may be added -/
def NN (C : Nat → Nat) (N n : Nat) (nt : tN) (x y : Nat) : Prop := x ≤ y ∧ y ≤ N ∧ y - x ≤ 8 ∧ (∀ j, j < y - x → kle (C (x + j)) = true) ∧ ∀ i, i < n → wN2 C nt i ≠ wd C x (y - x)
def addT (nt : tN) (n x y z : Nat) : tN := fun i => if i = n then (x, y, z) else nt i
theorem addT_e (nt : tN) (n x y z : Nat) : addT nt n x y z n = (x, y, z) := if_pos rfl
theorem addT_n {nt : tN} {n x y z i : Nat} (h : i < n) : addT nt n x y z i = nt i := if_neg (by omega)
theorem nn_of {C : Nat → Nat} {N a n : Nat} {nt : tN} (haN : a ≤ N) (hq : nmq C N a = true) (hx : xf C N a n nt = none) : NN C N n nt a (ed C N a) := by
  obtain ⟨hk, h8⟩ := nm_i hq
  refine ⟨ed_ge C N a, ed_le C haN, h8, tok_le hk, fun i hi he => ?_⟩
  have h1 := xf_none hx
  have h2 := fs_le (mP C N a nt) n
  have h3 := fs_no (mP C N a nt) n i (by omega)
  unfold mP at h3
  rw [decide_eq_false_iff_not] at h3
  exact h3 he
theorem NI.add {C : Nat → Nat} {N n np nr x y z : Nat} {nt : tN} (hN : NI C N n np nr nt) (hx : NN C N n nt x y) {np' nr' : Nat} (hz : (z = np ∧ np < 8 ∧ np' = np + 1 ∧ nr' = nr) ∨ (z = 8 + nr ∧ nr < 6 ∧ np' = np ∧ nr' = nr + 1)) : NI C N (n + 1) np' nr' (addT nt n x y z) := by
  obtain ⟨n1, n2, n3, n4, n5, n6, n7⟩ := hN
  obtain ⟨x1, x2, x3, x4, x5⟩ := hx
  have hw : ∀ i, i < n → wN2 C (addT nt n x y z) i = wN2 C nt i := fun i hi => by unfold wN2; rw [addT_n hi]
  have hwn : wN2 C (addT nt n x y z) n = wd C x (y - x) := by unfold wN2; rw [addT_e]
  refine ⟨by omega, by omega, by omega, fun i hi => ?_, fun i j hi hj he => ?_, fun j hj => ?_, fun j hj => ?_⟩
  · rcases Nat.lt_or_ge i n with h | h
    · rw [addT_n h]
      obtain ⟨q1, q2, q3, q4, q5⟩ := n4 i h
      exact ⟨q1, q2, q3, q4, by omega⟩
    · have : i = n := by omega
      subst this
      rw [addT_e]
      exact ⟨x1, x2, x3, x4, by show z < np' ∨ (8 ≤ z ∧ z < 8 + nr'); omega⟩
  · rcases Nat.lt_or_ge i n with h | h
    · rcases Nat.lt_or_ge j n with h' | h'
      · rw [hw i h, hw j h'] at he
        exact n5 i j h h' he
      · have : j = n := by omega
        subst this
        rw [hw i h, hwn] at he
        exact absurd he (x5 i h)
    · have : i = n := by omega
      subst this
      rcases Nat.lt_or_ge j i with h' | h'
      · rw [hw j h', hwn] at he
        exact absurd he.symm (x5 j h')
      · omega
  · rcases Nat.lt_or_ge j np with h | h
    · obtain ⟨i, h1, h2⟩ := n6 j h
      exact ⟨i, by omega, by rw [addT_n h1]; exact h2⟩
    · exact ⟨n, by omega, by rw [addT_e]; show z = j; omega⟩
  · rcases Nat.lt_or_ge j nr with h | h
    · obtain ⟨i, h1, h2⟩ := n7 j h
      exact ⟨i, by omega, by rw [addT_n h1]; exact h2⟩
    · exact ⟨n, by omega, by rw [addT_e]; show z = 8 + j; omega⟩
theorem RNT.add {C : Nat → Nat} {N n np nr x y z : Nat} {nt : tN} {t t' : mS} (hR : RNT t C n nt) (hN : NI C N n np nr nt) (hz : z = np ∨ z = 8 + nr) (h8 : np < 8 ∨ z = 8 + nr) (h1 : ∀ j, j ≠ 56 + z → sL t' 120 j = sL t 120 j) (h2 : sL t' 120 (56 + z) = lN (wd C x (y - x))) : RNT t' C (n + 1) (addT nt n x y z) := by
  obtain ⟨n1, n2, n3, n4, -⟩ := hN
  intro i hi
  rcases Nat.lt_or_ge i n with h | h
  · have hw : wN2 C (addT nt n x y z) i = wN2 C nt i := by unfold wN2; rw [addT_n h]
    obtain ⟨-, -, -, -, q5⟩ := n4 i h
    rw [addT_n h, hw, h1 _ (by omega)]
    exact hR i h
  · have : i = n := by omega
    subst this
    unfold wN2
    rw [addT_e]
    exact h2
/-- a name is kept -/
def kpS (v : mS) (n x y : Nat) (l : Int32) : mS := wI (wI (wI (wI v 108 n (nI x)) 109 n (nI y)) 110 n l) 107 4 (nI (n + 1))
section PERS
variable {v t v0 t0 : mS} {C : Nat → Nat} {N a n np nr : Nat} {nt : tN}
theorem c_keepName (hS : CS v) {x y : Nat} (hn : n < 14) (h4 : sI v 107 4 = nI n) (h8 : sI v 107 8 = nI x) (h9 : sI v 107 9 = nI y) (l : Int32) : fX6_keepName 107 l v = some ((), kpS v n x y l) := by
  obtain ⟨r5, r6, r7, r8, r9, r10⟩ := hS.r107
  have e1 : ∀ j, sI (wI v 108 n (nI x)) 107 j = sI v 107 j := fun j => sI_wI_ne (Or.inl (by decide))
  have e2 : ∀ j, sI (wI (wI v 108 n (nI x)) 109 n (nI y)) 107 j = sI v 107 j := fun j => (sI_wI_ne (Or.inl (by decide))).trans (e1 j)
  have e3 : ∀ j, sI (wI (wI (wI v 108 n (nI x)) 109 n (nI y)) 110 n l) 107 j = sI v 107 j := fun j => (sI_wI_ne (Or.inl (by decide))).trans (e2 j)
  have hS1 : CS (wI v 108 n (nI x)) := hS.w
  have hS2 : CS (wI (wI v 108 n (nI x)) 109 n (nI y)) := hS1.w
  have hS3 : CS (wI (wI (wI v 108 n (nI x)) 109 n (nI y)) 110 n l) := hS2.w
  unfold fX6_keepName
  rw [xGIe hS.k107 h4, e_if, if_neg (by rw [li_14, le_i (by omega) (by omega)]; omega), xGR hS.k107 r5, xGIe hS.k107 h4, xGIe hS.k107 h8, xSI r8 hn (by decide)]
  rw [xGR hS1.k107 r6, xGIe hS1.k107 ((e1 4).trans h4), xGIe hS1.k107 ((e1 9).trans h9), xSI hS1.r107.2.2.2.2.1 hn (by decide)]
  rw [xGR hS2.k107 r7, xGIe hS2.k107 ((e2 4).trans h4), xSI hS2.r107.2.2.2.2.2 hn (by decide)]
  rw [xGIe hS3.k107 ((e3 4).trans h4), nI_succ1, xPI hS3.k107]
  rfl
theorem CNT.add {x y z : Nat} {l : Int32} (h : CNT v n nt) (hl : l = oI (if z < 8 then some z else none)) : CNT (kpS v n x y l) (n + 1) (addT nt n x y z) := by
  obtain ⟨h1, h2⟩ := h
  have e8 : ∀ j, sI (kpS v n x y l) 108 j = sI (wI v 108 n (nI x)) 108 j := fun j => by
    unfold kpS
    rw [sI_wI_ne (Or.inl (by decide)), sI_wI_ne (Or.inl (by decide)), sI_wI_ne (Or.inl (by decide))]
  have e9 : ∀ j, sI (kpS v n x y l) 109 j = sI (wI (wI v 108 n (nI x)) 109 n (nI y)) 109 j := fun j => by
    unfold kpS
    rw [sI_wI_ne (Or.inl (by decide)), sI_wI_ne (Or.inl (by decide))]
  have e0 : ∀ j, sI (kpS v n x y l) 110 j = sI (wI (wI (wI v 108 n (nI x)) 109 n (nI y)) 110 n l) 110 j := fun j => by
    unfold kpS
    rw [sI_wI_ne (Or.inl (by decide))]
  refine ⟨sI_wI_eq _ _ _ _, fun i hi => ?_⟩
  rw [e8, e9, e0]
  rcases Nat.lt_or_ge i n with h | h
  · rw [addT_n h, sI_wI_ne (Or.inr (by omega)), sI_wI_ne (Or.inr (by omega)), sI_wI_ne (Or.inr (by omega)), sI_wI_ne (Or.inr (by omega)), sI_wI_ne (Or.inr (by omega)), sI_wI_ne (Or.inr (by omega))]
    exact h2 i h
  · have : i = n := by omega
    subst this
    rw [addT_e, sI_wI_eq, sI_wI_eq, sI_wI_eq]
    exact ⟨rfl, rfl, hl⟩
/-- how far the part of a person is read -/
def KP (v0 v t0 t : mS) (C : Nat → Nat) (p x y : Nat) (pa di : Option Nat) : Prop := (FI a48 v0 v ∧ (∀ j, j ≠ 8 → j ≠ 9 → sI v 107 j = sI v0 107 j) ∧ (∀ b, (b = 108 ∨ b = 109 ∨ b = 110 ∨ (wA 48 b ∧ b ≠ 49 ∧ b ≠ 50)) → sI v b = sI v0 b) ∧ (∀ j, j ≠ p → sI v 49 j = sI v0 49 j ∧ sI v 50 j = sI v0 50 j) ∧ sI v 49 p = oI pa ∧ sI v 50 p = oI di ∧ sI v 107 8 = nI x ∧ sI v 107 9 = nI y) ∧ FW t0 t ∧ (∀ i, i ≠ 3449 + p → i ≠ 3457 + p → sI t 118 i = sI t0 118 i) ∧ sI t 118 (3449 + p) = oI pa ∧ sI t 118 (3457 + p) = zI di ∧ (∀ j, j ≠ 56 + p → sL t 120 j = sL t0 120 j) ∧ sL t 120 (56 + p) = lN (wd C x (y - x)) ∧ ∀ j, ¬ (12 ≤ j ∧ j ≤ 18) → sI t 113 j = sI t0 113 j
theorem KP.f {v' t' : mS} {A : Nat → Prop} {p x y : Nat} {pa di : Option Nat} (h : KP v0 v t0 t C p x y pa di) (h1 : F6 A v v') (h2 : F9 i12 l22 t t') : KP v0 v' t0 t' C p x y pa di := by
  obtain ⟨⟨a1, a2, a3, a4, a5, a6, a7, a8⟩, b1, b2, b3, b4, b5, b6, b7⟩ := h
  have g : ∀ b, b ≠ 106 → sI v' b = sI v b := fun b hb => h1.1.1 b hb
  have q := (h2.1 118 (by decide)).1
  refine ⟨⟨a1.tr h1.fi, ?_, fun b hb => (g b ?_).trans (a3 b hb), ?_, ?_, ?_, ?_, ?_⟩, b1.tr h2.fw, ?_, ?_, ?_, ?_, ?_, fun j hj => (h2.I hj).trans (b7 j hj)⟩
  · rw [g 107 (by decide)]; exact a2
  · rcases hb with h | h | h | h
    · omega
    · omega
    · omega
    · have := h.1.2; omega
  · rw [g 49 (by decide), g 50 (by decide)]; exact a4
  · rw [g 49 (by decide)]; exact a5
  · rw [g 50 (by decide)]; exact a6
  · rw [g 107 (by decide)]; exact a7
  · rw [g 107 (by decide)]; exact a8
  · rw [q]; exact b2
  · rw [q]; exact b3
  · rw [q]; exact b4
  · rw [(h2.1 120 (by decide)).2]; exact b5
  · rw [(h2.1 120 (by decide)).2]; exact b6
theorem KP.pa {p x y q : Nat} {pa di : Option Nat} (h : KP v0 v t0 t C p x y pa di) (hp : p < 8) : KP v0 (wI v 49 p (nI q)) t0 (wI t 118 (3449 + p) (nI q)) C p x y (some q) di := by
  obtain ⟨⟨a1, a2, a3, a4, a5, a6, a7, a8⟩, b1, b2, b3, b4, b5, b6, b7⟩ := h
  refine ⟨⟨a1.tr (FI.w _ _ (Or.inr ⟨by decide, by decide⟩)), fun j h1 h2 => ?_, fun b hb => ?_, fun j hj => ?_, sI_wI_eq _ _ _ _, ?_, ?_, ?_⟩, b1.tr (FW.c (by omega)), fun i h1 h2 => ?_, sI_wI_eq _ _ _ _, ?_, b5, b6, fun j hj => ?_⟩
  · rw [sI_wI_ne (Or.inl (by decide))]; exact a2 j h1 h2
  · rw [← a3 b hb]
    funext j
    exact sI_wI_ne (Or.inl (by rcases hb with h | h | h | h <;> omega))
  · rw [sI_wI_ne (Or.inr hj), sI_wI_ne (Or.inl (by decide))]; exact a4 j hj
  · rw [sI_wI_ne (Or.inl (by decide))]; exact a6
  · rw [sI_wI_ne (Or.inl (by decide))]; exact a7
  · rw [sI_wI_ne (Or.inl (by decide))]; exact a8
  · rw [sI_wI_ne (Or.inr h1)]; exact b2 i h1 h2
  · rw [sI_wI_ne (Or.inr (by omega))]; exact b4
  · rw [sI_wI_ne (Or.inl (by decide))]; exact b7 j hj
theorem KP.di {p x y q : Nat} {pa di : Option Nat} (h : KP v0 v t0 t C p x y pa di) (hp : p < 8) : KP v0 (wI v 50 p (nI q)) t0 (wI t 118 (3457 + p) (nI q)) C p x y pa (some q) := by
  obtain ⟨⟨a1, a2, a3, a4, a5, a6, a7, a8⟩, b1, b2, b3, b4, b5, b6, b7⟩ := h
  refine ⟨⟨a1.tr (FI.w _ _ (Or.inr ⟨by decide, by decide⟩)), fun j h1 h2 => ?_, fun b hb => ?_, fun j hj => ?_, ?_, sI_wI_eq _ _ _ _, ?_, ?_⟩, b1.tr (FW.c (by omega)), fun i h1 h2 => ?_, ?_, sI_wI_eq _ _ _ _, b5, b6, fun j hj => ?_⟩
  · rw [sI_wI_ne (Or.inl (by decide))]; exact a2 j h1 h2
  · rw [← a3 b hb]
    funext j
    exact sI_wI_ne (Or.inl (by rcases hb with h | h | h | h <;> omega))
  · rw [sI_wI_ne (Or.inl (by decide)), sI_wI_ne (Or.inr hj)]; exact a4 j hj
  · rw [sI_wI_ne (Or.inl (by decide))]; exact a5
  · rw [sI_wI_ne (Or.inl (by decide))]; exact a7
  · rw [sI_wI_ne (Or.inl (by decide))]; exact a8
  · rw [sI_wI_ne (Or.inr h2)]; exact b2 i h1 h2
  · rw [sI_wI_ne (Or.inr (by omega))]; exact b3
  · rw [sI_wI_ne (Or.inl (by decide))]; exact b7 j hj
theorem KP.kf {p x y : Nat} {pa di : Option Nat} (h : KP v0 v t0 t C p x y pa di) : KF v0 v t0 t := ⟨h.1.1, h.2.1⟩
theorem x_107E (h : BD t) : fX9_readPerson_107 113 t = some ((), t) := by
  unfold fX9_readPerson_107
  rw [xGI h.1.k, e_if, if_neg h.ne.2]
  rfl
theorem x_71E (h : BD t) (l : Int32) : fX9_readPerson_71 113 l t = some ((), t) := by
  unfold fX9_readPerson_71
  rw [xGI h.1.k, e_if, if_neg h.ne.2, x_107E h]
theorem j_pDies {p x y : Nat} {pa : Option Nat} (hK : KP v0 v t0 t C p x y pa none) (h : CG v C N a) (g : RG t C N a) (hw : WoS v 48) (hp : p < 8) : ∃ v' t', fX9_readPerson_71 113 (nI p) t = fX9_readPerson_107 113 t' ∧ KF v0 v' t0 t' ∧ ((∃ di a', fX6_readPerson_88 107 (nI p) v = fX6_readPerson_139 107 (nI p) v' ∧ KP v0 v' t0 t' C p x y pa di ∧ (∀ d, di = some d → 1 ≤ d ∧ d ≤ 200) ∧ a ≤ a' ∧ CG v' C N a' ∧ RG t' C N a') ∨ (fX6_readPerson_88 107 (nI p) v = some (nI 0, v') ∧ JE v' t')) := by
  have hS := h.1.1
  have hT := g.1.1
  unfold fX9_readPerson_71 fX6_readPerson_88
  rw [w_tk hS, e_callV hS.k106, x_call (c_isWord h (by decide)), e_if, g.1.gi g.2.2.2, e_if, if_pos (by decide), g.1.cv, x_call (x_isDies hT), g.wbq (by decide) (by decide), e_if]
  cases hq : wq C N a 28 with
  | false =>
    rw [if_pos (by decide), if_pos (by decide)]
    exact ⟨v, t, rfl, hK.kf, Or.inl ⟨none, a, rfl, hK, (fun d hd => by cases hd), Nat.le_refl _, h, g⟩⟩
  | true =>
    obtain ⟨v1, t1, e1, f1, p1, q1, c1, r1⟩ := j_next h g
    have hS1 := c1.1.1
    have hT1 := r1.1.1
    have K1 := hK.f p1 q1
    have hw1 : WoS v1 48 := hw.mv p1.1.2
    obtain ⟨v2, t2, d, f2, p2, q2, hx⟩ := j_num c1 r1 (lo := 1) (hi := 200) (by decide) (by decide)
    have hT2 := hT1.f9 q2
    have K2 := K1.f p2 q2
    have hw2 : WoS v2 48 := hw1.mv p2.1.2
    have hS2 : CS v2 := hS1.fi p2.1
    have hn1 := nx_ge C N a
    have hn2 := nx_ge C N (nx C N a)
    rw [if_neg (by decide), if_neg (by decide), w_tk hS, e_callV hS.k106, x_call e1, w_tk hS1, e_callV hS1.k106, g.1.cv, x_call f1, rt_c hT1, e_callV hT1.k, li_1, li_200, x_call f2, li_3457, nI_add, rt_cell hT2 (by omega)]
    rcases hx with ⟨k1, k2, k3, k4, c2, r2⟩ | ⟨k1, je⟩
    · have K3 := K2.di (q := d) hp
      rw [x_call k1, e_if, if_neg (by decide), w_th hS2, xGR hw2.1 (show sP v2 48 9 = 50 from hw2.2.2.1), w_tk hS2, xGIe hS2.k106 k2, xSI (show sH v2 50 = (11, 8) from hw2.2.2.2.2.2.2.2.2.2.1) hp (by decide)]
      exact ⟨_, _, rfl, K3.kf, Or.inl ⟨some d, _, rfl, K3, (fun d' hd => by cases hd; exact ⟨k3, k4⟩), by omega, c2.w (by decide) (by decide), r2.c⟩⟩
    · rw [x_call k1, e_if, if_pos (by decide)]
      exact ⟨v2, _, rfl, K2.kf.f (F6.rf (A := j28)) (FW.c (by omega)), Or.inr ⟨rfl, je.c (by omega)⟩⟩
end PERS

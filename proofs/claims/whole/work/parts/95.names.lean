/-! NAMES THAT WERE TOLD: both sides -/
abbrev tN : Type := Nat → Nat × Nat × Nat
def wN2 (C : Nat → Nat) (nt : tN) (i : Nat) : Nat := wd C (nt i).1 ((nt i).2.1 - (nt i).1)
def NI (C : Nat → Nat) (N n np nr : Nat) (nt : tN) : Prop := n = np + nr ∧ np ≤ 8 ∧ nr ≤ 6 ∧ (∀ i, i < n → (nt i).1 ≤ (nt i).2.1 ∧ (nt i).2.1 ≤ N ∧ (nt i).2.1 - (nt i).1 ≤ 8 ∧ (∀ j, j < (nt i).2.1 - (nt i).1 → kle (C ((nt i).1 + j)) = true) ∧ ((nt i).2.2 < np ∨ (8 ≤ (nt i).2.2 ∧ (nt i).2.2 < 8 + nr))) ∧ (∀ i j, i < n → j < n → wN2 C nt i = wN2 C nt j → i = j) ∧ (∀ j, j < np → ∃ i, i < n ∧ (nt i).2.2 = j) ∧ (∀ j, j < nr → ∃ i, i < n ∧ (nt i).2.2 = 8 + j)
def CNT (v : mS) (n : Nat) (nt : tN) : Prop := sI v 107 4 = nI n ∧ ∀ i, i < n → sI v 108 i = nI (nt i).1 ∧ sI v 109 i = nI (nt i).2.1 ∧ sI v 110 i = oI (if (nt i).2.2 < 8 then some (nt i).2.2 else none)
def RNT (t : mS) (C : Nat → Nat) (n : Nat) (nt : tN) : Prop := ∀ i, i < n → sL t 120 (56 + (nt i).2.2) = lN (wN2 C nt i)
def mP (C : Nat → Nat) (N a : Nat) (nt : tN) (i : Nat) : Bool := decide (wN2 C nt i = wd C a (ed C N a - a))
/-- which name stands here -/
def xf (C : Nat → Nat) (N a n : Nat) (nt : tN) : Option Nat := if fs (mP C N a nt) n < n then some (nt (fs (mP C N a nt) n)).2.2 else none
theorem kle_b {c : Nat} (h : kle c = true) : 97 ≤ c ∧ c ≤ 122 := by
  unfold kle at h
  simpa using h
section CFIND
variable {v : mS} {C : Nat → Nat} {N a n np nr : Nat} {nt : tN}
theorem nm_i {C : Nat → Nat} {N a : Nat} (h : nmq C N a = true) : kd C N a = 1 ∧ ed C N a - a ≤ 8 := by
  unfold nmq at h
  rw [Bool.and_eq_true, Bool.and_eq_true, decide_eq_true_iff, decide_eq_true_iff] at h
  exact ⟨h.1, h.2.1⟩
theorem tok_le {C : Nat → Nat} {N a : Nat} (h : kd C N a = 1) : ∀ i, i < ed C N a - a → kle (C (a + i)) = true := fun i hi => by
  obtain ⟨-, -, hed⟩ := kd_1 h
  exact ew_in C (N := N) (by rw [hed] at hi; omega)
theorem mP_iff (hN : NI C N n np nr nt) {i : Nat} (hi : i < n) (hk : kd C N a = 1) : mP C N a nt i = true ↔ (nt i).2.1 - (nt i).1 = ed C N a - a ∧ ∀ j, j < ed C N a - a → C (a + j) = C ((nt i).1 + j) := by
  obtain ⟨-, -, -, h4, -, -, -⟩ := hN
  obtain ⟨q1, q2, q3, q4, q5⟩ := h4 i hi
  unfold mP
  rw [decide_eq_true_iff]
  constructor
  · intro h
    obtain ⟨e1, e2⟩ := dg_inj (fun j => C ((nt i).1 + j)) (fun j => C (a + j)) _ _ (fun j hj => kle_b (q4 j hj)) (fun j hj => kle_b (tok_le hk j hj)) h
    exact ⟨e1, fun j hj => (e2 j (by omega)).symm⟩
  · rintro ⟨e1, e2⟩
    unfold wN2 wd
    rw [e1]
    exact it_congr _ (fun j w hj => by rw [e2 j hj])
theorem c_find1 (h : CG v C N a) (hN : NI C N n np nr nt) (hC : CNT v n nt) (hk : kd C N a = 1) {i : Nat} (hi : i < n) (r2 : Nat → Int32 → mM Int32) {x : Int32} (hx : x = nI i) : fX6_findName_46 r2 107 x (nI (decide ((nt i).2.1 - (nt i).1 = ed C N a - a)).toNat) v = if mP C N a nt i then some (nI i, v) else r2 107 (nI (i + 1)) v := by
  subst hx
  have hN0 := hN
  obtain ⟨hT, ⟨k3, k2, k4, -, -⟩, haN, -, -⟩ := h
  have h9 := hT.2.2.1
  have hS := hT.1
  obtain ⟨r5, r6, r7, r8, r9, r10⟩ := hS.r107
  obtain ⟨n1, n2, n3, h4, -, -, -⟩ := hN
  obtain ⟨q1, q2, q3, q4, q5⟩ := h4 i hi
  obtain ⟨c1, c2, c3⟩ := hC.2 i hi
  have hge := ed_ge C N a
  have hle := ed_le C haN
  have hiff := mP_iff (a := a) hN0 hi hk
  have h118 : fX6_findName_118 r2 107 (nI i) (nI 0) v = r2 107 (nI (i + 1)) v := by
    unfold fX6_findName_118
    rw [e_if, if_pos (by decide), nI_succ1]
  have h118b : fX6_findName_118 r2 107 (nI i) (nI 1) v = some (nI i, v) := by
    unfold fX6_findName_118
    rw [e_if, if_neg (by decide)]
    rfl
  unfold fX6_findName_46
  rw [w_tk hS, hT.gi k3]
  by_cases he : (nt i).2.1 - (nt i).1 = ed C N a - a
  · rw [decide_eq_true he]
    have key := loop_x2 (fun m k => fX6_findName_55 r2 m 107 (nI i) (nI 1) (nI (a + k)) v) (fun j => !decide (C (a + j) = C ((nt i).1 + j))) (fun k => if k < ed C N a - a then r2 107 (nI (i + 1)) v else some (nI i, v)) (ed C N a - a) ?_ ?_ ?_ fu (by unfold fu; omega)
    · refine Eq.trans key ?_
      cases hE : ex (fun j => !decide (C (a + j) = C ((nt i).1 + j))) (ed C N a - a) with
      | true =>
        rw [if_pos ((fs_ex _ _).mpr hE)]
        obtain ⟨r, hr, hp⟩ := ex_t hE
        have hm : mP C N a nt i = false := by
          cases hm : mP C N a nt i with
          | false => rfl
          | true =>
            rw [decide_eq_true ((hiff.mp hm).2 r hr)] at hp
            cases hp
        rw [hm]
        rfl
      | false =>
        rw [if_neg (fun hh => by rw [(fs_ex _ _).mp hh] at hE; cases hE)]
        have hm : mP C N a nt i = true := hiff.mpr ⟨he, fun j hj => by
          have := ex_f hE j hj
          simpa using this⟩
        rw [hm]
        rfl
    · intro m k hk2 hb
      have hb : ¬ C (a + k) = C ((nt i).1 + k) := by simpa using hb
      obtain ⟨d1, d2⟩ := hT.2.2.2 (a + k) (by omega)
      obtain ⟨d3, d4⟩ := hT.2.2.2 ((nt i).1 + k) (by omega)
      show fX6_findName_55 r2 (m + 1 + 1) 107 (nI i) (nI 1) (nI (a + k)) v = if k < ed C N a - a then _ else _
      rw [qX6_findName_55, w_tk hS, hT.gi k4, e_if, if_neg (by rw [le_i (by omega) (by omega)]; omega), e_if, if_neg (by decide), w_tk hS, xGR hS.k106 hS.p106, xAIe hS.h3 (by omega) (by decide) d1, w_tk hS, xGR hS.k106 hS.p106, xGR hS.k107 r5, xAIe r8 (by omega) (by decide) c1, w_tk hS, hT.gi k3, nI_add, sub_i (by omega), show (nt i).1 + (a + k) - a = (nt i).1 + k by omega, xAIe hS.h3 (by omega) (by decide) d3, e_if, if_neg (by rw [xb_qq d2 d4]; exact hb), if_pos hk2]
      unfold fX6_findName_111
      rw [nI_succ1, qX6_findName_55, w_tk hS, hT.gi k4, e_if]
      split
      · exact h118
      · rw [e_if, if_pos (by rfl)]; exact h118
    · intro m k hk2 hb
      have hb : C (a + k) = C ((nt i).1 + k) := by simpa using hb
      obtain ⟨d1, d2⟩ := hT.2.2.2 (a + k) (by omega)
      obtain ⟨d3, d4⟩ := hT.2.2.2 ((nt i).1 + k) (by omega)
      show fX6_findName_55 r2 (m + 1) 107 (nI i) (nI 1) (nI (a + k)) v = fX6_findName_55 r2 m 107 (nI i) (nI 1) (nI (a + (k + 1))) v
      rw [qX6_findName_55, w_tk hS, hT.gi k4, e_if, if_neg (by rw [le_i (by omega) (by omega)]; omega), e_if, if_neg (by decide), w_tk hS, xGR hS.k106 hS.p106, xAIe hS.h3 (by omega) (by decide) d1, w_tk hS, xGR hS.k106 hS.p106, xGR hS.k107 r5, xAIe r8 (by omega) (by decide) c1, w_tk hS, hT.gi k3, nI_add, sub_i (by omega), show (nt i).1 + (a + k) - a = (nt i).1 + k by omega, xAIe hS.h3 (by omega) (by decide) d3, e_if, if_pos (by rw [xb_qq d2 d4]; exact hb)]
      unfold fX6_findName_111
      rw [nI_succ1]
      rfl
    · intro m
      show fX6_findName_55 r2 (m + 1) 107 (nI i) (nI 1) (nI (a + (ed C N a - a))) v = if ed C N a - a < ed C N a - a then _ else _
      rw [qX6_findName_55, w_tk hS, hT.gi k4, e_if, if_pos (by rw [le_i (by omega) (by omega)]; omega), if_neg (by omega), h118b]
  · have hm : mP C N a nt i = false := by
      cases hm : mP C N a nt i with
      | false => rfl
      | true => exact absurd (hiff.mp hm).1 he
    rw [decide_eq_false he, hm, show fu = 4999 + 1 from rfl, qX6_findName_55, w_tk hS, hT.gi k4, e_if]
    split
    · exact h118
    · rw [e_if, if_pos (by rfl)]; exact h118
theorem c_findName (h : CG v C N a) (hN : NI C N n np nr nt) (hC : CNT v n nt) (hk : kd C N a = 1) : fX6_findName 107 v = some (if fs (mP C N a nt) n < n then nI (fs (mP C N a nt) n) else mI, v) := by
  have hT := h.1
  have hS := hT.1
  have h9 := hT.2.2.1
  obtain ⟨k3, k2, k4, -, -⟩ := h.2.1
  have haN := h.2.2.1
  obtain ⟨r5, r6, r7, r8, r9, r10⟩ := hS.r107
  have hN0 := hN
  obtain ⟨n1, n2, n3, h4, -, -, -⟩ := hN
  have hge := ed_ge C N a
  have hle := ed_le C haN
  have hstep : ∀ m k, k < n → fX6_findName_2 (m + 1) 107 (nI k) v = if mP C N a nt k then some (nI k, v) else fX6_findName_2 m 107 (nI (k + 1)) v := fun m k hkn => by
    obtain ⟨c1, c2, c3⟩ := hC.2 k hkn
    obtain ⟨q1, q2, q3, q4, q5⟩ := h4 k hkn
    rw [← c_find1 h hN0 hC hk hkn (fX6_findName_2 m) rfl]
    rw [qX6_findName_2, xGIe hS.k107 hC.1, e_if, if_neg (by rw [le_i (by omega) (by omega)]; omega), xGR hS.k107 r6, xAIe r9 (by omega) (by decide) c2, xGR hS.k107 r5, xAIe r8 (by omega) (by decide) c1, w_tk hS, hT.gi k4, w_tk hS, hT.gi k3, sub_i q1, sub_i hge, e_if]
    by_cases he : (nt k).2.1 - (nt k).1 = ed C N a - a
    · rw [if_pos (by rw [he]), decide_eq_true he]; rfl
    · rw [if_neg (by rw [eq_i (by omega) (by omega)]; exact he), decide_eq_false he]; rfl
  unfold fX6_findName
  refine loop_x (fun m k => fX6_findName_2 m 107 (nI k) v) (mP C N a nt) (fun k => some (if k < n then nI k else mI, v)) n ?_ ?_ ?_ fu (by unfold fu; omega)
  · intro m k hkn hb
    show fX6_findName_2 (m + 1) 107 (nI k) v = some (if k < n then nI k else mI, v)
    rw [hstep m k hkn, hb, if_pos rfl, if_pos hkn]
  · intro m k hkn hb
    show fX6_findName_2 (m + 1) 107 (nI k) v = fX6_findName_2 m 107 (nI (k + 1)) v
    rw [hstep m k hkn, hb]
    rfl
  · intro m
    show fX6_findName_2 (m + 1) 107 (nI n) v = some (if n < n then nI n else mI, v)
    rw [qX6_findName_2, xGIe hS.k107 hC.1, e_if, if_pos (by rw [le_i (by omega) (by omega)]; omega), if_neg (by omega)]
    rfl
end CFIND
theorem RT.h120 {s : mS} (h : RT s) : sH s 120 = (12, 70) := h.2.2.2.2.2.2.2.2.2.2.2.2.2.2.2.2.2.2.1
theorem rt_26 {w : mS} {α : Type} (hT : RT w) {f : Nat → mM α} : bGR 9 113 26 f w = f 120 w := xGR hT.k hT.2.2.2.2.2.2.2.1
def nmP (t : mS) (first k : Nat) : Bool := decide (sL t 120 (56 + first + k) = sL t 113 22)
section RFIND
variable {t : mS} {C : Nat → Nat} {N a n np nr : Nat} {nt : tN}
theorem x_named (hT : RT t) {first many : Nat} (hm : first + many ≤ 14) : fX9_named 113 (nI first) (nI many) t = some (if fs (nmP t first) many < many then nI (fs (nmP t first) many) else mI, t) := by
  unfold fX9_named
  refine loop_x (fun m k => fX9_named_2 m 113 (nI first) (nI many) (nI k) t) (nmP t first) (fun k => some (if k < many then nI k else mI, t)) many ?_ ?_ ?_ fu (by unfold fu; omega)
  · intro m k hk hb
    have hb : sL t 120 (56 + first + k) = sL t 113 22 := of_decide_eq_true hb
    show fX9_named_2 (m + 1) 113 (nI first) (nI many) (nI k) t = some (if k < many then nI k else mI, t)
    rw [qX9_named_2, e_if, if_neg (by rw [le_i (by omega) (by omega)]; omega), rt_26 hT, li_56, nI_add, nI_add, xAL hT.h120 (by omega) (by decide), xGL hT.k, e_if, if_pos (by rw [li_0, lg_eq0]; exact hb), if_pos hk]
    rfl
  · intro m k hk hb
    have hb : ¬ sL t 120 (56 + first + k) = sL t 113 22 := of_decide_eq_false hb
    show fX9_named_2 (m + 1) 113 (nI first) (nI many) (nI k) t = fX9_named_2 m 113 (nI first) (nI many) (nI (k + 1)) t
    rw [qX9_named_2, e_if, if_neg (by rw [le_i (by omega) (by omega)]; omega), rt_26 hT, li_56, nI_add, nI_add, xAL hT.h120 (by omega) (by decide), xGL hT.k, e_if, if_neg (by rw [li_0, lg_eq0]; exact hb), nI_succ1]
  · intro m
    show fX9_named_2 (m + 1) 113 (nI first) (nI many) (nI many) t = some (if many < many then nI many else mI, t)
    rw [qX9_named_2, e_if, if_pos (by rw [le_i (by omega) (by omega)]; omega), if_neg (by omega)]
    rfl
theorem RG.L22 (h : RG t C N a) (hk : kd C N a = 1) (h8 : ed C N a - a ≤ 8) : sL t 113 22 = lN (wd C a (ed C N a - a)) ∧ wd C a (ed C N a - a) < 1099511627776 := by
  have h1 := (h.2.1.2.2.2.2.2 hk).2
  have hb := wd_b C a _ (tok_le hk)
  have hp := p32_8 h8
  unfold wdL at h1
  rw [if_pos h8] at h1
  exact ⟨h1, by omega⟩
theorem wN2_b (hN : NI C N n np nr nt) {i : Nat} (hi : i < n) : wN2 C nt i < 1099511627776 := by
  obtain ⟨-, -, -, h4, -, -, -⟩ := hN
  obtain ⟨q1, q2, q3, q4, q5⟩ := h4 i hi
  have hb := wd_b C (nt i).1 _ q4
  have hp := p32_8 q3
  unfold wN2
  omega
theorem nmP_iff (h : RG t C N a) (hN : NI C N n np nr nt) (hR : RNT t C n nt) (hk : kd C N a = 1) (h8 : ed C N a - a ≤ 8) {i : Nat} (hi : i < n) : (sL t 120 (56 + (nt i).2.2) = sL t 113 22) ↔ mP C N a nt i = true := by
  obtain ⟨l1, l2⟩ := h.L22 hk h8
  have hw := wN2_b hN hi
  rw [hR i hi, l1, pk_lEQ (by omega) (by omega)]
  unfold mP
  rw [decide_eq_true_iff]
/-- who is named here -/
def pOf (o : Option Nat) : Option Nat := match o with
  | some x => if x < 8 then some x else none
  | none => none
theorem xf_some (hN : NI C N n np nr nt) {i : Nat} (hi : i < n) (hm : mP C N a nt i = true) : xf C N a n nt = some (nt i).2.2 := by
  have h5 := hN.2.2.2.2.1
  have hlt := (fs_ex (mP C N a nt) n).mpr ((ex_iff _ n).mpr ⟨i, hi, hm⟩)
  have hy := fs_yes (mP C N a nt) n hlt
  have : fs (mP C N a nt) n = i := h5 _ _ hlt hi (by
    have e1 : wN2 C nt (fs (mP C N a nt) n) = wd C a (ed C N a - a) := of_decide_eq_true hy
    have e2 : wN2 C nt i = wd C a (ed C N a - a) := of_decide_eq_true hm
    rw [e1, e2])
  unfold xf
  rw [if_pos hlt, this]
theorem x_person (h : RG t C N a) (hN : NI C N n np nr nt) (hR : RNT t C n nt) (hk : kd C N a = 1) (h8 : ed C N a - a ≤ 8) : fX9_named 113 (nI 0) (nI np) t = some (oI (pOf (xf C N a n nt)), t) := by
  have hN0 := hN
  obtain ⟨n1, n2, n3, h4, h5, h6, h7⟩ := hN
  rw [x_named h.1.1 (by omega)]
  by_cases hlt : fs (nmP t 0) np < np
  · have hy := fs_yes (nmP t 0) np hlt
    obtain ⟨i, i1, i2⟩ := h6 _ hlt
    have hy : sL t 120 (56 + 0 + fs (nmP t 0) np) = sL t 113 22 := of_decide_eq_true hy
    have hm := (nmP_iff h hN0 hR hk h8 i1).mp (by rw [i2]; exact hy)
    rw [if_pos hlt, xf_some hN0 i1 hm, i2]
    show _ = some (oI (if fs (nmP t 0) np < 8 then some _ else none), t)
    rw [if_pos (by omega)]
    rfl
  · rw [if_neg hlt]
    cases hx : xf C N a n nt with
    | none => rfl
    | some x =>
      by_cases hx8 : x < 8
      · exfalso
        unfold xf at hx
        by_cases hl : fs (mP C N a nt) n < n
        · rw [if_pos hl] at hx
          have hx : (nt (fs (mP C N a nt) n)).2.2 = x := by cases hx; rfl
          have hq := (h4 _ hl).2.2.2.2
          have hmm := fs_yes (mP C N a nt) n hl
          have hss := (nmP_iff h hN0 hR hk h8 hl).mpr hmm
          refine hlt ((fs_ex _ _).mpr ((ex_iff _ np).mpr ⟨x, by omega, ?_⟩))
          unfold nmP
          rw [show 56 + 0 + x = 56 + (nt (fs (mP C N a nt) n)).2.2 by omega]
          exact decide_eq_true hss
        · rw [if_neg hl] at hx; cases hx
      · show _ = some (oI (if x < 8 then some _ else none), t)
        rw [if_neg hx8]
        rfl
theorem x_taken (h : RG t C N a) (hN : NI C N n np nr nt) (hR : RNT t C n nt) (hk : kd C N a = 1) (h8 : ed C N a - a ≤ 8) : (fs (nmP t 0) np < np ∨ fs (nmP t 8) nr < nr) ↔ xf C N a n nt ≠ none := by
  have hN0 := hN
  obtain ⟨n1, n2, n3, h4, h5, h6, h7⟩ := hN
  constructor
  · rintro (hlt | hlt)
    · have hy := fs_yes (nmP t 0) np hlt
      obtain ⟨i, i1, i2⟩ := h6 _ hlt
      have hy : sL t 120 (56 + 0 + fs (nmP t 0) np) = sL t 113 22 := of_decide_eq_true hy
      have hm := (nmP_iff h hN0 hR hk h8 i1).mp (by rw [i2]; exact hy)
      rw [xf_some hN0 i1 hm]
      exact fun e => by cases e
    · have hy := fs_yes (nmP t 8) nr hlt
      obtain ⟨i, i1, i2⟩ := h7 _ hlt
      have hy : sL t 120 (56 + 8 + fs (nmP t 8) nr) = sL t 113 22 := of_decide_eq_true hy
      have hm := (nmP_iff h hN0 hR hk h8 i1).mp (by rw [i2, show 56 + (8 + fs (nmP t 8) nr) = 56 + 8 + fs (nmP t 8) nr by omega]; exact hy)
      rw [xf_some hN0 i1 hm]
      exact fun e => by cases e
  · intro hx
    have hl : fs (mP C N a nt) n < n := by
      rcases Nat.lt_or_ge (fs (mP C N a nt) n) n with h1 | h1
      · exact h1
      · exfalso
        apply hx
        unfold xf
        rw [if_neg (by omega)]
    have hq := (h4 _ hl).2.2.2.2
    have hmm := fs_yes (mP C N a nt) n hl
    have hss := (nmP_iff h hN0 hR hk h8 hl).mpr hmm
    rcases hq with hq | hq
    · left
      refine (fs_ex _ _).mpr ((ex_iff _ np).mpr ⟨_, hq, ?_⟩)
      unfold nmP
      rw [show 56 + 0 + (nt (fs (mP C N a nt) n)).2.2 = 56 + (nt (fs (mP C N a nt) n)).2.2 by omega]
      exact decide_eq_true hss
    · right
      refine (fs_ex _ _).mpr ((ex_iff _ nr).mpr ⟨(nt (fs (mP C N a nt) n)).2.2 - 8, by omega, ?_⟩)
      unfold nmP
      rw [show 56 + 8 + ((nt (fs (mP C N a nt) n)).2.2 - 8) = 56 + (nt (fs (mP C N a nt) n)).2.2 by omega]
      exact decide_eq_true hss
end RFIND

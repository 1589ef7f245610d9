/-! WORDS: which stands here, both sides -/
def wq (C : Nat → Nat) (N a z : Nat) : Bool := decide (kd C N a = 1) && (decide (ed C N a - a = zl z) && !ex (fun i => !decide (C (a + i) = zc z i)) (zl z))
theorem wq_iff {C : Nat → Nat} {N a z : Nat} : wq C N a z = true ↔ kd C N a = 1 ∧ ed C N a - a = zl z ∧ ∀ i, i < zl z → C (a + i) = zc z i := by
  unfold wq
  constructor
  · intro h
    have h1 : kd C N a = 1 ∧ ed C N a - a = zl z ∧ ex (fun i => !decide (C (a + i) = zc z i)) (zl z) = false := by simpa using h
    refine ⟨h1.1, h1.2.1, fun i hi => ?_⟩
    have := ex_f h1.2.2 i hi
    simpa using this
  · rintro ⟨h1, h2, h3⟩
    have h4 : ex (fun i => !decide (C (a + i) = zc z i)) (zl z) = false := by
      cases h : ex (fun i => !decide (C (a + i) = zc z i)) (zl z) with
      | false => rfl
      | true =>
        obtain ⟨r, hr, hp⟩ := ex_t h
        have := h3 r hr
        rw [decide_eq_true this] at hp
        cases hp
    rw [decide_eq_true h1, decide_eq_true h2, h4]
    rfl
theorem wq_eq {C : Nat → Nat} {N a z y : Nat} (h : zB z = zB y) : wq C N a z = wq C N a y := by
  unfold wq zc zl
  rw [h]
def fk (C : Nat → Nat) (N a w : Nat) : Nat := if kd C N a = 4 then 1 else w
/-- the class at a token, without a fault so far -/
def CG (v : mS) (C : Nat → Nat) (N a : Nat) : Prop := TC v C N ∧ CK v C N a ∧ a ≤ N ∧ sI v 106 7 = nI 0 ∧ sI v 106 8 = mI
def CE (v : mS) (k p : Nat) : Prop := sI v 106 7 = nI k ∧ sI v 106 8 = nI p ∧ 1 ≤ k ∧ k ≤ 7 ∧ p ≤ 900
abbrev PR (α : Type) : Type := (Nat × Nat) ⊕ (α × Nat)
def cQ {α : Type} (v : mS) (C : Nat → Nat) (N : Nat) (x : PR α) : Prop := match x with
  | .inl e => CE v e.1 e.2
  | .inr y => CG v C N y.2
def iR {α : Type} (x : PR α) : Nat := match x with
  | .inl _ => 0
  | .inr _ => 1
abbrev j28 : Nat → Prop := fun j => 2 ≤ j ∧ j ≤ 8
theorem j25_28 : ∀ j, j25 j → j28 j := fun j hj => ⟨hj.1, by have := hj.2; omega⟩
def pW (C : Nat → Nat) (N a z : Nat) : PR Unit := if wq C N a z then .inr ((), nx C N a) else .inl (fk C N a 2, a)
def sq (C : Nat → Nat) (N a c : Nat) : Bool := decide (kd C N a = 3) && decide (C a = c)
def pS (C : Nat → Nat) (N a c : Nat) : PR Unit := if sq C N a c then .inr ((), nx C N a) else .inl (fk C N a 2, a)
abbrev vN (C : Nat → Nat) (N a : Nat) : Nat := nv C a (ed C N a - a)
def pN (C : Nat → Nat) (N lo hi a : Nat) : PR Nat := if kd C N a = 2 then (if vN C N a < lo ∨ hi < vN C N a then .inl (4, a) else .inr (vN C N a, nx C N a)) else .inl (fk C N a 2, a)
section CW2
variable {v : mS} {C : Nat → Nat} {N a : Nat}
theorem CG.n9 (h : CG v C N a) : a ≤ 900 := by have h1 := h.1.2.2.1; have h2 := h.2.2.1; omega
theorem fk_b {C : Nat → Nat} {N a w : Nat} (h1 : 1 ≤ w) (h2 : w ≤ 7) : 1 ≤ fk C N a w ∧ fk C N a w ≤ 7 := by
  unfold fk
  split <;> omega
theorem vN_b (C : Nat → Nat) (N a : Nat) (h : kd C N a = 2) : vN C N a < 10000 := by
  have hlt : a < N := by
    rcases Nat.lt_or_ge a N with h1 | h1
    · exact h1
    · unfold kd at h
      rw [if_pos h1] at h
      cases h
  have h2 : ed C N a = eg C N a := by
    unfold kd at h
    unfold ed
    rw [if_neg (by omega)] at h ⊢
    cases hl : kle (C a) with
    | true => rw [hl] at h; cases h
    | false =>
      rw [hl] at h
      cases hd : kdg (C a) with
      | true => rfl
      | false =>
        rw [hd] at h
        simp at h
        split at h <;> cases h
  have hge : a ≤ eg C N a := Nat.le_add_right _ _
  have := nv_b C a (ed C N a - a) (fun i hi => eg_in C (N := N) (by rw [h2] at hi; omega))
  have hp := p10_4 (ed C N a - a)
  show nv C a (ed C N a - a) < 10000
  omega
theorem c_isWord (h : CG v C N a) {z : Nat} (hz : z < 34) : fX4_isWord 106 z v = some (nI (wq C N a z).toNat, v) := by
  obtain ⟨hT, ⟨k3, k2, k4, -, -⟩, haN, -, -⟩ := h
  have h9 := hT.2.2.1
  have hk5 := kd_5 C N a
  have hzb := zl_b z (by omega)
  have hge := ed_ge C N a
  have hle := ed_le C haN
  unfold fX4_isWord wq
  rw [hT.gi k2, e_if]
  by_cases h1 : kd C N a = 1
  · rw [if_pos (by rw [h1]; rfl), hT.gi k4, hT.gi k3, e_callX (by omega) (l_len (by omega) v), sub_i hge, e_if, decide_eq_true h1]
    by_cases h2 : ed C N a - a = zl z
    · rw [if_pos (by rw [eq_i (by omega) (by omega)]; exact h2), decide_eq_true h2, Bool.true_and, Bool.true_and]
      have key := loop_x (fun n k => fX4_isWord_28 n 106 z (nI k) v) (fun i => !decide (C (a + i) = zc z i)) (fun k => some (nI (if k < zl z then 0 else 1), v)) (zl z) ?_ ?_ ?_ fu (by unfold fu; omega)
      · refine key.trans ?_
        have hfl := fs_le (fun i => !decide (C (a + i) = zc z i)) (zl z)
        cases hE : ex (fun i => !decide (C (a + i) = zc z i)) (zl z) with
        | true =>
          obtain ⟨r, hr, hp⟩ := ex_t hE
          have : fs (fun i => !decide (C (a + i) = zc z i)) (zl z) < zl z := by
            rcases Nat.lt_or_ge (fs (fun i => !decide (C (a + i) = zc z i)) (zl z)) (zl z) with h | h
            · exact h
            · rw [fs_no (fun i => !decide (C (a + i) = zc z i)) (zl z) r (by omega)] at hp; cases hp
          rw [if_pos this]
          rfl
        | false =>
          have : ¬ fs (fun i => !decide (C (a + i) = zc z i)) (zl z) < zl z := fun h => by
            have := fs_yes (fun i => !decide (C (a + i) = zc z i)) (zl z) h
            rw [ex_f hE _ h] at this
            cases this
          rw [if_neg this]
          rfl
      · intro n k hk hb
        have hb : ¬ C (a + k) = zc z k := by simpa using hb
        obtain ⟨c1, c2⟩ := hT.2.2.2 (a + k) (by omega)
        have hzk := zc_b z (by omega) k hk
        show fX4_isWord_28 (n + 1) 106 z (nI k) v = some (nI (if k < zl z then 0 else 1), v)
        rw [qX4_isWord_28, e_callX (by omega) (l_len (by omega) v), e_if, if_neg (by rw [le_i (by omega) (by omega)]; omega), xGR hT.1.k106 hT.1.p106, hT.gi k3, nI_add, xAIe hT.1.h3 (by omega) (by decide) c1, e_callX (by omega) (l_char (by omega) hk v), e_if, if_neg (by rw [xb_eq c2 hzk.2.1]; exact hb), if_pos hk]
        rfl
      · intro n k hk hb
        have hb : C (a + k) = zc z k := by simpa using hb
        obtain ⟨c1, c2⟩ := hT.2.2.2 (a + k) (by omega)
        have hzk := zc_b z (by omega) k hk
        show fX4_isWord_28 (n + 1) 106 z (nI k) v = fX4_isWord_28 n 106 z (nI (k + 1)) v
        rw [qX4_isWord_28, e_callX (by omega) (l_len (by omega) v), e_if, if_neg (by rw [le_i (by omega) (by omega)]; omega), xGR hT.1.k106 hT.1.p106, hT.gi k3, nI_add, xAIe hT.1.h3 (by omega) (by decide) c1, e_callX (by omega) (l_char (by omega) hk v), e_if, if_pos (by rw [xb_eq c2 hzk.2.1]; exact hb), nI_succ1]
      · intro n
        show fX4_isWord_28 (n + 1) 106 z (nI (zl z)) v = some (nI (if zl z < zl z then 0 else 1), v)
        rw [qX4_isWord_28, e_callX (by omega) (l_len (by omega) v), e_if, if_pos (by rw [le_i (by omega) (by omega)]; omega), if_neg (by omega)]
        rfl
    · rw [if_neg (by rw [eq_i (by omega) (by omega)]; exact h2), decide_eq_false h2]
      rfl
  · rw [if_neg (by rw [li_1, eq_i (by omega) (by omega)]; exact h1), decide_eq_false h1]
    rfl
theorem c_isSign (h : CG v C N a) {c : Nat} (hc : c < 128) : fX4_isSign 106 (nI c) v = some (nI (sq C N a c).toNat, v) := by
  obtain ⟨hT, ⟨k3, k2, k4, -, k5⟩, haN, -, -⟩ := h
  have hk5 := kd_5 C N a
  unfold fX4_isSign sq
  rw [hT.gi k2, e_if]
  by_cases h1 : kd C N a = 3
  · have hlt : a < N := by
      rcases Nat.lt_or_ge a N with h2 | h2
      · exact h2
      · unfold kd at h1
        rw [if_pos h2] at h1
        cases h1
    have hC := (hT.2.2.2 a hlt).2
    rw [if_pos (by rw [h1]; rfl), hT.gi (k5 h1), e_if, decide_eq_true h1]
    by_cases h2 : C a = c
    · rw [if_pos (by rw [h2]), decide_eq_true h2]
      rfl
    · rw [if_neg (by rw [eq_i (by omega) (by omega)]; exact h2), decide_eq_false h2]
      rfl
  · rw [if_neg (by rw [li_3, eq_i (by omega) (by omega)]; exact h1), decide_eq_false h1]
    rfl
theorem c_refuse (h : CG v C N a) {w : Nat} (hw1 : 1 ≤ w) (hw7 : w ≤ 7) : ∃ v', fX4_refuseToken 106 (nI w) v = some (nI 0, v') ∧ F6 j28 v v' ∧ CE v' (fk C N a w) a := by
  have ha9 := h.n9
  obtain ⟨hT, ⟨k3, k2, k4, -, -⟩, haN, -, -⟩ := h
  have hk5 := kd_5 C N a
  obtain ⟨f1, f2⟩ := fk_b (C := C) (N := N) (a := a) hw1 hw7
  refine ⟨wI (wI v 106 7 (nI (fk C N a w))) 106 8 (nI a), ?_, (F6.w _ ⟨by decide, by decide⟩).tr (F6.w _ ⟨by decide, by decide⟩), ?_, sI_wI_eq _ _ _ _, f1, f2, ha9⟩
  · have h14 : ∀ k : Nat, fX4_refuseToken_14 106 (nI k) 106 v = some (nI 0, wI (wI v 106 7 (nI k)) 106 8 (nI a)) := fun k => by
      have h2 : TC (wI v 106 7 (nI k)) C N := hT.w (by decide)
      unfold fX4_refuseToken_14
      rw [hT.pi, h2.gi (x := nI a) (by rw [sI_wI_ne (Or.inr (by decide))]; exact k3), h2.pi]
      rfl
    unfold fX4_refuseToken fk
    rw [hT.gi k2, e_if]
    by_cases h4 : kd C N a = 4
    · rw [if_pos (by rw [h4]; rfl), if_pos h4, li_1, h14]
    · rw [if_neg (by rw [li_4, eq_i (by omega) (by omega)]; exact h4), if_neg h4, h14]
  · rw [sI_wI_ne (Or.inr (by decide)), sI_wI_eq]
theorem c_adv (h : CG v C N a) : ∃ v', fX4_next 106 v = some ((), v') ∧ F6 j25 v v' ∧ CG v' C N (nx C N a) := by
  obtain ⟨hT, ⟨k3, k2, k4, -, -⟩, haN, f7, f8⟩ := h
  have hle := ed_le C haN
  obtain ⟨v', e1, e2, e3⟩ := c_next hT hle k4
  exact ⟨v', e1, e2, hT.f6 e2 (by decide), e3, nx_le C haN, by rw [e2.2 7 (by decide)]; exact f7, by rw [e2.2 8 (by decide)]; exact f8⟩
theorem c_takeWord (h : CG v C N a) {z : Nat} (hz : z < 34) : ∃ v', fX4_takeWord 106 z v = some (nI (iR (pW C N a z)), v') ∧ F6 j28 v v' ∧ cQ v' C N (pW C N a z) := by
  have hk := h.1.1.k106
  unfold fX4_takeWord pW
  rw [e_callV hk, x_call (c_isWord h hz), e_if]
  cases hw : wq C N a z with
  | true =>
    obtain ⟨v', e1, e2, e3⟩ := c_adv h
    refine ⟨v', ?_, e2.mo j25_28, e3⟩
    rw [if_neg (by decide), e_callV hk, x_call e1]
    rfl
  | false =>
    obtain ⟨v', e1, e2, e3⟩ := c_refuse h (w := 2) (by decide) (by decide)
    refine ⟨v', ?_, e2, e3⟩
    rw [if_pos (by decide), e_callV hk, li_2, x_call e1]
    rfl
theorem c_takeSign (h : CG v C N a) {c : Nat} (hc : c < 128) : ∃ v', fX4_takeSign 106 (nI c) v = some (nI (iR (pS C N a c)), v') ∧ F6 j28 v v' ∧ cQ v' C N (pS C N a c) := by
  have hk := h.1.1.k106
  unfold fX4_takeSign pS
  rw [e_callV hk, x_call (c_isSign h hc), e_if]
  cases hw : sq C N a c with
  | true =>
    obtain ⟨v', e1, e2, e3⟩ := c_adv h
    refine ⟨v', ?_, e2.mo j25_28, e3⟩
    rw [if_neg (by decide), e_callV hk, x_call e1]
    rfl
  | false =>
    obtain ⟨v', e1, e2, e3⟩ := c_refuse h (w := 2) (by decide) (by decide)
    refine ⟨v', ?_, e2, e3⟩
    rw [if_pos (by decide), e_callV hk, li_2, x_call e1]
    rfl
/-- the number taken -/
def tkn (v : mS) (x : PR Nat) : Prop := match x with
  | .inl _ => True
  | .inr y => sI v 106 6 = nI y.1
theorem c_takeNumber (h : CG v C N a) {lo hi : Nat} (hlo : lo < 1000) (hhi : hi < 1000) : ∃ v', fX4_takeNumber 106 (nI lo) (nI hi) v = some (nI (iR (pN C N lo hi a)), v') ∧ F6 j28 v v' ∧ cQ v' C N (pN C N lo hi a) ∧ tkn v' (pN C N lo hi a) := by
  have h0 := h
  obtain ⟨hT, ⟨k3, k2, k4, k5, -⟩, haN, f7, f8⟩ := h
  have hk := hT.1.k106
  have hk5 := kd_5 C N a
  have hle := ed_le C haN
  unfold fX4_takeNumber pN
  rw [hT.gi k2, e_if]
  by_cases h2 : kd C N a = 2
  · have hv := vN_b C N a h2
    have k5 : sI v 106 5 = nI (vN C N a) := k5 h2
    have h30 : ∃ v', fX4_takeNumber_30 106 v = some (nI 0, v') ∧ F6 j28 v v' ∧ CE v' 4 a := by
      obtain ⟨v', e1, e2, e3⟩ := c_refuse h0 (w := 4) (by decide) (by decide)
      refine ⟨v', ?_, e2, ?_⟩
      · unfold fX4_takeNumber_30
        rw [e_callV hk, li_4, x_call e1]
        rfl
      · unfold fk at e3
        rw [if_neg (by omega)] at e3
        exact e3
    rw [if_pos (by rw [h2]; rfl), hT.gi k5, e_if, if_pos h2]
    by_cases h3 : vN C N a < lo
    · obtain ⟨v', e1, e2, e3⟩ := h30
      refine ⟨v', ?_, e2, ?_, ?_⟩
      · rw [if_pos (by rw [lt_i (by omega) (by omega)]; exact h3), if_pos (Or.inl h3), e1]
        rfl
      · rw [if_pos (Or.inl h3)]; exact e3
      · rw [if_pos (Or.inl h3)]; trivial
    · rw [if_neg (by rw [lt_i (by omega) (by omega)]; exact h3), hT.gi k5, e_if]
      by_cases h4 : hi < vN C N a
      · obtain ⟨v', e1, e2, e3⟩ := h30
        refine ⟨v', ?_, e2, ?_, ?_⟩
        · rw [if_neg (by rw [le_i (by omega) (by omega)]; omega), if_pos (Or.inr h4), e1]
          rfl
        · rw [if_pos (Or.inr h4)]; exact e3
        · rw [if_pos (Or.inr h4)]; trivial
      · have hno : ¬ (vN C N a < lo ∨ hi < vN C N a) := by omega
        have hTw : TC (wI v 106 6 (nI (vN C N a))) C N := hT.w (by decide)
        have hGw : CG (wI v 106 6 (nI (vN C N a))) C N a := by
          obtain ⟨-, ⟨q3, q2, q4, q5, q6⟩, -, -, -⟩ := h0
          refine ⟨hTw, ⟨?_, ?_, ?_, fun hh => ?_, fun hh => ?_⟩, haN, ?_, ?_⟩
          · rw [sI_wI_ne (Or.inr (by decide))]; exact q3
          · rw [sI_wI_ne (Or.inr (by decide))]; exact q2
          · rw [sI_wI_ne (Or.inr (by decide))]; exact q4
          · rw [sI_wI_ne (Or.inr (by decide))]; exact q5 hh
          · rw [sI_wI_ne (Or.inr (by decide))]; exact q6 hh
          · rw [sI_wI_ne (Or.inr (by decide))]; exact f7
          · rw [sI_wI_ne (Or.inr (by decide))]; exact f8
        obtain ⟨v', e1, e2, e3⟩ := c_adv hGw
        refine ⟨v', ?_, (F6.w _ ⟨by decide, by decide⟩).tr (e2.mo j25_28), ?_, ?_⟩
        · rw [if_pos (by rw [le_i (by omega) (by omega)]; omega), hT.gi k5, hT.pi, e_callV hTw.1.k106, x_call e1, if_neg hno]
          rfl
        · rw [if_neg hno]; exact e3
        · rw [if_neg hno]
          show sI v' 106 6 = _
          rw [e2.2 6 (by decide), sI_wI_eq]
  · obtain ⟨v', e1, e2, e3⟩ := c_refuse h0 (w := 2) (by decide) (by decide)
    refine ⟨v', ?_, e2, ?_, ?_⟩
    · rw [if_neg (by rw [li_2, eq_i (by omega) (by omega)]; exact h2), e_callV hk, li_2, x_call e1, if_neg h2]
      rfl
    · rw [if_neg h2]; exact e3
    · rw [if_neg h2]; trivial
end CW2

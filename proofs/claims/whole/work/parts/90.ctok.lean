/-! THE CLASS'S TOKENS -/
/-- the tape below N stands for the codes C -/
def TC (v : mS) (C : Nat → Nat) (N : Nat) : Prop := CS v ∧ sI v 106 1 = nI N ∧ N ≤ 900 ∧ ∀ k, k < N → sI v 3 k = xb (C k) ∧ C k < 256
def CK (v : mS) (C : Nat → Nat) (N a : Nat) : Prop := sI v 106 3 = nI a ∧ sI v 106 2 = nI (kd C N a) ∧ sI v 106 4 = nI (ed C N a) ∧ (kd C N a = 2 → sI v 106 5 = nI (nv C a (ed C N a - a))) ∧ (kd C N a = 3 → sI v 106 5 = nI (C a))
/-- of the tokens' cell the places A were written -/
def F6 (A : Nat → Prop) (s v : mS) : Prop := FI (fun b => b = 106) s v ∧ ∀ j, ¬ A j → sI v 106 j = sI s 106 j
theorem F6.rf {A : Nat → Prop} {s : mS} : F6 A s s := ⟨FI.rf, fun _ _ => rfl⟩
theorem F6.tr {A : Nat → Prop} {s t u : mS} (h1 : F6 A s t) (h2 : F6 A t u) : F6 A s u := ⟨h1.1.tr h2.1, fun j hj => (h2.2 j hj).trans (h1.2 j hj)⟩
theorem F6.w {A : Nat → Prop} {s : mS} {j : Nat} (x : Int32) (hj : A j) : F6 A s (wI s 106 j x) := ⟨FI.w _ _ rfl, fun i hi => sI_wI_ne (Or.inr (fun e => hi (e ▸ hj)))⟩
theorem F6.mo {A B : Nat → Prop} {s t : mS} (h : F6 A s t) (hAB : ∀ j, A j → B j) : F6 B s t := ⟨h.1, fun j hj => h.2 j (fun ha => hj (hAB j ha))⟩
abbrev j25 : Nat → Prop := fun j => 2 ≤ j ∧ j ≤ 5
section CTOK
variable {s : mS} {C : Nat → Nat} {N : Nat} {α : Type}
theorem CS.k106 (h : CS s) : (sH s 106).1 = 4 := h.2.2.2.2.1.1
theorem CS.p106 (h : CS s) : sP s 106 0 = 3 := h.2.2.2.2.1.2
theorem CS.h3 (h : CS s) : sH s 3 = (10, 900) := h.2.1.2.1
theorem TC.f6 {A : Nat → Prop} {v : mS} (h : TC s C N) (hF : F6 A s v) (hA : ¬ A 1) : TC v C N := ⟨h.1.fi hF.1, by rw [hF.2 1 hA]; exact h.2.1, h.2.2.1, fun k hk => by rw [hF.1.1 3 (by decide)]; exact h.2.2.2 k hk⟩
theorem TC.at (h : TC s C N) {a : Nat} (ha : a < N) {f : Int32 → mM α} : bGR 4 106 0 (fun x => bAI 10 x (nI a) f) s = f (xb (C a)) s := by
  have := h.2.2.1
  rw [xGR h.1.k106 h.1.p106, xAIe h.1.h3 (by omega) (by decide) (h.2.2.2 a ha).1]
theorem TC.gi (h : TC s C N) {j : Nat} {f : Int32 → mM α} {x : Int32} (hx : sI s 106 j = x) : bGI 4 106 j f s = f x s := xGIe h.1.k106 hx
theorem TC.pi (h : TC s C N) {j : Nat} {x : Int32} {m : mM α} : bPI 4 106 j x m s = m (wI s 106 j x) := xPI h.1.k106
theorem TC.w (h : TC s C N) {j : Nat} {x : Int32} (hj : j ≠ 1) : TC (wI s 106 j x) C N := h.f6 (F6.w (A := fun i => i = j) x rfl) (fun e => hj e.symm)
/-- small letter -/
theorem kle_i {c : Nat} (hc : c < 256) : kle c = true ↔ ¬ (xb c < nI 97) ∧ ¬ (nI 122 < xb c) := by
  rw [xb_lt hc (by decide), xb_gt hc (by decide)]
  unfold kle
  simp
  omega
theorem kdg_i {c : Nat} (hc : c < 256) : kdg c = true ↔ ¬ (xb c < nI 48) ∧ ¬ (nI 57 < xb c) := by
  rw [xb_lt hc (by decide), xb_gt hc (by decide)]
  unfold kdg
  simp
  omega
theorem e_le {c : Nat} (hc : c < 256) (X Y : mM α) (w : mS) : bIf (xb c < (97 : Int32)) X (bIf ((122 : Int32) < xb c) X Y) w = if kle c then Y w else X w := by
  rw [e_if, e_if, li_97, li_122]
  by_cases h1 : xb c < nI 97
  · rw [if_pos h1, if_neg (fun h => ((kle_i hc).mp h).1 h1)]
  · rw [if_neg h1]
    by_cases h2 : nI 122 < xb c
    · rw [if_pos h2, if_neg (fun h => ((kle_i hc).mp h).2 h2)]
    · rw [if_neg h2, if_pos ((kle_i hc).mpr ⟨h1, h2⟩)]
theorem c_word (h : TC s C N) {a : Nat} (ha : a ≤ N) : fX4_next_94 fu 106 (nI a) s = some ((), wI s 106 4 (nI (ew C N a))) := by
  have h9 := h.2.2.1
  unfold ew
  refine loop_x (fun n k => fX4_next_94 n 106 (nI (a + k)) s) (fun j => !kle (C (a + j))) (fun k => some ((), wI s 106 4 (nI (a + k)))) (N - a) ?_ ?_ ?_ fu (by unfold fu; omega)
  · intro n k hk hb
    have hb : kle (C (a + k)) = false := by simpa using hb
    have hc := (h.2.2.2 (a + k) (by omega)).2
    show fX4_next_94 (n + 1) 106 (nI (a + k)) s = _
    rw [qX4_next_94, h.gi h.2.1, e_if, if_neg (by rw [le_i (by omega) (by omega)]; omega), h.at (by omega), e_if]
    by_cases h1 : xb (C (a + k)) < nI 97
    · rw [if_pos (by rw [li_97]; exact h1), h.pi]; rfl
    · rw [if_neg (by rw [li_97]; exact h1), h.at (by omega), e_if, if_pos, h.pi]
      · rfl
      · rw [li_122]
        rcases Classical.em (nI 122 < xb (C (a + k))) with h2 | h2
        · exact h2
        · rw [(kle_i hc).mpr ⟨h1, h2⟩] at hb; cases hb
  · intro n k hk hb
    have hb : kle (C (a + k)) = true := by simpa using hb
    have hc := (h.2.2.2 (a + k) (by omega)).2
    obtain ⟨h1, h2⟩ := (kle_i hc).mp hb
    show fX4_next_94 (n + 1) 106 (nI (a + k)) s = fX4_next_94 n 106 (nI (a + (k + 1))) s
    rw [qX4_next_94, h.gi h.2.1, e_if, if_neg (by rw [le_i (by omega) (by omega)]; omega), h.at (by omega), e_if, if_neg (by rw [li_97]; exact h1), h.at (by omega), e_if, if_neg (by rw [li_122]; exact h2), nI_succ1]
    rfl
  · intro n
    show fX4_next_94 (n + 1) 106 (nI (a + (N - a))) s = _
    rw [qX4_next_94, h.gi h.2.1, e_if, if_pos (by rw [le_i (by omega) (by omega)]; omega), h.pi]
    rfl
theorem c_num {a : Nat} (ha : a < N) (h : TC s C N) (h5 : sI s 106 5 = nI 0) (h3 : sI s 106 3 = nI a) : ∃ v, fX4_next_152 fu 106 (nI a) s = some ((), v) ∧ F6 j25 s v ∧ sI v 106 3 = nI a ∧ sI v 106 2 = nI (if eg C N a - a ≤ 4 then 2 else 4) ∧ sI v 106 4 = nI (eg C N a) ∧ sI v 106 5 = nI (nv C a (eg C N a - a)) := by
  have h9 := h.2.2.1
  have key := loop_sx (fun n k => fX4_next_152 n 106 (nI (a + k))) (fun j => !kdg (C (a + j))) (fun k v => F6 (fun j => j = 5) s v ∧ sI v 106 5 = nI (nv C a k) ∧ ∀ i, i < k → kdg (C (a + i)) = true) (N - a) (fun k => fX4_next_226 106 (nI (a + k))) ?_ ?_ ?_ fu s (by unfold fu; omega) ⟨F6.rf, h5, fun i hi => by omega⟩
  · obtain ⟨v, e1, e2, e3⟩ := key
    have hv := h.f6 e2 (by decide)
    have hee : a + fs (fun j => !kdg (C (a + j))) (N - a) = eg C N a := rfl
    have hle := eg_le C (N := N) (a := a) (by omega)
    have hge : a ≤ eg C N a := Nat.le_add_right _ _
    have e1 : fX4_next_152 fu 106 (nI a) s = fX4_next_226 106 (nI (eg C N a)) v := e1
    have h3v : sI v 106 3 = nI a := by rw [e2.2 3 (by decide)]; exact h3
    have h26 : fX4_next_226 106 (nI (eg C N a)) v = some ((), wI (wI v 106 2 (nI (if eg C N a - a ≤ 4 then 2 else 4))) 106 4 (nI (eg C N a))) := by
      unfold fX4_next_226 fX4_next_242
      rw [hv.gi h3v, sub_i hge, e_if]
      by_cases h4 : eg C N a - a ≤ 4
      · rw [if_pos (by rw [li_4, le_i (by omega) (by omega)]; exact h4), if_pos h4, hv.pi, li_2]
        rw [(hv.w (by decide)).pi]
        rfl
      · rw [if_neg (by rw [li_4, le_i (by omega) (by omega)]; exact h4), if_neg h4, hv.pi, li_4]
        rw [(hv.w (by decide)).pi]
        rfl
    refine ⟨_, e1.trans h26, ((e2.mo (fun j hj => by subst hj; exact ⟨by decide, by decide⟩)).tr (F6.w _ ⟨by decide, by decide⟩)).tr (F6.w _ ⟨by decide, by decide⟩), ?_, ?_, ?_, ?_⟩
    · rw [sI_wI_ne (Or.inr (by decide)), sI_wI_ne (Or.inr (by decide))]; exact h3v
    · rw [sI_wI_ne (Or.inr (by decide)), sI_wI_eq]
    · rw [sI_wI_eq]
    · rw [sI_wI_ne (Or.inr (by decide)), sI_wI_ne (Or.inr (by decide)), e3.1]
      rw [show eg C N a - a = fs (fun j => !kdg (C (a + j))) (N - a) by unfold eg; omega]
  · rintro n k v hk hb ⟨hF, hw, hall⟩
    have hv := h.f6 hF (by decide)
    have hb : kdg (C (a + k)) = false := by simpa using hb
    have hc := (h.2.2.2 (a + k) (by omega)).2
    show fX4_next_152 (n + 1) 106 (nI (a + k)) v = _
    rw [qX4_next_152, hv.gi hv.2.1, e_if, if_neg (by rw [le_i (by omega) (by omega)]; omega), hv.at (by omega), e_if]
    by_cases h1 : xb (C (a + k)) < nI 48
    · rw [if_pos (by rw [li_48]; exact h1)]
    · rw [if_neg (by rw [li_48]; exact h1), hv.at (by omega), e_if, if_pos]
      rw [li_57]
      rcases Classical.em (nI 57 < xb (C (a + k))) with h2 | h2
      · exact h2
      · rw [(kdg_i hc).mpr ⟨h1, h2⟩] at hb; cases hb
  · rintro n k v hk hb ⟨hF, hw, hall⟩
    have hv := h.f6 hF (by decide)
    have hb : kdg (C (a + k)) = true := by simpa using hb
    have hc := (h.2.2.2 (a + k) (by omega)).2
    obtain ⟨h1, h2⟩ := (kdg_i hc).mp hb
    have hd2 : 48 ≤ C (a + k) ∧ C (a + k) ≤ 57 := by
      unfold kdg at hb
      simpa using hb
    have hnb := nv_b C a k hall
    have hp := p10_4 k
    have h3v : sI v 106 3 = nI a := by rw [hF.2 3 (by decide)]; exact h3
    have hstep : fX4_next_152 (n + 1) 106 (nI (a + k)) v = fX4_next_152 n 106 (nI (a + (k + 1))) (wI v 106 5 (nI (nv C a (k + 1)))) := by
      rw [qX4_next_152, hv.gi hv.2.1, e_if, if_neg (by rw [le_i (by omega) (by omega)]; omega), hv.at (by omega), e_if, if_neg (by rw [li_48]; exact h1), hv.at (by omega), e_if, if_neg (by rw [li_57]; exact h2), hv.gi h3v, sub_i (by omega), e_if, nv_s]
      unfold fX4_next_217
      by_cases h4 : k < 4
      · rw [if_neg (by rw [li_4, le_i (by omega) (by omega)]; omega), hv.gi hw, hv.at (by omega), if_pos h4, xb_n _ (by omega), li_10, nI_mul, nI_add, li_48, sub_i (by omega), hv.pi, nI_succ1]
        rfl
      · rw [if_pos (by rw [li_4, le_i (by omega) (by omega)]; omega), hv.gi hw, if_neg h4, hv.pi, nI_succ1]
        rfl
    refine ⟨wI v 106 5 (nI (nv C a (k + 1))), ⟨hF.tr (F6.w _ rfl), sI_wI_eq _ _ _ _, fun i hi => ?_⟩, hstep⟩
    by_cases hik : i = k
    · rw [hik]; exact hb
    · exact hall i (by omega)
  · rintro n v ⟨hF, hw, hall⟩
    have hv := h.f6 hF (by decide)
    show fX4_next_152 (n + 1) 106 (nI (a + (N - a))) v = _
    rw [qX4_next_152, hv.gi hv.2.1, e_if, if_pos (by rw [le_i (by omega) (by omega)]; omega)]
theorem c_sgn {a : Nat} (ha : a < N) (h : TC s C N) (h3 : sI s 106 3 = nI a) : ∃ v, fX4_next_248 106 (nI a) s = some ((), v) ∧ F6 j25 s v ∧ sI v 106 3 = nI a ∧ sI v 106 2 = nI (if ksg (C a) then 3 else 4) ∧ sI v 106 4 = nI (a + 1) ∧ (ksg (C a) = true → sI v 106 5 = nI (C a)) := by
  have h9 := h.2.2.1
  have hc := (h.2.2.2 a ha).2
  have hv : TC (wI s 106 5 (xb (C a))) C N := h.w (by decide)
  have h5 : sI (wI s 106 5 (xb (C a))) 106 5 = xb (C a) := sI_wI_eq _ _ _ _
  have hfin : ∀ (q : Nat), fX4_next_284 106 (nI a) (nI q) 106 (wI s 106 5 (xb (C a))) = some ((), wI (wI (wI s 106 5 (xb (C a))) 106 2 (nI q)) 106 4 (nI (a + 1))) := fun q => by
    unfold fX4_next_284
    rw [hv.pi, (hv.w (by decide)).pi, nI_succ1]
    rfl
  have hfr : ∀ q : Nat, F6 j25 s (wI (wI (wI s 106 5 (xb (C a))) 106 2 (nI q)) 106 4 (nI (a + 1))) ∧ sI (wI (wI (wI s 106 5 (xb (C a))) 106 2 (nI q)) 106 4 (nI (a + 1))) 106 3 = nI a ∧ sI (wI (wI (wI s 106 5 (xb (C a))) 106 2 (nI q)) 106 4 (nI (a + 1))) 106 2 = nI q ∧ sI (wI (wI (wI s 106 5 (xb (C a))) 106 2 (nI q)) 106 4 (nI (a + 1))) 106 4 = nI (a + 1) ∧ sI (wI (wI (wI s 106 5 (xb (C a))) 106 2 (nI q)) 106 4 (nI (a + 1))) 106 5 = xb (C a) := fun q => by
    refine ⟨((F6.w _ ⟨by decide, by decide⟩).tr (F6.w _ ⟨by decide, by decide⟩)).tr (F6.w _ ⟨by decide, by decide⟩), ?_, ?_, sI_wI_eq _ _ _ _, ?_⟩
    · rw [sI_wI_ne (Or.inr (by decide)), sI_wI_ne (Or.inr (by decide)), sI_wI_ne (Or.inr (by decide))]; exact h3
    · rw [sI_wI_ne (Or.inr (by decide)), sI_wI_eq]
    · rw [sI_wI_ne (Or.inr (by decide)), sI_wI_ne (Or.inr (by decide)), sI_wI_eq]
  have hbeg : fX4_next_248 106 (nI a) s = bIf (xb (C a) ≤ 0) (fX4_next_283 106 (nI a) 106) (bGI 4 106 5 (fun x4 => bCallX 18 (fJ0_indexOf_0f7a4 18 (((Int32.toUInt32 x4) % 65536).toInt32)) (fun x5 => bIf (x5 < 0) (fX4_next_283 106 (nI a) 106) (fX4_next_284 106 (nI a) (3 : Int32) 106)))) (wI s 106 5 (xb (C a))) := by
    unfold fX4_next_248
    rw [h.at ha, h.pi, hv.gi h5]
  have h283 : fX4_next_283 106 (nI a) 106 (wI s 106 5 (xb (C a))) = fX4_next_284 106 (nI a) (nI 4) 106 (wI s 106 5 (xb (C a))) := rfl
  by_cases hz : C a = 0 ∨ 128 ≤ C a
  · have hk : ksg (C a) = false := by
      cases hk : ksg (C a) with
      | false => rfl
      | true =>
        obtain ⟨r, hr, hp⟩ := ex_t hk
        have hp : zc 18 r = C a := by simpa using hp
        have := zc_b 18 (by decide) r (by rw [zl_18]; exact hr)
        omega
    obtain ⟨g1, g2, g3, g4, g5⟩ := hfr 4
    refine ⟨_, ?_, g1, g2, by rw [hk]; exact g3, g4, fun hh => by rw [hk] at hh; cases hh⟩
    rw [hbeg, e_if, if_pos, h283, hfin]
    have h1 : xb (C a) < nI 1 := by
      rw [xb_lt hc (by decide)]
      omega
    rw [Int32.lt_iff_toInt_lt] at h1
    rw [Int32.le_iff_toInt_le]
    have e0 : (0 : Int32).toInt = 0 := by decide
    have e1 : (nI 1).toInt = 1 := by decide
    omega
  · obtain ⟨x, x1, x2⟩ := l_sign (show C a < 128 by omega) (wI s 106 5 (xb (C a)))
    have hpos : ¬ xb (C a) ≤ 0 := by
      rw [xb_n _ (by omega), li_0, le_i (by omega) (by omega)]
      omega
    have hmid : fX4_next_248 106 (nI a) s = bIf (x < 0) (fX4_next_283 106 (nI a) 106) (fX4_next_284 106 (nI a) (3 : Int32) 106) (wI s 106 5 (xb (C a))) := by
      rw [hbeg, e_if, if_neg hpos, hv.gi h5, xb_ch _ (by omega), e_callX (by decide) x1]
    cases hk : ksg (C a) with
    | false =>
      obtain ⟨g1, g2, g3, g4, g5⟩ := hfr 4
      refine ⟨_, ?_, g1, g2, g3, g4, fun hh => by cases hh⟩
      rw [hmid, e_if, if_pos (x2.mpr hk), h283, hfin]
    | true =>
      obtain ⟨g1, g2, g3, g4, g5⟩ := hfr 3
      refine ⟨_, ?_, g1, g2, g3, g4, fun _ => by rw [g5, xb_n _ (by omega)]⟩
      rw [hmid, e_if, if_neg (fun hh => by rw [x2.mp hh] at hk; cases hk), li_3, hfin]
theorem c_tok (h : TC s C N) {a : Nat} (ha : a ≤ N) : ∃ v, fX4_next_41 106 (nI a) s = some ((), v) ∧ F6 j25 s v ∧ CK v C N a := by
  have h9 := h.2.2.1
  have h1 : TC (wI s 106 3 (nI a)) C N := h.w (by decide)
  have h2 : TC (wI (wI s 106 3 (nI a)) 106 5 (nI 0)) C N := h1.w (by decide)
  obtain ⟨s2, hs2⟩ : ∃ s2, s2 = wI (wI s 106 3 (nI a)) 106 5 (nI 0) := ⟨_, rfl⟩
  have hF2 : F6 j25 s s2 := by rw [hs2]; exact (F6.w _ ⟨by decide, by decide⟩).tr (F6.w _ ⟨by decide, by decide⟩)
  have h33 : sI s2 106 3 = nI a := by rw [hs2, sI_wI_ne (Or.inr (by decide)), sI_wI_eq]
  have h55 : sI s2 106 5 = nI 0 := by rw [hs2, sI_wI_eq]
  rw [← hs2] at h2
  have hbeg : fX4_next_41 106 (nI a) s = bIf (nI a < nI N) (bGR 4 106 0 (fun x2 => bAI 10 x2 (nI a) (fun x3 => bIf (x3 < (97 : Int32)) (fX4_next_130 106 (nI a)) (bGR 4 106 0 (fun x4 => bAI 10 x4 (nI a) (fun x5 => bIf ((122 : Int32) < x5) (fX4_next_130 106 (nI a)) (bPI 4 106 2 (1 : Int32) (fX4_next_94 fu 106 (nI a))))))))) (bPI 4 106 2 (0 : Int32) (bPI 4 106 4 (nI a) (bRet ()))) s2 := by
    unfold fX4_next_41
    rw [h.pi, h1.pi, li_0, ← hs2, h2.gi h2.2.1]
  rw [hbeg, e_if]
  by_cases hlt : a < N
  · have hc := (h2.2.2.2 a hlt).2
    rw [if_pos (by rw [lt_i (by omega) (by omega)]; exact hlt), h2.at hlt, e_if]
    have h130 : kle (C a) = false → ∃ v, fX4_next_130 106 (nI a) s2 = some ((), v) ∧ F6 j25 s2 v ∧ CK v C N a := fun hl => by
      unfold fX4_next_130
      rw [h2.at hlt, e_if]
      have hsg : kdg (C a) = false → ∃ v, fX4_next_248 106 (nI a) s2 = some ((), v) ∧ F6 j25 s2 v ∧ CK v C N a := fun hd => by
        obtain ⟨v, k1, k2, k3, k4, k5, k6⟩ := c_sgn hlt h2 h33
        have ekd : kd C N a = if ksg (C a) then 3 else 4 := by
          unfold kd
          rw [if_neg (by omega), hl, hd]
          rfl
        have eed : ed C N a = a + 1 := by
          unfold ed
          rw [if_neg (by omega), hl, hd]
          rfl
        refine ⟨v, k1, k2, k3, by rw [ekd]; exact k4, by rw [eed]; exact k5, fun hh => ?_, fun hh => ?_⟩
        · rw [ekd] at hh
          split at hh <;> cases hh
        · rw [ekd] at hh
          cases hk : ksg (C a) with
          | true => exact k6 hk
          | false => rw [hk] at hh; cases hh
      by_cases q1 : xb (C a) < nI 48
      · rw [if_pos (by rw [li_48]; exact q1)]
        refine hsg ?_
        cases hd : kdg (C a) with
        | false => rfl
        | true => exact absurd q1 ((kdg_i hc).mp hd).1
      · rw [if_neg (by rw [li_48]; exact q1), h2.at hlt, e_if]
        by_cases q2 : nI 57 < xb (C a)
        · rw [if_pos (by rw [li_57]; exact q2)]
          refine hsg ?_
          cases hd : kdg (C a) with
          | false => rfl
          | true => exact absurd q2 ((kdg_i hc).mp hd).2
        · rw [if_neg (by rw [li_57]; exact q2)]
          have hd : kdg (C a) = true := (kdg_i hc).mpr ⟨q1, q2⟩
          obtain ⟨v, k1, k2, k3, k4, k5, k6⟩ := c_num hlt h2 h55 h33
          have ekd : kd C N a = if eg C N a - a ≤ 4 then 2 else 4 := by
            unfold kd
            rw [if_neg (by omega), hl, hd]
            rfl
          have eed : ed C N a = eg C N a := by
            unfold ed
            rw [if_neg (by omega), hl, hd]
            rfl
          refine ⟨v, k1, k2, k3, by rw [ekd]; exact k4, by rw [eed]; exact k5, fun hh => by rw [eed]; exact k6, fun hh => ?_⟩
          rw [ekd] at hh
          split at hh <;> cases hh
    by_cases q1 : xb (C a) < nI 97
    · rw [if_pos (by rw [li_97]; exact q1)]
      have hl : kle (C a) = false := by
        cases hl : kle (C a) with
        | false => rfl
        | true => exact absurd q1 ((kle_i hc).mp hl).1
      obtain ⟨v, k1, k2, k3⟩ := h130 hl
      exact ⟨v, k1, hF2.tr k2, k3⟩
    · rw [if_neg (by rw [li_97]; exact q1), h2.at hlt, e_if]
      by_cases q2 : nI 122 < xb (C a)
      · rw [if_pos (by rw [li_122]; exact q2)]
        have hl : kle (C a) = false := by
          cases hl : kle (C a) with
          | false => rfl
          | true => exact absurd q2 ((kle_i hc).mp hl).2
        obtain ⟨v, k1, k2, k3⟩ := h130 hl
        exact ⟨v, k1, hF2.tr k2, k3⟩
      · rw [if_neg (by rw [li_122]; exact q2), h2.pi, li_1]
        have hl : kle (C a) = true := (kle_i hc).mpr ⟨q1, q2⟩
        have h4 : TC (wI s2 106 2 (nI 1)) C N := h2.w (by decide)
        have ekd : kd C N a = 1 := by
          unfold kd
          rw [if_neg (by omega), hl, if_pos rfl]
        have eed : ed C N a = ew C N a := by
          unfold ed
          rw [if_neg (by omega), hl, if_pos rfl]
        refine ⟨_, c_word h4 ha, (hF2.tr (F6.w _ ⟨by decide, by decide⟩)).tr (F6.w _ ⟨by decide, by decide⟩), ?_, ?_, ?_, fun hh => ?_, fun hh => ?_⟩
        · rw [sI_wI_ne (Or.inr (by decide)), sI_wI_ne (Or.inr (by decide))]; exact h33
        · rw [sI_wI_ne (Or.inr (by decide)), sI_wI_eq, ekd]
        · rw [sI_wI_eq, eed]
        · rw [ekd] at hh; cases hh
        · rw [ekd] at hh; cases hh
  · rw [if_neg (by rw [lt_i (by omega) (by omega)]; exact hlt), h2.pi, (h2.w (by decide)).pi]
    have ekd : kd C N a = 0 := by
      unfold kd
      rw [if_pos (by omega)]
    have eed : ed C N a = a := by
      unfold ed
      rw [if_pos (by omega)]
    refine ⟨_, rfl, (hF2.tr (F6.w _ ⟨by decide, by decide⟩)).tr (F6.w _ ⟨by decide, by decide⟩), ?_, ?_, ?_, fun hh => ?_, fun hh => ?_⟩
    · rw [sI_wI_ne (Or.inr (by decide)), sI_wI_ne (Or.inr (by decide))]; exact h33
    · rw [sI_wI_ne (Or.inr (by decide)), sI_wI_eq, ekd]; rfl
    · rw [sI_wI_eq, eed]
    · rw [ekd] at hh; cases hh
    · rw [ekd] at hh; cases hh
theorem c_next (h : TC s C N) {p : Nat} (hp : p ≤ N) (h4 : sI s 106 4 = nI p) : ∃ v, fX4_next 106 s = some ((), v) ∧ F6 j25 s v ∧ CK v C N (sk C N p) := by
  have h9 := h.2.2.1
  have hsk := sk_le C hp
  obtain ⟨v, e1, e2, e3⟩ := c_tok h hsk
  refine ⟨v, ?_, e2, e3⟩
  unfold fX4_next
  rw [h.gi h4]
  rw [← e1]
  unfold sk
  refine loop_x (fun n k => fX4_next_5 n 106 (nI (p + k)) s) (fun j => !kbl (C (p + j))) (fun k => fX4_next_41 106 (nI (p + k)) s) (N - p) ?_ ?_ ?_ fu (by unfold fu; omega)
  · intro n k hk hb
    have hb : ¬ C (p + k) = 32 ∧ ¬ C (p + k) = 10 := by
      unfold kbl at hb
      simpa using hb
    have hc := (h.2.2.2 (p + k) (by omega)).2
    show fX4_next_5 (n + 1) 106 (nI (p + k)) s = _
    rw [qX4_next_5, h.gi h.2.1, e_if, if_neg (by rw [le_i (by omega) (by omega)]; omega), h.at (by omega), e_if, if_neg (by rw [li_32, xb_eq hc (by decide)]; exact hb.1), h.at (by omega), e_if, if_neg (by rw [li_10, xb_eq hc (by decide)]; exact hb.2)]
  · intro n k hk hb
    have hb : C (p + k) = 32 ∨ C (p + k) = 10 := by
      unfold kbl at hb
      have hb' : ¬ C (p + k) = 32 → C (p + k) = 10 := by simpa using hb
      omega
    have hc := (h.2.2.2 (p + k) (by omega)).2
    show fX4_next_5 (n + 1) 106 (nI (p + k)) s = fX4_next_5 n 106 (nI (p + (k + 1))) s
    rw [qX4_next_5, h.gi h.2.1, e_if, if_neg (by rw [le_i (by omega) (by omega)]; omega), h.at (by omega), e_if]
    by_cases h32 : C (p + k) = 32
    · rw [if_pos (by rw [li_32, xb_eq hc (by decide)]; exact h32), nI_succ1]
      rfl
    · rw [if_neg (by rw [li_32, xb_eq hc (by decide)]; exact h32), h.at (by omega), e_if, if_pos (by rw [li_10, xb_eq hc (by decide)]; omega), nI_succ1]
      rfl
  · intro n
    show fX4_next_5 (n + 1) 106 (nI (p + (N - p))) s = _
    rw [qX4_next_5, h.gi h.2.1, e_if, if_pos (by rw [le_i (by omega) (by omega)]; omega)]
end CTOK

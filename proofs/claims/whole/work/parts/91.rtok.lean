/-! THE REFERENCE'S TOKENS -/
def TR (t : mS) (C : Nat → Nat) (N : Nat) : Prop := RT t ∧ sI t 113 9 = nI N ∧ N ≤ 900 ∧ ∀ k, k < N → sI t 117 k = xb (C k) ∧ C k < 256
def wd (C : Nat → Nat) (a k : Nat) : Nat := it (fun i w => w * 32 + C (a + i) - 96) 0 k
theorem wd_s (C : Nat → Nat) (a k : Nat) : wd C a (k + 1) = wd C a k * 32 + C (a + k) - 96 := rfl
def wdL (C : Nat → Nat) (a k : Nat) : Int64 := if k ≤ 8 then lN (wd C a k) else mL
theorem wd_b (C : Nat → Nat) (a : Nat) : ∀ k, (∀ i, i < k → kle (C (a + i)) = true) → wd C a k < 32 ^ k
  | 0, _ => (by decide : 0 < 32 ^ 0)
  | k + 1, h => by
    have ih := wd_b C a k (fun i hi => h i (by omega))
    have hd := h k (by omega)
    have hd2 : 97 ≤ C (a + k) ∧ C (a + k) ≤ 122 := by
      unfold kle at hd
      simpa using hd
    rw [wd_s, Nat.pow_succ]
    omega
theorem p32_8 {k : Nat} (h : k ≤ 8) : (32 : Nat) ^ k ≤ 1099511627776 := Nat.le_trans (Nat.pow_le_pow_right (show 32 > 0 by decide) h) (by decide)
def RK (t : mS) (C : Nat → Nat) (N a : Nat) : Prop := sI t 113 15 = nI a ∧ sI t 113 14 = nI (kd C N a) ∧ sI t 113 16 = nI (ed C N a) ∧ (kd C N a = 2 → sI t 113 17 = nI (nv C a (ed C N a - a))) ∧ (kd C N a = 3 → sI t 113 17 = nI (C a)) ∧ (kd C N a = 1 → sI t 113 18 = nI (ed C N a - a) ∧ sL t 113 22 = wdL C a (ed C N a - a))
/-- of the reference's cell places of the tokens were written, places A, longs B -/
def F9 (A B : Nat → Prop) (t v : mS) : Prop := (∀ b, b ≠ 113 → sI v b = sI t b ∧ sL v b = sL t b) ∧ sP v = sP t ∧ sH v = sH t ∧ sZ v = sZ t ∧ sW v = sW t ∧ (∀ j, ¬ A j → sI v 113 j = sI t 113 j) ∧ ∀ j, ¬ B j → sL v 113 j = sL t 113 j
theorem F9.rf {A B : Nat → Prop} {t : mS} : F9 A B t t := ⟨fun _ _ => ⟨rfl, rfl⟩, rfl, rfl, rfl, rfl, fun _ _ => rfl, fun _ _ => rfl⟩
theorem F9.tr {A B : Nat → Prop} {t u v : mS} (h1 : F9 A B t u) (h2 : F9 A B u v) : F9 A B t v := by
  obtain ⟨a1, a2, a3, a4, a5, a6, a7⟩ := h1
  obtain ⟨b1, b2, b3, b4, b5, b6, b7⟩ := h2
  exact ⟨fun b hb => ⟨(b1 b hb).1.trans (a1 b hb).1, (b1 b hb).2.trans (a1 b hb).2⟩, b2.trans a2, b3.trans a3, b4.trans a4, b5.trans a5, fun j hj => (b6 j hj).trans (a6 j hj), fun j hj => (b7 j hj).trans (a7 j hj)⟩
theorem F9.mo {A B A' B' : Nat → Prop} {t v : mS} (h : F9 A B t v) (hA : ∀ j, A j → A' j) (hB : ∀ j, B j → B' j) : F9 A' B' t v := ⟨h.1, h.2.1, h.2.2.1, h.2.2.2.1, h.2.2.2.2.1, fun j hj => h.2.2.2.2.2.1 j (fun ha => hj (hA j ha)), fun j hj => h.2.2.2.2.2.2 j (fun hb => hj (hB j hb))⟩
theorem F9.w {A B : Nat → Prop} {t : mS} {j : Nat} (x : Int32) (hj : A j) : F9 A B t (wI t 113 j x) := ⟨fun b hb => ⟨by funext i; exact sI_wI_ne (Or.inl hb), rfl⟩, rfl, rfl, rfl, rfl, fun i hi => sI_wI_ne (Or.inr (fun e => hi (e ▸ hj))), fun _ _ => rfl⟩
theorem F9.l {A B : Nat → Prop} {t : mS} {j : Nat} (x : Int64) (hj : B j) : F9 A B t (wL t 113 j x) := ⟨fun b hb => ⟨rfl, by funext i; exact sL_ne (Or.inl hb)⟩, rfl, rfl, rfl, rfl, fun _ _ => rfl, fun i hi => sL_ne (Or.inr (fun e => hi (e ▸ hj)))⟩
abbrev i14 : Nat → Prop := fun j => 14 ≤ j ∧ j ≤ 18
abbrev l22 : Nat → Prop := fun j => j = 22
theorem F9.I {A B : Nat → Prop} {t v : mS} (h : F9 A B t v) {j : Nat} (hj : ¬ A j) : sI v 113 j = sI t 113 j := h.2.2.2.2.2.1 j hj
theorem F9.L {A B : Nat → Prop} {t v : mS} (h : F9 A B t v) {j : Nat} (hj : ¬ B j) : sL v 113 j = sL t 113 j := h.2.2.2.2.2.2 j hj
theorem RT.f9 {A B : Nat → Prop} {t v : mS} (h : RT t) (hF : F9 A B t v) : RT v := by
  unfold RT
  rw [hF.2.1, hF.2.2.1]
  exact h
section RTOK
variable {t : mS} {C : Nat → Nat} {N : Nat} {α : Type}
theorem TR.f9 {A B : Nat → Prop} {v : mS} (h : TR t C N) (hF : F9 A B t v) (hA : ¬ A 9) : TR v C N := ⟨h.1.f9 hF, by rw [hF.I hA]; exact h.2.1, h.2.2.1, fun k hk => by rw [(hF.1 117 (by decide)).1]; exact h.2.2.2 k hk⟩
theorem TR.gi (h : TR t C N) {j : Nat} {f : Int32 → mM α} {x : Int32} (hx : sI t 113 j = x) : bGI 9 113 j f t = f x t := xGIe h.1.k hx
theorem TR.pi (h : TR t C N) {j : Nat} {x : Int32} {m : mM α} : bPI 9 113 j x m t = m (wI t 113 j x) := xPI h.1.k
theorem TR.cv (h : TR t C N) {β : Type} {F : mM β} {k : β → mM α} : bCallV 9 113 F k t = bCall F k t := e_callV h.1.k
theorem x_look (h : TR t C N) {p : Nat} (hp : p < 2147483648) : fX9_look2 113 (nI p) t = some (nI (if p < N then C p else 0), t) := by
  have h9 := h.2.2.1
  unfold fX9_look2
  rw [h.gi h.2.1, e_if]
  by_cases hlt : p < N
  · obtain ⟨h1, h2⟩ := h.2.2.2 p hlt
    rw [if_neg (by rw [le_i (by omega) (by omega)]; omega), xGR h.1.k h.1.2.2.2.2.1, xAIe h.1.2.2.2.2.2.2.2.2.2.2.2.2.2.2.2.1 (by omega) (by decide) h1, if_pos hlt]
    rw [xb_and' _ h2]
    rfl
  · rw [if_pos (by rw [le_i (by omega) (by omega)]; omega), if_neg hlt]
    rfl
theorem x_isLetter {c : Nat} (hc : c < 256) : fX9_isLetter (nI c) t = some (nI (kle c).toNat, t) := by
  unfold fX9_isLetter kle
  rw [e_if, li_97, li_122]
  by_cases h1 : c < 97
  · rw [if_pos (by rw [lt_i (by omega) (by omega)]; exact h1), decide_eq_false (by omega)]
    rfl
  · rw [if_neg (by rw [lt_i (by omega) (by omega)]; exact h1), e_if, decide_eq_true (show 97 ≤ c by omega)]
    by_cases h2 : c ≤ 122
    · rw [if_neg (by rw [lt_i (by omega) (by omega)]; omega), decide_eq_true h2]
      rfl
    · rw [if_pos (by rw [lt_i (by omega) (by omega)]; omega), decide_eq_false h2]
      rfl
theorem x_isDigit {c : Nat} (hc : c < 256) : fX9_isDigit (nI c) t = some (nI (kdg c).toNat, t) := by
  unfold fX9_isDigit kdg
  rw [e_if, li_48, li_57]
  by_cases h1 : c < 48
  · rw [if_pos (by rw [lt_i (by omega) (by omega)]; exact h1), decide_eq_false (by omega)]
    rfl
  · rw [if_neg (by rw [lt_i (by omega) (by omega)]; exact h1), e_if, decide_eq_true (show 48 ≤ c by omega)]
    by_cases h2 : c ≤ 57
    · rw [if_neg (by rw [lt_i (by omega) (by omega)]; omega), decide_eq_true h2]
      rfl
    · rw [if_pos (by rw [lt_i (by omega) (by omega)]; omega), decide_eq_false h2]
      rfl
theorem zc18 : zc 18 0 = 59 ∧ zc 18 1 = 60 ∧ zc 18 2 = 62 ∧ zc 18 3 = 61 ∧ zc 18 4 = 40 ∧ zc 18 5 = 41 := by decide +kernel
theorem ksg_iff (c : Nat) : ksg c = true ↔ (c = 59 ∨ c = 60 ∨ c = 62 ∨ c = 61 ∨ c = 40 ∨ c = 41) := by
  obtain ⟨z0, z1, z2, z3, z4, z5⟩ := zc18
  constructor
  · intro h
    obtain ⟨r, hr, hp⟩ := ex_t h
    have hp : zc 18 r = c := by simpa using hp
    match r, hr with
    | 0, _ => omega
    | 1, _ => omega
    | 2, _ => omega
    | 3, _ => omega
    | 4, _ => omega
    | 5, _ => omega
    | r + 6, hr => omega
  · intro h
    have hk : ∃ r, r < 6 ∧ zc 18 r = c := by
      rcases h with h | h | h | h | h | h
      · exact ⟨0, by omega, by omega⟩
      · exact ⟨1, by omega, by omega⟩
      · exact ⟨2, by omega, by omega⟩
      · exact ⟨3, by omega, by omega⟩
      · exact ⟨4, by omega, by omega⟩
      · exact ⟨5, by omega, by omega⟩
    obtain ⟨r, h1, h2⟩ := hk
    exact (ex_iff _ 6).mpr ⟨r, h1, decide_eq_true h2⟩
theorem x_isSignByte {c : Nat} (hc : c < 256) : fX9_isSignByte 113 (nI c) t = some (nI (ksg c).toNat, t) := by
  unfold fX9_isSignByte
  have hi := ksg_iff c
  have hy : ∀ z : Nat, c = z → (z = 59 ∨ z = 60 ∨ z = 62 ∨ z = 61 ∨ z = 40 ∨ z = 41) → some (nI 1, t) = some (nI (ksg c).toNat, t) := fun z e hz => by
    rw [hi.mpr (by rw [e]; exact hz)]
    rfl
  rw [e_if, li_59]
  by_cases h1 : c = 59
  · rw [if_pos (by rw [eq_i (by omega) (by omega)]; exact h1)]; exact hy 59 h1 (by omega)
  rw [if_neg (by rw [eq_i (by omega) (by omega)]; exact h1), e_if, li_60]
  by_cases h2 : c = 60
  · rw [if_pos (by rw [eq_i (by omega) (by omega)]; exact h2)]; exact hy 60 h2 (by omega)
  rw [if_neg (by rw [eq_i (by omega) (by omega)]; exact h2), e_if, li_62]
  by_cases h3 : c = 62
  · rw [if_pos (by rw [eq_i (by omega) (by omega)]; exact h3)]; exact hy 62 h3 (by omega)
  rw [if_neg (by rw [eq_i (by omega) (by omega)]; exact h3), e_if, li_61]
  by_cases h4 : c = 61
  · rw [if_pos (by rw [eq_i (by omega) (by omega)]; exact h4)]; exact hy 61 h4 (by omega)
  rw [if_neg (by rw [eq_i (by omega) (by omega)]; exact h4), e_if, li_40]
  by_cases h5 : c = 40
  · rw [if_pos (by rw [eq_i (by omega) (by omega)]; exact h5)]; exact hy 40 h5 (by omega)
  rw [if_neg (by rw [eq_i (by omega) (by omega)]; exact h5), e_if, li_41]
  by_cases h6 : c = 41
  · rw [if_pos (by rw [eq_i (by omega) (by omega)]; exact h6)]; exact hy 41 h6 (by omega)
  rw [if_neg (by rw [eq_i (by omega) (by omega)]; exact h6)]
  cases hk : ksg c with
  | false => rfl
  | true => have := hi.mp hk; omega
theorem look_b (h : TR t C N) (p : Nat) : (if p < N then C p else 0) < 256 := by
  by_cases hp : p < N
  · rw [if_pos hp]; exact (h.2.2.2 p hp).2
  · rw [if_neg hp]; decide
theorem x_letters {a : Nat} (ha : a ≤ N) (h : TR t C N) (h15 : sI t 113 15 = nI a) (h16 : sI t 113 16 = nI a) (h22 : sL t 113 22 = lN 0) : ∃ v, fX9_next_109 fu 113 t = some ((), v) ∧ F9 (fun j => j = 16 ∨ j = 18) l22 t v ∧ sI v 113 16 = nI (ew C N a) ∧ sI v 113 18 = nI (ew C N a - a) ∧ sL v 113 22 = wdL C a (ew C N a - a) := by
  have h9 := h.2.2.1
  have key := loop_sx (fun n k => fX9_next_109 n 113) (fun j => !kle (C (a + j))) (fun k v => F9 (fun j => j = 16) l22 t v ∧ sI v 113 16 = nI (a + k) ∧ sL v 113 22 = wdL C a k ∧ ∀ i, i < k → kle (C (a + i)) = true) (N - a) (fun k => fX9_next_182 113) ?_ ?_ ?_ fu t (by unfold fu; omega) ⟨F9.rf, h16, by rw [h22]; rfl, fun i hi => by omega⟩
  · obtain ⟨v, e1, e2, e3, e4, e5⟩ := key
    have hv := h.f9 e2 (by decide)
    have hge : a ≤ ew C N a := Nat.le_add_right _ _
    have hle := ew_le C (N := N) (a := a) ha
    have hew : a + fs (fun j => !kle (C (a + j))) (N - a) = ew C N a := rfl
    have h15v : sI v 113 15 = nI a := by rw [e2.I (by decide)]; exact h15
    have h182 : fX9_next_182 113 v = some ((), wI v 113 18 (nI (ew C N a - a))) := by
      unfold fX9_next_182
      rw [hv.gi e3, hv.gi h15v, hew, sub_i hge, hv.pi]
      rfl
    refine ⟨_, e1.trans h182, (e2.mo (fun j hj => Or.inl hj) (fun _ h => h)).tr (F9.w _ (Or.inr rfl)), ?_, sI_wI_eq _ _ _ _, ?_⟩
    · rw [sI_wI_ne (Or.inr (by decide)), e3]; rfl
    · rw [sL_wI, e4]
      rw [show ew C N a - a = fs (fun j => !kle (C (a + j))) (N - a) by unfold ew; omega]
  · rintro n k v hk hb ⟨hF, hw, hL, hall⟩
    have hv := h.f9 hF (by decide)
    have hb : kle (C (a + k)) = false := by simpa using hb
    show fX9_next_109 (n + 1) 113 v = _
    rw [qX9_next_109, hv.gi hw, hv.cv, x_call (x_look hv (by omega)), x_call (x_isLetter (look_b hv _)), if_pos (show a + k < N by omega), hb, e_if, if_pos (by decide)]
  · rintro n k v hk hb ⟨hF, hw, hL, hall⟩
    have hv := h.f9 hF (by decide)
    have hb : kle (C (a + k)) = true := by simpa using hb
    have hd2 : 97 ≤ C (a + k) ∧ C (a + k) ≤ 122 := by
      unfold kle at hb
      simpa using hb
    have h15v : sI v 113 15 = nI a := by rw [hF.I (by decide)]; exact h15
    have hlk : (if a + k < N then C (a + k) else 0) = C (a + k) := if_pos (by omega)
    have h166 : ∀ x : Int64, fX9_next_166 (fX9_next_109 n) 113 x 113 v = fX9_next_109 n 113 (wI (wL v 113 22 x) 113 16 (nI (a + (k + 1)))) := fun x => by
      unfold fX9_next_166
      rw [xPL hv.1.k, xGIe (s := wL v 113 22 x) hv.1.k hw, xPI (s := wL v 113 22 x) hv.1.k, nI_succ1]
      rfl
    have hstep : fX9_next_109 (n + 1) 113 v = fX9_next_109 n 113 (wI (wL v 113 22 (wdL C a (k + 1))) 113 16 (nI (a + (k + 1)))) := by
      rw [qX9_next_109, hv.gi hw, hv.cv, x_call (x_look hv (by omega)), x_call (x_isLetter (look_b hv _)), hlk, hb, e_if, if_neg (by decide), hv.gi hw, hv.gi h15v, sub_i (by omega), e_if]
      by_cases h8 : k < 8
      · have hbd := wd_b C a k hall
        have hp := p32_8 (show k ≤ 8 by omega)
        rw [if_neg (by rw [li_8, le_i (by omega) (by omega)]; omega), xGL hv.1.k, hL, hv.gi hw, hv.cv, x_call (x_look hv (by omega)), hlk, l_i (by omega), h166]
        congr 3
        unfold wdL
        rw [if_pos (by omega), if_pos (by omega), show (32 : Int64) = lN 32 from rfl, show (96 : Int64) = lN 96 from rfl, lN_mul, lN_add, lN_sub (by omega), wd_s]
      · rw [if_pos (by rw [li_8, le_i (by omega) (by omega)]; omega), h166]
        congr 3
        unfold wdL
        rw [if_neg (by omega)]
        rfl
    refine ⟨_, ⟨(hF.tr (F9.l _ rfl)).tr (F9.w _ rfl), sI_wI_eq _ _ _ _, sL_eq, fun i hi => ?_⟩, hstep⟩
    by_cases hik : i = k
    · rw [hik]; exact hb
    · exact hall i (by omega)
  · rintro n v ⟨hF, hw, hL, hall⟩
    have hv := h.f9 hF (by decide)
    show fX9_next_109 (n + 1) 113 v = _
    rw [qX9_next_109, hv.gi hw, hv.cv, x_call (x_look hv (by omega)), x_call (x_isLetter (look_b hv _)), if_neg (show ¬ a + (N - a) < N by omega), e_if, if_pos (by decide)]
theorem x_digits {a : Nat} (ha : a ≤ N) (h : TR t C N) (h15 : sI t 113 15 = nI a) (h16 : sI t 113 16 = nI a) (h17 : sI t 113 17 = nI 0) : ∃ v, fX9_next_210 fu 113 t = some ((), v) ∧ F9 (fun j => j = 14 ∨ j = 16 ∨ j = 17) l22 t v ∧ sI v 113 16 = nI (eg C N a) ∧ sI v 113 14 = nI (if eg C N a - a ≤ 4 then 2 else 4) ∧ sI v 113 17 = nI (nv C a (eg C N a - a)) := by
  have h9 := h.2.2.1
  have key := loop_sx (fun n k => fX9_next_210 n 113) (fun j => !kdg (C (a + j))) (fun k v => F9 (fun j => j = 16 ∨ j = 17) l22 t v ∧ sI v 113 16 = nI (a + k) ∧ sI v 113 17 = nI (nv C a k) ∧ ∀ i, i < k → kdg (C (a + i)) = true) (N - a) (fun k => fX9_next_273 113) ?_ ?_ ?_ fu t (by unfold fu; omega) ⟨F9.rf, h16, h17, fun i hi => by omega⟩
  · obtain ⟨v, e1, e2, e3, e4, e5⟩ := key
    have hv := h.f9 e2 (by decide)
    have hge : a ≤ eg C N a := Nat.le_add_right _ _
    have hle := eg_le C (N := N) (a := a) ha
    have hew : a + fs (fun j => !kdg (C (a + j))) (N - a) = eg C N a := rfl
    have h15v : sI v 113 15 = nI a := by rw [e2.I (by decide)]; exact h15
    have h273 : fX9_next_273 113 v = some ((), wI v 113 14 (nI (if eg C N a - a ≤ 4 then 2 else 4))) := by
      unfold fX9_next_273
      rw [hv.gi e3, hv.gi h15v, hew, sub_i hge, e_if]
      by_cases h4 : eg C N a - a ≤ 4
      · rw [if_pos (by rw [li_4, le_i (by omega) (by omega)]; exact h4), if_pos h4, hv.pi]
        rfl
      · rw [if_neg (by rw [li_4, le_i (by omega) (by omega)]; exact h4), if_neg h4, hv.pi]
        rfl
    refine ⟨_, e1.trans h273, (e2.mo (fun j hj => Or.inr hj) (fun _ h => h)).tr (F9.w _ (Or.inl rfl)), ?_, sI_wI_eq _ _ _ _, ?_⟩
    · rw [sI_wI_ne (Or.inr (by decide)), e3]; rfl
    · rw [sI_wI_ne (Or.inr (by decide)), e4]
      rw [show eg C N a - a = fs (fun j => !kdg (C (a + j))) (N - a) by unfold eg; omega]
  · rintro n k v hk hb ⟨hF, hw, hL, hall⟩
    have hv := h.f9 hF (by decide)
    have hb : kdg (C (a + k)) = false := by simpa using hb
    show fX9_next_210 (n + 1) 113 v = _
    rw [qX9_next_210, hv.gi hw, hv.cv, x_call (x_look hv (by omega)), x_call (x_isDigit (look_b hv _)), if_pos (show a + k < N by omega), hb, e_if, if_pos (by decide)]
  · rintro n k v hk hb ⟨hF, hw, hL, hall⟩
    have hv := h.f9 hF (by decide)
    have hb : kdg (C (a + k)) = true := by simpa using hb
    have hd2 : 48 ≤ C (a + k) ∧ C (a + k) ≤ 57 := by
      unfold kdg at hb
      simpa using hb
    have hnb := nv_b C a k hall
    have hp := p10_4 k
    have h15v : sI v 113 15 = nI a := by rw [hF.I (by decide)]; exact h15
    have hlk : (if a + k < N then C (a + k) else 0) = C (a + k) := if_pos (by omega)
    have h260 : ∀ (w : mS), RT w → sI w 113 16 = nI (a + k) → fX9_next_260 (fX9_next_210 n) 113 w = fX9_next_210 n 113 (wI w 113 16 (nI (a + (k + 1)))) := fun w hT h6 => by
      unfold fX9_next_260
      rw [xGIe hT.k h6, xPI hT.k, nI_succ1]
      rfl
    have hbeg : fX9_next_210 (n + 1) 113 v = bIf ((4 : Int32) ≤ nI k) (fX9_next_260 (fX9_next_210 n) 113) (bGI 9 113 17 (fun x6 => bGI 9 113 16 (fun x7 => bCallV 9 113 (fX9_look2 113 x7) (fun x8 => bPI 9 113 17 ((((10 : Int32) * x6) + x8) - (48 : Int32)) (fX9_next_260 (fX9_next_210 n) 113))))) v := by
      rw [qX9_next_210, hv.gi hw, hv.cv, x_call (x_look hv (by omega)), x_call (x_isDigit (look_b hv _)), hlk, hb, e_if, if_neg (by decide), hv.gi hw, hv.gi h15v, sub_i (by omega), show a + k - a = k by omega]
    by_cases h4 : k < 4
    · refine ⟨wI (wI v 113 17 (nI (nv C a (k + 1)))) 113 16 (nI (a + (k + 1))), ⟨(hF.tr (F9.w _ (Or.inr rfl))).tr (F9.w _ (Or.inl rfl)), sI_wI_eq _ _ _ _, ?_, fun i hi => ?_⟩, ?_⟩
      · rw [sI_wI_ne (Or.inr (by decide)), sI_wI_eq]
      · by_cases hik : i = k
        · rw [hik]; exact hb
        · exact hall i (by omega)
      · show fX9_next_210 (n + 1) 113 v = _
        have hTw : RT (wI v 113 17 (nI (nv C a (k + 1)))) := hv.1.w
        rw [hbeg, e_if, if_neg (by rw [li_4, le_i (by omega) (by omega)]; omega), hv.gi hL, hv.gi hw, hv.cv, x_call (x_look hv (by omega)), hlk, li_10, nI_mul, nI_add, li_48, sub_i (by omega), hv.pi, show 10 * nv C a k + C (a + k) - 48 = nv C a (k + 1) by rw [nv_s, if_pos h4]; omega]
        exact h260 _ hTw (by rw [sI_wI_ne (Or.inr (by decide))]; exact hw)
    · refine ⟨wI v 113 16 (nI (a + (k + 1))), ⟨hF.tr (F9.w _ (Or.inl rfl)), sI_wI_eq _ _ _ _, ?_, fun i hi => ?_⟩, ?_⟩
      · rw [sI_wI_ne (Or.inr (by decide)), hL, nv_s, if_neg h4]
      · by_cases hik : i = k
        · rw [hik]; exact hb
        · exact hall i (by omega)
      · show fX9_next_210 (n + 1) 113 v = _
        rw [hbeg, e_if, if_pos (by rw [li_4, le_i (by omega) (by omega)]; omega)]
        exact h260 _ hv.1 hw
  · rintro n v ⟨hF, hw, hL, hall⟩
    have hv := h.f9 hF (by decide)
    show fX9_next_210 (n + 1) 113 v = _
    rw [qX9_next_210, hv.gi hw, hv.cv, x_call (x_look hv (by omega)), x_call (x_isDigit (look_b hv _)), if_neg (show ¬ a + (N - a) < N by omega), e_if, if_pos (by decide)]
theorem x_tok (h : TR t C N) {a : Nat} (ha : a ≤ N) (h15 : sI t 113 15 = nI a) : ∃ v, fX9_next_58 113 t = some ((), v) ∧ F9 i14 l22 t v ∧ RK v C N a := by
  have h9 := h.2.2.1
  obtain ⟨s2, hs2⟩ : ∃ s2, s2 = wI t 113 16 (nI a) := ⟨_, rfl⟩
  have hF2 : F9 i14 l22 t s2 := by rw [hs2]; exact F9.w _ ⟨by decide, by decide⟩
  have h2 : TR s2 C N := h.f9 hF2 (by decide)
  have h15b : sI s2 113 15 = nI a := by rw [hs2, sI_wI_ne (Or.inr (by decide))]; exact h15
  have h16b : sI s2 113 16 = nI a := by rw [hs2, sI_wI_eq]
  unfold fX9_next_58
  rw [h.gi h15, h.pi, ← hs2, h2.gi h15b, h2.gi h2.2.1, e_if]
  by_cases hlt : a < N
  · have hlk : (if a < N then C a else 0) = C a := if_pos hlt
    have hc := (h2.2.2.2 a hlt).2
    rw [if_pos (by rw [lt_i (by omega) (by omega)]; exact hlt), h2.gi h15b, h2.cv, x_call (x_look h2 (by omega)), hlk, x_call (x_isLetter hc), e_if]
    cases hl : kle (C a) with
    | true =>
      have ekd : kd C N a = 1 := by
        unfold kd
        rw [if_neg (by omega), hl, if_pos rfl]
      have eed : ed C N a = ew C N a := by
        unfold ed
        rw [if_neg (by omega), hl, if_pos rfl]
      have h4 : TR (wL (wI s2 113 14 (nI 1)) 113 22 (lN 0)) C N := (h2.f9 (F9.w (A := fun j => j = 14) (B := l22) _ rfl) (by decide)).f9 (F9.l (A := fun j => j = 14) (B := l22) _ rfl) (by decide)
      obtain ⟨v, k1, k2, k3, k4, k5⟩ := x_letters ha h4 (by rw [sI_wL, sI_wI_ne (Or.inr (by decide))]; exact h15b) (by rw [sI_wL, sI_wI_ne (Or.inr (by decide))]; exact h16b) sL_eq
      refine ⟨v, ?_, ((hF2.tr (F9.w _ ⟨by decide, by decide⟩)).tr (F9.l _ rfl)).tr (k2.mo (fun j hj => by rcases hj with rfl | rfl <;> exact ⟨by decide, by decide⟩) (fun _ h => h)), ?_, ?_, ?_, fun hh => ?_, fun hh => ?_, fun _ => ?_⟩
      · rw [if_neg (by decide), h2.pi, li_1, xPL (s := wI s2 113 14 (nI 1)) h2.1.k]
        exact k1
      · rw [k2.I (by decide), sI_wL, sI_wI_ne (Or.inr (by decide))]; exact h15b
      · rw [k2.I (by decide), sI_wL, sI_wI_eq, ekd]
      · rw [k3, eed]
      · rw [ekd] at hh; cases hh
      · rw [ekd] at hh; cases hh
      · rw [eed]; exact ⟨k4, k5⟩
    | false =>
      rw [if_pos (by decide), x_call (x_isDigit hc), e_if]
      cases hd : kdg (C a) with
      | true =>
        have ekd : kd C N a = if eg C N a - a ≤ 4 then 2 else 4 := by
          unfold kd
          rw [if_neg (by omega), hl, hd]
          rfl
        have eed : ed C N a = eg C N a := by
          unfold ed
          rw [if_neg (by omega), hl, hd]
          rfl
        have h4 : TR (wI s2 113 17 (nI 0)) C N := h2.f9 (F9.w (A := fun j => j = 17) (B := l22) _ rfl) (by decide)
        obtain ⟨v, k1, k2, k3, k4, k5⟩ := x_digits ha h4 (by rw [sI_wI_ne (Or.inr (by decide))]; exact h15b) (by rw [sI_wI_ne (Or.inr (by decide))]; exact h16b) (sI_wI_eq _ _ _ _)
        refine ⟨v, ?_, (hF2.tr (F9.w _ ⟨by decide, by decide⟩)).tr (k2.mo (fun j hj => by rcases hj with rfl | rfl | rfl <;> exact ⟨by decide, by decide⟩) (fun _ h => h)), ?_, ?_, ?_, fun hh => ?_, fun hh => ?_, fun hh => ?_⟩
        · rw [if_neg (by decide), h2.pi, li_0]
          exact k1
        · rw [k2.I (by decide), sI_wI_ne (Or.inr (by decide))]; exact h15b
        · rw [k4, ekd]
        · rw [k3, eed]
        · rw [eed]; exact k5
        · rw [ekd] at hh
          split at hh <;> cases hh
        · rw [ekd] at hh
          split at hh <;> cases hh
      | false =>
        have ekd : kd C N a = if ksg (C a) then 3 else 4 := by
          unfold kd
          rw [if_neg (by omega), hl, hd]
          rfl
        have eed : ed C N a = a + 1 := by
          unfold ed
          rw [if_neg (by omega), hl, hd]
          rfl
        have hF3 : F9 i14 l22 s2 (wI (wI s2 113 16 (nI (a + 1))) 113 17 (nI (C a))) := (F9.w _ ⟨by decide, by decide⟩).tr (F9.w _ ⟨by decide, by decide⟩)
        have h3 : TR (wI s2 113 16 (nI (a + 1))) C N := h2.f9 (F9.w (A := fun j => j = 16) (B := l22) _ rfl) (by decide)
        have h4 : TR (wI (wI s2 113 16 (nI (a + 1))) 113 17 (nI (C a))) C N := h2.f9 hF3 (by decide)
        have hbase : ∀ q : Nat, kd C N a = q → RK (wI (wI (wI s2 113 16 (nI (a + 1))) 113 17 (nI (C a))) 113 14 (nI q)) C N a := fun q hq => by
          refine ⟨?_, ?_, ?_, fun hh => ?_, fun hh => ?_, fun hh => ?_⟩
          · rw [sI_wI_ne (Or.inr (by decide)), sI_wI_ne (Or.inr (by decide)), sI_wI_ne (Or.inr (by decide))]; exact h15b
          · rw [sI_wI_eq, hq]
          · rw [sI_wI_ne (Or.inr (by decide)), sI_wI_ne (Or.inr (by decide)), sI_wI_eq, eed]
          · rw [ekd] at hh
            split at hh <;> cases hh
          · rw [sI_wI_ne (Or.inr (by decide)), sI_wI_eq]
          · rw [ekd] at hh
            split at hh <;> cases hh
        have hgo : ∀ q : Nat, kd C N a = q → F9 i14 l22 t (wI (wI (wI s2 113 16 (nI (a + 1))) 113 17 (nI (C a))) 113 14 (nI q)) := fun q _ => (hF2.tr hF3).tr (F9.w _ ⟨by decide, by decide⟩)
        rw [if_pos (by decide), h2.gi h15b, nI_succ1, h2.pi, h3.pi, h4.cv, x_call (x_isSignByte hc), e_if]
        cases hk : ksg (C a) with
        | true =>
          have eq : kd C N a = 3 := by rw [ekd, hk]; rfl
          refine ⟨_, ?_, hgo 3 eq, hbase 3 eq⟩
          rw [if_neg (by decide), h4.pi]
          rfl
        | false =>
          have eq : kd C N a = 4 := by rw [ekd, hk]; rfl
          refine ⟨_, ?_, hgo 4 eq, hbase 4 eq⟩
          rw [if_pos (by decide), h4.pi]
          rfl
  · have ekd : kd C N a = 0 := by
      unfold kd
      rw [if_pos (by omega)]
    have eed : ed C N a = a := by
      unfold ed
      rw [if_pos (by omega)]
    rw [if_neg (by rw [lt_i (by omega) (by omega)]; exact hlt), h2.pi]
    refine ⟨_, rfl, hF2.tr (F9.w _ ⟨by decide, by decide⟩), ?_, ?_, ?_, fun hh => ?_, fun hh => ?_, fun hh => ?_⟩
    · rw [sI_wI_ne (Or.inr (by decide))]; exact h15b
    · rw [sI_wI_eq, ekd]; rfl
    · rw [sI_wI_ne (Or.inr (by decide)), h16b, eed]
    · rw [ekd] at hh; cases hh
    · rw [ekd] at hh; cases hh
    · rw [ekd] at hh; cases hh
theorem x_next (h : TR t C N) {p : Nat} (hp : p ≤ N) (h16 : sI t 113 16 = nI p) : ∃ v, fX9_next 113 t = some ((), v) ∧ F9 i14 l22 t v ∧ RK v C N (sk C N p) := by
  have h9 := h.2.2.1
  have hsk := sk_le C hp
  have hF0 : F9 (fun j => j = 15) l22 t (wI t 113 15 (nI p)) := F9.w _ rfl
  have key := loop_sx (fun n k => fX9_next_8 n 113) (fun j => !kbl (C (p + j))) (fun k v => F9 (fun j => j = 15) l22 t v ∧ sI v 113 15 = nI (p + k)) (N - p) (fun k => fX9_next_58 113) ?_ ?_ ?_ fu (wI t 113 15 (nI p)) (by unfold fu; omega) ⟨hF0, sI_wI_eq _ _ _ _⟩
  · obtain ⟨w, e1, e2, e3⟩ := key
    have hw := h.f9 e2 (by decide)
    obtain ⟨v, k1, k2, k3⟩ := x_tok hw hsk e3
    refine ⟨v, ?_, (e2.mo (fun j hj => by subst hj; exact ⟨by decide, by decide⟩) (fun _ h => h)).tr k2, k3⟩
    unfold fX9_next
    rw [h.gi h16, h.pi]
    exact e1.trans k1
  · rintro n k v hk hb ⟨hF, hw⟩
    have hv := h.f9 hF (by decide)
    have hb : ¬ C (p + k) = 32 ∧ ¬ C (p + k) = 10 := by
      unfold kbl at hb
      simpa using hb
    have hc := (h.2.2.2 (p + k) (by omega)).2
    have hlk : (if p + k < N then C (p + k) else 0) = C (p + k) := if_pos (by omega)
    show fX9_next_8 (n + 1) 113 v = _
    rw [qX9_next_8, hv.gi hw, hv.gi hv.2.1, e_if, if_neg (by rw [le_i (by omega) (by omega)]; omega), hv.gi hw, hv.cv, x_call (x_look hv (by omega)), hlk, e_if, if_neg (by rw [li_10, eq_i (by omega) (by omega)]; exact hb.2), hv.gi hw, hv.cv, x_call (x_look hv (by omega)), hlk, e_if, if_neg (by rw [li_32, eq_i (by omega) (by omega)]; exact hb.1)]
  · rintro n k v hk hb ⟨hF, hw⟩
    have hv := h.f9 hF (by decide)
    have hb : C (p + k) = 32 ∨ C (p + k) = 10 := by
      unfold kbl at hb
      have hb' : ¬ C (p + k) = 32 → C (p + k) = 10 := by simpa using hb
      omega
    have hc := (h.2.2.2 (p + k) (by omega)).2
    have hlk : (if p + k < N then C (p + k) else 0) = C (p + k) := if_pos (by omega)
    have h45 : fX9_next_45 (fX9_next_8 n) 113 v = fX9_next_8 n 113 (wI v 113 15 (nI (p + (k + 1)))) := by
      unfold fX9_next_45
      rw [hv.gi hw, hv.pi, nI_succ1]
      rfl
    refine ⟨wI v 113 15 (nI (p + (k + 1))), ⟨hF.tr (F9.w _ rfl), sI_wI_eq _ _ _ _⟩, ?_⟩
    show fX9_next_8 (n + 1) 113 v = _
    rw [qX9_next_8, hv.gi hw, hv.gi hv.2.1, e_if, if_neg (by rw [le_i (by omega) (by omega)]; omega), hv.gi hw, hv.cv, x_call (x_look hv (by omega)), hlk, e_if]
    by_cases h10 : C (p + k) = 10
    · rw [if_pos (by rw [li_10, eq_i (by omega) (by omega)]; exact h10), h45]
    · rw [if_neg (by rw [li_10, eq_i (by omega) (by omega)]; exact h10), hv.gi hw, hv.cv, x_call (x_look hv (by omega)), hlk, e_if, if_pos (by rw [li_32, eq_i (by omega) (by omega)]; omega), h45]
  · rintro n v ⟨hF, hw⟩
    have hv := h.f9 hF (by decide)
    show fX9_next_8 (n + 1) 113 v = _
    rw [qX9_next_8, hv.gi hw, hv.gi hv.2.1, e_if, if_pos (by rw [le_i (by omega) (by omega)]; omega)]
end RTOK

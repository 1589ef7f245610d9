/-! THE CLASS FILLS ITS SETS -/
theorem CP.nf {s : mS} {D : dD} {n : Nat} (h : CP s D) (hm : nMk (dNn D) ≤ 3) (h1 : 1 ≤ n ∧ n ≤ 4096) : CP (wP (wN s 11 n) 93 5 (sZ s + 1)) D := by
  have hG := Gw.n s 11 n
  have h2 := h.gw hG hm
  obtain ⟨-, -, -, -, -, -, ⟨m1, -, m3, m4, m5, m6, m7⟩⟩ := h
  obtain ⟨t, ht⟩ : ∃ t, t = wN s 11 n := ⟨_, rfl⟩
  have hz : sZ t = sZ s + 1 := by rw [ht]; rfl
  have hHn : sH t (sZ s + 1) = (11, n) := by rw [ht, sH_wN, if_pos rfl]
  rw [← ht] at hG h2 ⊢
  have e92 := (hG.1 92 (by omega)).2.2.1
  have e4 := (hG.1 4 (by omega)).2.2.1
  obtain ⟨hS, hN, hTp, hTr, hc, hw, ⟨n1, -, n3, n4, n5, n6, n7⟩⟩ := h2
  have eP : ∀ b, b ≠ 93 → sP (wP t 93 5 (sZ s + 1)) b = sP t b := fun b hb => by
    funext i; rw [sP_wP, if_neg (by omega)]
  have eF : cF (wP t 93 5 (sZ s + 1)) = sZ s + 1 := by
    show sP (wP t 93 5 (sZ s + 1)) 93 5 = _
    rw [sP_wP, if_pos ⟨rfl, rfl⟩]
  have eM : ∀ i, cM (wP t 93 5 (sZ s + 1)) i = cM s i := fun i => by
    show sP (wP t 93 5 (sZ s + 1)) 92 i = sP s 92 i
    rw [eP 92 (by omega), e92]
  have eMt : ∀ i, cM t i = cM s i := fun i => by
    show sP t 92 i = sP s 92 i
    rw [e92]
  have hL : ∀ b, LwA s b → LwA (wP t 93 5 (sZ s + 1)) b := by
    rintro b (hb | ⟨b1, b2, b3, b4, b5⟩)
    · exact Or.inl hb
    · refine Or.inr ⟨b1, by show b + 1 ≤ sZ t; omega, by rw [eF]; omega, by rw [eF]; omega, fun i hi hc => ?_⟩
      rw [eM] at hc ⊢
      exact b5 i hi hc
  have hcw : ∀ a X, CW t a X → (∀ b, wA a b → b ≠ 93) → LwA s (sP t a 16) → CW (wP t 93 5 (sZ s + 1)) a X := fun a X hx ha hl => by
    refine hx.mv (fun _ _ => rfl) (fun b hb => ⟨rfl, eP b (ha b hb)⟩) (fun hn0 => ⟨rfl, rfl, rfl, rfl, ?_⟩)
    rcases hl with hl | hl
    · exact absurd hl hn0
    · exact eP _ (by have := hl.1; omega)
  refine ⟨hS.mv (fun _ _ => rfl) (fun b j _ _ hb _ _ => ?_), hN, hTp, hTr, hcw 4 _ hc (fun b hb => by have := hb.2; omega) (by rw [e4]; exact m4), hw.mvP2 (fun _ _ => rfl) (fun b hb j _ => by rw [eP b (by have := hb.1; have := hb.2; omega)]), ⟨n1, ⟨n, by rw [eF]; exact hHn, h1⟩, Or.inr ⟨by rw [eF]; omega, by rw [eF]; show sZ s + 1 ≤ sZ t; omega, fun i hi hc => ?_⟩, by rw [eP 4 (by omega), e4]; exact hL _ m4, fun i hi hc => ?_, fun i j hij hj hc => ?_, fun i hi => ?_⟩⟩
  · by_cases hb3 : b = 93
    · subst hb3
      rw [sP_wP, if_neg (by have := hb rfl; omega)]
    · rw [eP b hb3]
  · rw [eM] at hc ⊢
    have := (m5 i hi hc).2.1
    rw [eF]
    exact fun hb => by have := hb.2; omega
  · rw [eM] at hc ⊢
    obtain ⟨k1, k2, k3⟩ := n5 i hi (by rw [eMt]; exact hc)
    rw [eMt] at k1 k2 k3
    exact ⟨k1, k2, k3.mvP2 (fun _ _ => rfl) (fun b hb j _ => by rw [eP b (by have := hb.1; omega)])⟩
  · rw [eM] at hc
    rw [eM, eM]
    exact m6 i j hij hj hc
  · obtain ⟨k1, k2, k3⟩ := n7 i hi
    obtain ⟨q1, -, q3⟩ := m7 i hi
    have hi : i < nMk (dNn D) := hi
    have q5 := m5 i (by omega) q1
    rw [eMt] at k1 k2 k3
    rw [eM]
    have e16 : sP t (cM s i) = sP s (cM s i) := (hG.1 _ (by omega)).2.2.1
    refine ⟨k1, hcw _ _ k2 (fun b hb => by have := hb.1; omega) (by rw [e16]; exact q3), ?_⟩
    rw [eP _ (by omega), e16]
    exact hL _ q3
theorem an_df {S P : Nat} (hS : S < 2 ^ 12) (hP : P < 2 ^ 12) : nI S &&& (nI P ^^^ mI) = nI (df S P) := by
  apply i_ext
  rw [Int32.toBitVec_and, BitVec.toNat_and, Int32.toBitVec_xor, BitVec.toNat_xor, tn_i (by omega), tn_i (by omega), show mI.toBitVec.toNat = 2 ^ 32 - 1 by decide]
  apply Nat.eq_of_testBit_eq
  intro i
  rw [Nat.testBit_and, Nat.testBit_xor, Nat.testBit_two_pow_sub_one, df_bit]
  by_cases hi : i < 12
  · rw [decide_eq_true hi, decide_eq_true (show i < 32 by omega)]
    simp
  · rw [bit_out hS (by omega)]
    simp
/-- the fewer of both -/
def omn : Option Nat → Nat → Option Nat
  | none, c => some c
  | some a, c => some (min a c)
def fw (F : Nat → Nat) (k : Nat) : Nat → Option Nat := it (fun S w => up w (F S / 1024) (omn (w (F S / 1024)) (ca S))) (fun _ => none) k
theorem fw_s (F : Nat → Nat) (k : Nat) : fw F (k + 1) = up (fw F k) (F k / 1024) (omn (fw F k (F k / 1024)) (ca k)) := rfl
theorem fw_none (F : Nat → Nat) (q : Nat) : ∀ k, fw F k q = none → ∀ S, S < k → F S / 1024 ≠ q
  | 0, _, S, h => absurd h (Nat.not_lt_zero _)
  | k + 1, h, S, hS => by
    rw [fw_s] at h
    by_cases hq : q = F k / 1024
    · rw [hq, up_s] at h
      cases hw : fw F k (F k / 1024) <;> rw [hw] at h <;> cases h
    · rw [up_n _ _ hq] at h
      by_cases hk : S = k
      · rw [hk]; exact fun e => hq e.symm
      · exact fw_none F q k h S (by omega)
theorem fw_some (F : Nat → Nat) (q : Nat) : ∀ k m, fw F k q = some m → (∃ S, S < k ∧ F S / 1024 = q ∧ ca S = m) ∧ ∀ S, S < k → F S / 1024 = q → m ≤ ca S
  | 0, m, h => by cases h
  | k + 1, m, h => by
    rw [fw_s] at h
    by_cases hq : q = F k / 1024
    · rw [hq, up_s] at h
      cases hw : fw F k (F k / 1024) with
      | none =>
        rw [hw] at h
        cases h
        refine ⟨⟨k, by omega, hq.symm, rfl⟩, fun S hS e => ?_⟩
        by_cases hk : S = k
        · rw [hk]; exact Nat.le_refl _
        · exact absurd (e.trans hq) (fw_none F _ k hw S (by omega))
      | some a =>
        rw [hw] at h
        cases h
        obtain ⟨⟨T, t1, t2, t3⟩, t4⟩ := fw_some F _ k a hw
        refine ⟨?_, fun S hS e => ?_⟩
        · rcases Nat.le_total a (ca k) with h | h
          · exact ⟨T, by omega, t2.trans hq.symm, by rw [t3, Nat.min_eq_left h]⟩
          · exact ⟨k, by omega, hq.symm, by rw [Nat.min_eq_right h]⟩
        · by_cases hk : S = k
          · rw [hk]; exact Nat.min_le_right _ _
          · exact Nat.le_trans (Nat.min_le_left _ _) (t4 S (by omega) (e.trans hq))
    · rw [up_n _ _ hq] at h
      obtain ⟨⟨T, t1, t2, t3⟩, t4⟩ := fw_some F q k m h
      refine ⟨⟨T, by omega, t2, t3⟩, fun S hS e => ?_⟩
      by_cases hk : S = k
      · rw [hk] at e; exact absurd e.symm hq
      · exact t4 S (by omega) e
theorem fw_12 (F : Nat → Nat) (q k m : Nat) (h : fw F k q = some m) : m ≤ 12 := by
  obtain ⟨⟨S, -, -, e⟩, -⟩ := fw_some F q k m h
  rw [← e]
  exact ca_le S
section FILL
variable {v0 : mS} {g : Nat → Nat} {n N f len : Nat}
theorem c_with {v : mS} (hS : CS v) {b m : Nat} (h3 : sI v 93 3 = nI N) (hb : b < 100000) (hm : m < 100000) (hN : N < 100000) : fX2_with 93 (nI b) (nI m) v = some (nI (wi N b m), v) := by
  unfold fX2_with wi
  rw [li_1024, e_nz (by decide) (by decide), xGIe hS.k93 h3, rem_i (by omega) (by decide) (by decide), nI_add, e_if]
  by_cases c : b % 1024 + m < N
  · rw [if_pos (by rw [lt_i (by omega) (by omega)]; exact c), if_pos c, nI_add]
    rfl
  · rw [if_neg (by rw [lt_i (by omega) (by omega)]; exact c), if_neg c, e_nz (by decide) (by decide), sub_i (Nat.mod_le _ _), nI_add]
    rfl
/-- what the loops over sets find told -/
def fH (v : mS) (g : Nat → Nat) (n N f len : Nat) : Prop := CS v ∧ sP v 93 5 = f ∧ (f = 95 ∨ 124 < f) ∧ sH v f = (11, len) ∧ sI v 93 2 = nI n ∧ (∀ i, i < n → sI v 94 i = nI (g i)) ∧ (0 < n → sI v 93 3 = nI N)
theorem fH_mv {v w : mS} (h : fH v g n N f len) (hF : FI (fun b => b = f ∨ b = 96) v w) : fH w g n N f len := by
  obtain ⟨a1, a2, a3, a4, a5, a6, a7⟩ := h
  have e : ∀ b, b = 93 ∨ b = 94 → sI w b = sI v b := fun b hb => hF.1 b (by rintro (h | h) <;> omega)
  refine ⟨a1.fi hF, by rw [hF.P]; exact a2, a3, by rw [hF.H]; exact a4, by rw [e 93 (Or.inl rfl)]; exact a5, fun i hi => by rw [e 94 (Or.inr rfl)]; exact a6 i hi, fun h0 => by rw [e 93 (Or.inl rfl)]; exact a7 h0⟩
theorem c_most {v : mS} (h : fH v g n N f len) (hn : n ≤ 12) (hN : 0 < N) (hN1 : N ≤ 1000) (hg : ∀ i, i < n → g i < 2000) {S : Nat} (hS : S < 2 ^ n) (hlen : 2 ^ n ≤ len) (hlen2 : len ≤ 4096) (hT : ∀ T, T < S → sI v f T = nI (gF g n N T)) (r32 : Nat → Int32 → Int32 → mM Unit) (z : Int32) : fX2_fillSets_42 r32 fu 93 z (nI S) (nI 0) (nI 0) v = fX2_fillSets_96 r32 93 z (nI S) (nI (gF g n N S)) v := by
  obtain ⟨a1, a2, a3, a4, a5, a6, a7⟩ := h
  have hp : (2 : Nat) ^ n ≤ 2 ^ 12 := Nat.pow_le_pow_right (by decide) hn
  have hS12 : S < 2 ^ 12 := Nat.lt_of_lt_of_le hS hp
  have hmb : ∀ i, mx (fun i => S.testBit i) (fun i => wi N (gF g n N (df S (2 ^ i))) (g i)) i < 100000 := fun i => by
    rcases mx_at (fun i => S.testBit i) (fun i => wi N (gF g n N (df S (2 ^ i))) (g i)) i with h | ⟨j, h1, h2, h3⟩
    · omega
    · rw [h3]
      have h4 := gF_lt (g := g) hn hN hN1 (df S (2 ^ j))
      unfold wi
      split <;> omega
  refine (loop_n (fun m i => fX2_fillSets_42 r32 m 93 z (nI S) (nI (mx (fun i => S.testBit i) (fun i => wi N (gF g n N (df S (2 ^ i))) (g i)) i)) (nI i) v) (fX2_fillSets_96 r32 93 z (nI S) (nI (gF g n N S)) v) n ?_ ?_ fu 0 (by omega) (by unfold fu; omega))
  · intro m i hi
    show fX2_fillSets_42 r32 (m + 1) 93 z (nI S) _ (nI i) v = fX2_fillSets_42 r32 m 93 z (nI S) _ (nI (i + 1)) v
    rw [qX2_fillSets_42, xGIe a1.k93 a5, e_if, if_neg (by rw [le_i (by omega) (by omega)]; omega), e_if, mx_s]
    cases hb : S.testBit i with
    | false =>
      rw [if_neg (by rw [li_31, li_1, bit_i (by omega) (by omega), hb]; decide), nI_succ1]
      rfl
    | true =>
      have hd := df_pow_lt hb
      have hF := gF_lt (g := g) hn hN hN1 (df S (2 ^ i))
      have h2i : 2 ^ i < 2 ^ 12 := Nat.pow_lt_pow_right (by decide) (by omega)
      have hgi := hg i hi
      rw [if_pos (by rw [li_31, li_1, bit_i (by omega) (by omega), hb]; rfl), xGR a1.k93 a2, li_1, ne_m1, li_31, one_shl (by omega), an_df hS12 h2i, xAI a4 (by omega) (by omega), hT _ hd, xGR a1.k93 a1.p4, xAIe a1.h94 (by omega) (by decide) (a6 i hi), e_callV a1.k93, x_call (c_with a1 (a7 (by omega)) (by omega) (by omega) (by omega)), jMax_i (by have := hmb i; omega) (by unfold wi; split <;> omega), nI_add, if_pos rfl]
  · intro m
    show fX2_fillSets_42 r32 (m + 1) 93 z (nI S) _ (nI n) v = _
    rw [qX2_fillSets_42, xGIe a1.k93 a5, e_if, if_pos (by rw [le_i (by omega) (by omega)]; omega)]
    rw [gF_eq S]
    rfl
theorem c_put96 {v : mS} (h : fH v g n N f len) (hn : n ≤ 12) (hlen : 2 ^ n ≤ len) (hlen2 : len ≤ 4096) {S x : Nat} (hS : S < 2 ^ n) (hx : x < 13312) (hxc : x / 1024 ≤ 12) (w : Nat → Option Nat) (hw : ∀ q, q < 13 → sI v 96 q = oI (w q)) (hw12 : ∀ q m, w q = some m → m ≤ 12) (r32 : Nat → Int32 → Int32 → mM Unit) (z : Int32) : ∃ v', fX2_fillSets_96 r32 93 z (nI S) (nI x) v = r32 93 z (nI (S + 1)) v' ∧ FI (fun b => b = f ∨ b = 96) v v' ∧ (∀ T, sI v' f T = if T = S then nI x else sI v f T) ∧ ∀ q, q < 13 → sI v' 96 q = oI (up w (x / 1024) (omn (w (x / 1024)) (ca S)) q) := by
  obtain ⟨a1, a2, a3, a4, a5, a6, a7⟩ := h
  have hp : (2 : Nat) ^ n ≤ 2 ^ 12 := Nat.pow_le_pow_right (by decide) hn
  have hf96 : f ≠ 96 := by omega
  have hc12 := ca_le S
  have hS1 : CS (wI v f S (nI x)) := a1.w
  have hFw : FI (fun b => b = f ∨ b = 96) v (wI v f S (nI x)) := FI.w _ _ (Or.inl rfl)
  have e96 : ∀ q, sI (wI v f S (nI x)) 96 q = sI v 96 q := fun q => sI_wI_ne (Or.inl (Ne.symm hf96))
  have hfT : ∀ T, sI (wI v f S (nI x)) f T = if T = S then nI x else sI v f T := fun T => by
    by_cases hTS : T = S
    · rw [hTS, sI_wI_eq, if_pos rfl]
    · rw [sI_wI_ne (Or.inr hTS), if_neg hTS]
  have hbeg : fX2_fillSets_96 r32 93 z (nI S) (nI x) v = (bIf (oI (w (x / 1024)) = (-1 : Int32)) (fX2_fillSets_144 r32 93 z (nI S) (nI (x / 1024)) (nI (pc S))) (bIf (oI (w (x / 1024)) ≤ nI (pc S)) (r32 93 z (nI (S + 1))) (fX2_fillSets_144 r32 93 z (nI S) (nI (x / 1024)) (nI (pc S))))) (wI v f S (nI x)) := by
    unfold fX2_fillSets_96
    rw [xGR a1.k93 a2, xSI a4 (by omega) (by omega), li_1024, e_nz (by decide) (by decide), div_i (by omega) (by decide) (by decide), li_12, jMin_i (by omega) (by omega), Nat.min_eq_left hxc]
    rw [x_call (j_bitCount (by omega) (wI v f S (nI x))), xGR hS1.k93 hS1.p6, xAIe hS1.h96 (by omega) (by decide) ((e96 _).trans (hw _ (by omega))), e_if, e_if, xGR hS1.k93 hS1.p6, xAIe hS1.h96 (by omega) (by decide) ((e96 _).trans (hw _ (by omega))), e_if, nI_succ1]
    rfl
  have h144 : fX2_fillSets_144 r32 93 z (nI S) (nI (x / 1024)) (nI (pc S)) (wI v f S (nI x)) = r32 93 z (nI (S + 1)) (wI (wI v f S (nI x)) 96 (x / 1024) (nI (pc S))) := by
    unfold fX2_fillSets_144
    rw [xGR hS1.k93 hS1.p6, xSI hS1.h96 (by omega) (by decide), nI_succ1]
  have hput : ∀ a, omn (w (x / 1024)) (ca S) = some (ca S) → a = wI (wI v f S (nI x)) 96 (x / 1024) (nI (pc S)) → FI (fun b => b = f ∨ b = 96) v a ∧ (∀ T, sI a f T = if T = S then nI x else sI v f T) ∧ ∀ q, q < 13 → sI a 96 q = oI (up w (x / 1024) (omn (w (x / 1024)) (ca S)) q) := fun a ho ha => by
    subst ha
    refine ⟨hFw.tr (FI.w _ _ (Or.inr rfl)), fun T => by rw [sI_wI_ne (Or.inl hf96)]; exact hfT T, fun q hq => ?_⟩
    rw [ho]
    by_cases hqx : q = x / 1024
    · rw [hqx, up_s, sI_wI_eq, pc_ca]; rfl
    · rw [up_n _ _ hqx, sI_wI_ne (Or.inr hqx), e96, hw q hq]
  cases hwx : w (x / 1024) with
  | none =>
    obtain ⟨b1, b2, b3⟩ := hput _ (by rw [hwx]; rfl) rfl
    rw [hwx] at b3
    exact ⟨_, by rw [hbeg, hwx, e_if, if_pos (by decide), h144], b1, b2, b3⟩
  | some m =>
    have hm := hw12 _ m hwx
    rw [hwx] at hbeg
    by_cases hle : m ≤ pc S
    · refine ⟨wI v f S (nI x), ?_, hFw, hfT, fun q hq => ?_⟩
      · rw [hbeg, e_if, if_neg (by rw [li_1, ne_m1, oI_s, m1_i (by omega)]; exact id), e_if, if_pos (by rw [oI_s, le_i (by omega) (by rw [pc_ca]; omega)]; exact hle)]
      · rw [e96, hw q hq]
        by_cases hqx : q = x / 1024
        · rw [hqx, up_s, hwx]
          show oI (some m) = oI (some (min m (ca S)))
          rw [Nat.min_eq_left (by rw [← pc_ca]; exact hle)]
        · rw [up_n _ _ hqx]
    · obtain ⟨b1, b2, b3⟩ := hput _ (by rw [hwx]; show some (min m (ca S)) = _; rw [Nat.min_eq_right (by rw [← pc_ca]; omega)]) rfl
      rw [hwx] at b3
      refine ⟨_, ?_, b1, b2, b3⟩
      rw [hbeg, e_if, if_neg (by rw [li_1, ne_m1, oI_s, m1_i (by omega)]; exact id), e_if, if_neg (by rw [oI_s, le_i (by omega) (by rw [pc_ca]; omega)]; exact hle), h144]
theorem c_fill (h : fH v0 g n N f len) (hn : n ≤ 12) (hN : 0 < N) (hN1 : N ≤ 1000) (hg : ∀ i, i < n → g i < 2000) (hlen : 2 ^ n ≤ len) (hlen2 : len ≤ 4096) (h96 : ∀ q, q < 13 → sI v0 96 q = if q = 0 then nI 0 else mI) : ∃ v, fX2_fillSets_23 93 (nI (2 ^ n)) v0 = some ((), v) ∧ FI (fun b => b = f ∨ b = 96) v0 v ∧ ∀ q, q < 13 → sI v 96 q = oI (fw (gF g n N) (2 ^ n) q) := by
  have h0 := h
  obtain ⟨a1, a2, a3, a4, a5, a6, a7⟩ := h
  have hp : (2 : Nat) ^ n ≤ 2 ^ 12 := Nat.pow_le_pow_right (by decide) hn
  have hp1 : 1 ≤ (2 : Nat) ^ n := Nat.two_pow_pos n
  have hg0 : gF g n N 0 = 0 := by
    rcases gF_at (g := g) (n := n) (N := N) 0 with h | ⟨i, -, h2, -⟩
    · exact h
    · rw [Nat.zero_testBit] at h2; cases h2
  have hF0 : FI (fun b => b = f ∨ b = 96) v0 (wI v0 f 0 (nI 0)) := FI.w _ _ (Or.inl rfl)
  have hI1 : ∀ q, q < 13 → sI (wI v0 f 0 (nI 0)) 96 q = oI (fw (gF g n N) 1 q) := fun q hq => by
    rw [sI_wI_ne (Or.inl (by omega)), h96 q hq, fw_s, hg0]
    have hca0 : ca 0 = 0 := sm_z _ 12
    by_cases hq0 : q = 0
    · subst hq0
      rw [if_pos rfl, up_s]
      show nI 0 = oI (some (ca 0))
      rw [hca0]; rfl
    · rw [if_neg hq0, up_n _ _ (show q ≠ 0 / 1024 by omega)]
      rfl
  have key := loop_s (fun m k => fX2_fillSets_32 m 93 (nI (2 ^ n)) (nI k)) (fun k v => FI (fun b => b = f ∨ b = 96) v0 v ∧ (∀ T, T < k → sI v f T = nI (gF g n N T)) ∧ ∀ q, q < 13 → sI v 96 q = oI (fw (gF g n N) k q)) (2 ^ n) (fun q => FI (fun b => b = f ∨ b = 96) v0 q.2 ∧ ∀ p, p < 13 → sI q.2 96 p = oI (fw (gF g n N) (2 ^ n) p)) ?_ ?_ fu 1 (wI v0 f 0 (nI 0)) hp1 (by unfold fu; omega) ⟨hF0, fun T hT => by rw [show T = 0 by omega, sI_wI_eq, hg0], hI1⟩
  · obtain ⟨⟨⟨⟩, v⟩, e1, e2, e3⟩ := key
    refine ⟨v, ?_, e2, e3⟩
    unfold fX2_fillSets_23
    rw [xGR a1.k93 a2, li_0, xSI a4 (by omega) (by omega)]
    exact e1
  · rintro m k v hk ⟨hF, hT, hw⟩
    have hv := fH_mv h0 hF
    have hx := gF_lt (g := g) hn hN hN1 k
    have hxc := gF_card (g := g) hn hN hN1 k
    have hc12 := ca_le k
    obtain ⟨v', b1, b2, b3, b4⟩ := c_put96 hv hn hlen hlen2 hk hx (by omega) (fw (gF g n N) k) hw (fun q m hm => fw_12 _ _ _ _ hm) (fX2_fillSets_32 m) (nI (2 ^ n))
    refine ⟨v', ⟨hF.tr b2, fun T hTk => ?_, fun q hq => by rw [b4 q hq, fw_s]⟩, ?_⟩
    · rw [b3]
      by_cases hTe : T = k
      · rw [if_pos hTe, hTe]
      · rw [if_neg hTe]; exact hT T (by omega)
    · show fX2_fillSets_32 (m + 1) 93 (nI (2 ^ n)) (nI k) v = _
      rw [qX2_fillSets_32, e_if, if_neg (by rw [le_i (by omega) (by omega)]; omega), li_0, c_most hv hn hN hN1 hg hk hlen hlen2 hT, b1]
  · rintro m v ⟨hF, hT, hw⟩
    refine ⟨((), v), ?_, hF, hw⟩
    show fX2_fillSets_32 (m + 1) 93 (nI (2 ^ n)) (nI (2 ^ n)) v = _
    rw [qX2_fillSets_32, e_if, if_pos (by rw [le_i (by omega) (by omega)]; omega)]
    rfl
end FILL

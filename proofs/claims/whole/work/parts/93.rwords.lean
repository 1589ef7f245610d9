/-! THE REFERENCE'S WORDS -/
def encW (z : Nat) : Nat := it (fun i w => w * 32 + zc z i - 96) 0 (zl z)
/-- digits of small letters tell them apart -/
theorem dg_inj (f g : Nat → Nat) : ∀ n m, (∀ i, i < n → 97 ≤ f i ∧ f i ≤ 122) → (∀ i, i < m → 97 ≤ g i ∧ g i ≤ 122) → it (fun i w => w * 32 + f i - 96) 0 n = it (fun i w => w * 32 + g i - 96) 0 m → n = m ∧ ∀ i, i < n → f i = g i
  | 0, 0, _, _, _ => ⟨rfl, fun i hi => by omega⟩
  | 0, m + 1, _, hg, h => by
    have := hg m (by omega)
    rw [it_0, it_s] at h
    omega
  | n + 1, 0, hf, _, h => by
    have := hf n (by omega)
    rw [it_0, it_s] at h
    omega
  | n + 1, m + 1, hf, hg, h => by
    have h1 := hf n (by omega)
    have h2 := hg m (by omega)
    rw [it_s, it_s] at h
    obtain ⟨e1, e2⟩ := dg_inj f g n m (fun i hi => hf i (by omega)) (fun i hi => hg i (by omega)) (by omega)
    subst e1
    refine ⟨rfl, fun i hi => ?_⟩
    by_cases hin : i = n
    · rw [hin]
      have h3 : it (fun i w => w * 32 + f i - 96) 0 n = it (fun i w => w * 32 + g i - 96) 0 n := by omega
      omega
    · exact e2 i (by omega)
set_option maxRecDepth 100000 in
theorem z_let : ∀ z, z < 34 → z ≠ 18 → zl z ≤ 8 ∧ ∀ i, i < zl z → 97 ≤ zc z i ∧ zc z i ≤ 122 := by decide +kernel
set_option maxRecDepth 100000 in
theorem encW_b : ∀ z, z < 34 → z ≠ 18 → encW z < 1099511627776 := by decide +kernel
def wb (t : mS) (w : Nat) : Bool := decide (sI t 113 14 = nI 1) && decide (sL t 113 22 = lN w)
def sbq (t : mS) (c : Nat) : Bool := decide (sI t 113 14 = nI 3) && decide (sI t 113 17 = nI c)
def RG (t : mS) (C : Nat → Nat) (N a : Nat) : Prop := TR t C N ∧ RK t C N a ∧ a ≤ N ∧ sI t 113 12 = nI 0
def RE (t : mS) (k p : Nat) : Prop := sI t 113 12 = nI k ∧ sI t 113 13 = nI p ∧ 1 ≤ k ∧ k ≤ 7
def rQ {α : Type} (t : mS) (C : Nat → Nat) (N : Nat) (x : PR α) : Prop := match x with
  | .inl e => RE t e.1 e.2
  | .inr y => RG t C N y.2
/-- the first number of a row that P holds for -/
def fq (P : Nat → Bool) : Nat → Nat → Option Nat
  | _, 0 => none
  | k, n + 1 => if P k then some k else fq P (k + 1) n
theorem fq_s (P : Nat → Bool) (k n : Nat) : fq P k (n + 1) = if P k then some k else fq P (k + 1) n := rfl
theorem fq_lt (P : Nat → Bool) : ∀ n k m, fq P k n = some m → k ≤ m ∧ m < k + n ∧ P m = true
  | 0, k, m, h => by cases h
  | n + 1, k, m, h => by
    rw [fq_s] at h
    cases hP : P k with
    | true =>
      rw [hP] at h
      cases h
      exact ⟨Nat.le_refl _, by omega, hP⟩
    | false =>
      rw [hP] at h
      have := fq_lt P n (k + 1) m h
      exact ⟨by omega, by omega, this.2.2⟩
theorem fq_no (P : Nat → Bool) : ∀ n k, fq P k n = none → ∀ m, k ≤ m → m < k + n → P m = false
  | 0, k, _, m, h1, h2 => by omega
  | n + 1, k, h, m, h1, h2 => by
    rw [fq_s] at h
    cases hP : P k with
    | true => rw [hP] at h; cases h
    | false =>
      rw [hP] at h
      by_cases hm : m = k
      · rw [hm]; exact hP
      · exact fq_no P n (k + 1) h m (by omega) (by omega)
theorem fq_c {P Q : Nat → Bool} : ∀ n k, (∀ m, k ≤ m → m < k + n → P m = Q m) → fq P k n = fq Q k n
  | 0, _, _ => rfl
  | n + 1, k, h => by rw [fq_s, fq_s, h k (by omega) (by omega), fq_c n (k + 1) (fun m h1 h2 => h m (by omega) (by omega))]
def ap (w c : Nat) : Nat := if c = 0 then w else w * 32 + c - 96
section RW2
variable {t : mS} {C : Nat → Nat} {N a : Nat}
theorem RG.wbq (h : RG t C N a) {z : Nat} (hz : z < 34) (hz8 : z ≠ 18) : wb t (encW z) = wq C N a z := by
  obtain ⟨hT, ⟨k1, k2, k3, -, -, k6⟩, haN, -⟩ := h
  have hk5 := kd_5 C N a
  have hge := ed_ge C N a
  obtain ⟨z1, z2⟩ := z_let z hz hz8
  have hzb := encW_b z hz hz8
  unfold wb
  rw [k2]
  by_cases hkd : kd C N a = 1
  · obtain ⟨q1, q2⟩ := k6 hkd
    obtain ⟨hlt, hl0, hed⟩ := kd_1 hkd
    rw [hkd, q2, decide_eq_true rfl, Bool.true_and]
    have hin : ∀ i, i < ed C N a - a → 97 ≤ C (a + i) ∧ C (a + i) ≤ 122 := fun i hi => by
      have := ew_in C (N := N) (a := a) (i := i) (by rw [hed] at hi; omega)
      unfold kle at this
      simpa using this
    apply Bool.eq_iff_iff.mpr
    rw [wq_iff, decide_eq_true_iff]
    unfold wdL
    by_cases h8 : ed C N a - a ≤ 8
    · have hwb : wd C a (ed C N a - a) < 32 ^ (ed C N a - a) := wd_b C a _ (fun i hi => ew_in C (N := N) (by rw [hed] at hi; omega))
      have hp := p32_8 h8
      rw [if_pos h8, pk_lEQ (by omega) (by omega)]
      constructor
      · intro e
        obtain ⟨e1, e2⟩ := dg_inj (fun i => C (a + i)) (fun i => zc z i) _ _ hin z2 e
        exact ⟨hkd, e1, fun i hi => e2 i (by omega)⟩
      · rintro ⟨-, e1, e2⟩
        unfold wd encW
        rw [e1]
        exact it_congr _ (fun i w hi => by rw [e2 i hi])
    · rw [if_neg h8]
      constructor
      · intro e
        have h1 := congrArg Int64.toInt e
        rw [mL_toInt, pk_lT (by omega)] at h1
        omega
      · rintro ⟨-, e1, -⟩
        omega
  · have h1 : wq C N a z = false := by
      cases hw : wq C N a z with
      | false => rfl
      | true => exact absurd (wq_iff.mp hw).1 hkd
    rw [h1, decide_eq_false (by rw [eq_i (by omega) (by omega)]; exact hkd), Bool.false_and]
theorem RG.sbq2 (h : RG t C N a) {c : Nat} (hc : c < 128) : sbq t c = sq C N a c := by
  obtain ⟨hT, ⟨k1, k2, k3, -, k5, -⟩, haN, -⟩ := h
  have hk5 := kd_5 C N a
  unfold sbq sq
  rw [k2]
  by_cases hkd : kd C N a = 3
  · have hlt : a < N := by
      rcases Nat.lt_or_ge a N with h2 | h2
      · exact h2
      · unfold kd at hkd
        rw [if_pos h2] at hkd
        cases hkd
    have hC := (hT.2.2.2 a hlt).2
    rw [k5 hkd, hkd, decide_eq_true rfl, decide_eq_true rfl]
    by_cases h2 : C a = c
    · rw [decide_eq_true h2, decide_eq_true (by rw [h2])]
    · rw [decide_eq_false h2, decide_eq_false (by rw [eq_i (by omega) (by omega)]; exact h2)]
  · rw [decide_eq_false (by rw [eq_i (by omega) (by omega)]; exact hkd), decide_eq_false hkd]
    rfl
theorem x_isWord (hT : RT t) (w : Nat) : fX9_isWord 113 (lN w) t = some (nI (wb t w).toNat, t) := by
  unfold fX9_isWord wb
  rw [xGI hT.k, e_if, li_1]
  by_cases h1 : sI t 113 14 = nI 1
  · rw [if_pos h1, xGL hT.k, e_if, decide_eq_true h1]
    by_cases h2 : sL t 113 22 = lN w
    · rw [if_pos (by rw [li_0, lg_eq0]; exact h2), decide_eq_true h2]
      rfl
    · rw [if_neg (by rw [li_0, lg_eq0]; exact h2), decide_eq_false h2]
      rfl
  · rw [if_neg h1, decide_eq_false h1]
    rfl
theorem x_isSign (hT : RT t) (c : Nat) : fX9_isSign 113 (nI c) t = some (nI (sbq t c).toNat, t) := by
  unfold fX9_isSign sbq
  rw [xGI hT.k, e_if, li_3]
  by_cases h1 : sI t 113 14 = nI 3
  · rw [if_pos h1, xGI hT.k, e_if, decide_eq_true h1]
    by_cases h2 : sI t 113 17 = nI c
    · rw [if_pos h2, decide_eq_true h2]
      rfl
    · rw [if_neg h2, decide_eq_false h2]
      rfl
  · rw [if_neg h1, decide_eq_false h1]
    rfl
theorem ap_l {w c : Nat} (hc : c < 128) (h96 : 96 ≤ c) : ((lN w * (32 : Int64)) + Int32.toInt64 (nI c)) - (96 : Int64) = lN (w * 32 + c - 96) := by
  rw [l_i (by omega), show (32 : Int64) = lN 32 from rfl, show (96 : Int64) = lN 96 from rfl, lN_mul, lN_add, lN_sub (by omega)]
theorem ap_0 {w : Nat} : ap w 0 = w := rfl
theorem ap_p {w c : Nat} (h : 96 ≤ c) : ap w c = w * 32 + c - 96 := by
  unfold ap
  rw [if_neg (by omega)]
theorem x_sp91 {w c : Nat} (hc : c = 0 ∨ (96 ≤ c ∧ c < 128)) : fX9_spelled_91 (nI c) (lN w) t = some (lN (ap w c), t) := by
  unfold fX9_spelled_91
  rw [e_if]
  rcases hc with rfl | ⟨h1, h2⟩
  · rw [if_pos (by decide)]; rfl
  · rw [if_neg (by rw [li_0, le_i (by omega) (by omega)]; omega), ap_l h2 h1, ap_p h1]; rfl
theorem x_sp65 {w c d : Nat} (hc : c = 0 ∨ (96 ≤ c ∧ c < 128)) (hd : d = 0 ∨ (96 ≤ d ∧ d < 128)) : fX9_spelled_65 (nI c) (nI d) (lN w) t = some (lN (ap (ap w c) d), t) := by
  unfold fX9_spelled_65
  rw [e_if]
  rcases hc with rfl | ⟨h1, h2⟩
  · rw [if_pos (by decide), x_sp91 hd]; rfl
  · rw [if_neg (by rw [li_0, le_i (by omega) (by omega)]; omega), ap_l h2 h1, x_sp91 hd, ap_p h1]
theorem x_sp41 {w c d e : Nat} (hc : c = 0 ∨ (96 ≤ c ∧ c < 128)) (hd : d = 0 ∨ (96 ≤ d ∧ d < 128)) (he : e = 0 ∨ (96 ≤ e ∧ e < 128)) : fX9_spelled_41 (nI c) (nI d) (nI e) (lN w) t = some (lN (ap (ap (ap w c) d) e), t) := by
  unfold fX9_spelled_41
  rw [e_if]
  rcases hc with rfl | ⟨h1, h2⟩
  · rw [if_pos (by decide), x_sp65 hd he]; rfl
  · rw [if_neg (by rw [li_0, le_i (by omega) (by omega)]; omega), ap_l h2 h1, x_sp65 hd he, ap_p h1]
def okc (c : Nat) : Bool := decide (c = 0) || (decide (96 ≤ c) && decide (c < 128))
theorem okc_i {c : Nat} (h : okc c = true) : c = 0 ∨ (96 ≤ c ∧ c < 128) := by
  unfold okc at h
  simpa using h
def sp6 (p q r s u v : Nat) : Nat := ap (ap (ap (ap ((p - 96) * 32 + q - 96) r) s) u) v
theorem x_sp {p q r s u v : Nat} (h : (decide (96 ≤ p ∧ p < 128 ∧ 96 ≤ q ∧ q < 128) && (okc r && (okc s && (okc u && okc v)))) = true) : fX9_spelled (nI p) (nI q) (nI r) (nI s) (nI u) (nI v) t = some (lN (sp6 p q r s u v), t) := by
  have h1 : (96 ≤ p ∧ p < 128 ∧ 96 ≤ q ∧ q < 128) ∧ okc r = true ∧ okc s = true ∧ okc u = true ∧ okc v = true := by
    rw [Bool.and_eq_true, Bool.and_eq_true, Bool.and_eq_true, Bool.and_eq_true, decide_eq_true_iff] at h
    exact h
  obtain ⟨⟨p1, p2, p3, p4⟩, hr, hs, hu, hv⟩ := h1
  have hb : ((((Int32.toInt64 (nI p)) - (96 : Int64)) * (32 : Int64)) + (Int32.toInt64 (nI q))) - (96 : Int64) = lN ((p - 96) * 32 + q - 96) := by
    rw [show Int32.toInt64 (nI p) - (96 : Int64) = lN (p - 96) by rw [l_i (by omega), show (96 : Int64) = lN 96 from rfl, lN_sub (by omega)], ap_l p4 p3]
  unfold fX9_spelled sp6
  rw [e_if]
  rcases okc_i hr with hr | ⟨r1, r2⟩
  · subst hr
    rw [if_pos (by decide), hb, x_sp41 (okc_i hs) (okc_i hu) (okc_i hv)]
    rfl
  · rw [if_neg (by rw [li_0, le_i (by omega) (by omega)]; omega), hb, ap_l r2 r1, x_sp41 (okc_i hs) (okc_i hu) (okc_i hv), ap_p r1]
theorem x_lg {w p q : Nat} (hp : 96 ≤ p ∧ p < 128) (hq : okc q = true) : fX9_longer (lN w) (nI p) (nI q) t = some (lN (ap (w * 32 + p - 96) q), t) := by
  unfold fX9_longer
  rw [e_if]
  rcases okc_i hq with h | ⟨h1, h2⟩
  · subst h
    rw [if_pos (by decide), ap_l hp.2 hp.1]; rfl
  · rw [if_neg (by rw [li_0, le_i (by omega) (by omega)]; omega), ap_l hp.2 hp.1, ap_l h2 h1, ap_p h1]; rfl
theorem x_wd (hT : RT t) {p q r s u v z : Nat} (h : (decide (96 ≤ p ∧ p < 128 ∧ 96 ≤ q ∧ q < 128) && (okc r && (okc s && (okc u && okc v)))) = true) (hz : sp6 p q r s u v = encW z) : (bCall (fX9_spelled (nI p) (nI q) (nI r) (nI s) (nI u) (nI v)) (fun x1 => bCallV 9 113 (fX9_isWord 113 x1) (fun x2 => bRetZ x2))) t = some (nI (wb t (encW z)).toNat, t) := by
  rw [x_call (x_sp h), e_callV hT.k, hz, x_call (x_isWord hT _), e_rzb]
theorem x_isWater (hT : RT t) : fX9_isWater 113 t = some (nI (wb t (encW 19)).toNat, t) := x_wd hT (p := 119) (q := 97) (r := 116) (s := 101) (u := 114) (v := 0) (z := 19) (by decide) (by decide +kernel)
theorem x_isBottom (hT : RT t) : fX9_isBottom 113 t = some (nI (wb t (encW 23)).toNat, t) := x_wd hT (p := 98) (q := 111) (r := 116) (s := 116) (u := 111) (v := 109) (z := 23) (by decide) (by decide +kernel)
theorem x_isSinks (hT : RT t) : fX9_isSinks 113 t = some (nI (wb t (encW 24)).toNat, t) := x_wd hT (p := 115) (q := 105) (r := 110) (s := 107) (u := 115) (v := 0) (z := 24) (by decide) (by decide +kernel)
theorem x_isRain (hT : RT t) : fX9_isRain 113 t = some (nI (wb t (encW 25)).toNat, t) := x_wd hT (p := 114) (q := 97) (r := 105) (s := 110) (u := 0) (v := 0) (z := 25) (by decide) (by decide +kernel)
theorem x_isBy (hT : RT t) : fX9_isBy 113 t = some (nI (wb t (encW 26)).toNat, t) := x_wd hT (p := 98) (q := 121) (r := 0) (s := 0) (u := 0) (v := 0) (z := 26) (by decide) (by decide +kernel)
theorem x_isPersonWord (hT : RT t) : fX9_isPersonWord 113 t = some (nI (wb t (encW 20)).toNat, t) := x_wd hT (p := 112) (q := 101) (r := 114) (s := 115) (u := 111) (v := 110) (z := 20) (by decide) (by decide +kernel)
theorem x_isOf (hT : RT t) : fX9_isOf 113 t = some (nI (wb t (encW 27)).toNat, t) := x_wd hT (p := 111) (q := 102) (r := 0) (s := 0) (u := 0) (v := 0) (z := 27) (by decide) (by decide +kernel)
theorem x_isDies (hT : RT t) : fX9_isDies 113 t = some (nI (wb t (encW 28)).toNat, t) := x_wd hT (p := 100) (q := 105) (r := 101) (s := 115) (u := 0) (v := 0) (z := 28) (by decide) (by decide +kernel)
theorem x_isRopeWord (hT : RT t) : fX9_isRopeWord 113 t = some (nI (wb t (encW 21)).toNat, t) := x_wd hT (p := 114) (q := 111) (r := 112) (s := 101) (u := 0) (v := 0) (z := 21) (by decide) (by decide +kernel)
theorem x_isYards (hT : RT t) : fX9_isYards 113 t = some (nI (wb t (encW 7)).toNat, t) := x_wd hT (p := 121) (q := 97) (r := 114) (s := 100) (u := 115) (v := 0) (z := 7) (by decide) (by decide +kernel)
theorem x_isAge (hT : RT t) : fX9_isAge 113 t = some (nI (wb t (encW 10)).toNat, t) := x_wd hT (p := 97) (q := 103) (r := 101) (s := 0) (u := 0) (v := 0) (z := 10) (by decide) (by decide +kernel)
theorem x_isHoly (hT : RT t) : fX9_isHoly 113 t = some (nI (wb t (encW 5)).toNat, t) := x_wd hT (p := 104) (q := 111) (r := 108) (s := 121) (u := 0) (v := 0) (z := 5) (by decide) (by decide +kernel)
theorem x_isSlips (hT : RT t) : fX9_isSlips 113 t = some (nI (wb t (encW 30)).toNat, t) := x_wd hT (p := 115) (q := 108) (r := 105) (s := 112) (u := 115) (v := 0) (z := 30) (by decide) (by decide +kernel)
theorem x_isFlood (hT : RT t) : fX9_isFlood 113 t = some (nI (wb t (encW 22)).toNat, t) := x_wd hT (p := 102) (q := 108) (r := 111) (s := 111) (u := 100) (v := 0) (z := 22) (by decide) (by decide +kernel)
theorem x_isTo (hT : RT t) : fX9_isTo 113 t = some (nI (wb t (encW 33)).toNat, t) := x_wd hT (p := 116) (q := 111) (r := 0) (s := 0) (u := 0) (v := 0) (z := 33) (by decide) (by decide +kernel)
theorem x_isIf (hT : RT t) : fX9_isIf 113 t = some (nI (wb t (encW 0)).toNat, t) := x_wd hT (p := 105) (q := 102) (r := 0) (s := 0) (u := 0) (v := 0) (z := 0) (by decide) (by decide +kernel)
theorem x_isGive (hT : RT t) : fX9_isGive 113 t = some (nI (wb t (encW 1)).toNat, t) := x_wd hT (p := 103) (q := 105) (r := 118) (s := 101) (u := 0) (v := 0) (z := 1) (by decide) (by decide +kernel)
theorem x_isOr (hT : RT t) : fX9_isOr 113 t = some (nI (wb t (encW 3)).toNat, t) := x_wd hT (p := 111) (q := 114) (r := 0) (s := 0) (u := 0) (v := 0) (z := 3) (by decide) (by decide +kernel)
theorem x_isAnd (hT : RT t) : fX9_isAnd 113 t = some (nI (wb t (encW 2)).toNat, t) := x_wd hT (p := 97) (q := 110) (r := 100) (s := 0) (u := 0) (v := 0) (z := 2) (by decide) (by decide +kernel)
theorem x_isNot (hT : RT t) : fX9_isNot 113 t = some (nI (wb t (encW 4)).toNat, t) := x_wd hT (p := 110) (q := 111) (r := 116) (s := 0) (u := 0) (v := 0) (z := 4) (by decide) (by decide +kernel)
theorem x_caseWord (hT : RT t) : fX9_caseWord 113 t = some (oI (fq (fun k => wb t (encW (5 + k))) 0 8), t) := by
  have e6 : fX9_longer (lN (sp6 114 101 97 99 104 101)) (nI 115) (nI 0) t = some (lN (encW 6), t) := by
    rw [x_lg ⟨by decide, by decide⟩ (by decide)]
    rfl
  unfold fX9_caseWord
  rw [e_callV hT.k, x_call (x_isHoly hT), e_if, fq_s]
  cases h0 : wb t (encW (5 + 0)) with
  | true => (try rw [show wb t (encW 5) = true from h0]); rw [if_neg (by decide), if_pos rfl]; rfl
  | false =>
  (try rw [show wb t (encW 5) = false from h0]); rw [if_pos (by decide), if_neg (by decide), fq_s]
  show bCall (fX9_spelled (nI 114) (nI 101) (nI 97) (nI 99) (nI 104) (nI 101)) _ t = _
  rw [x_call (x_sp (by decide))]
  show bCall (fX9_longer _ (nI 115) (nI 0)) _ t = _
  rw [x_call e6, e_callV hT.k, x_call (x_isWord hT _), e_if]
  cases h1 : wb t (encW (5 + (0 + 1))) with
  | true => (try rw [show wb t (encW 6) = true from h1]); rw [if_neg (by decide), if_pos rfl]; rfl
  | false =>
  (try rw [show wb t (encW 6) = false from h1]); rw [if_pos (by decide), if_neg (by decide), fq_s, e_callV hT.k, x_call (x_isYards hT), e_if]
  cases h2 : wb t (encW (5 + (0 + 1 + 1))) with
  | true => (try rw [show wb t (encW 7) = true from h2]); rw [if_neg (by decide), if_pos rfl]; rfl
  | false =>
  (try rw [show wb t (encW 7) = false from h2]); rw [if_pos (by decide), if_neg (by decide), fq_s]
  show bCall (fX9_spelled (nI 114) (nI 101) (nI 97) (nI 99) (nI 104) (nI 0)) _ t = _
  rw [x_call (x_sp (by decide)), e_callV hT.k, show sp6 114 101 97 99 104 0 = encW 8 by decide +kernel, x_call (x_isWord hT _), e_if]
  cases h3 : wb t (encW (5 + (0 + 1 + 1 + 1))) with
  | true => (try rw [show wb t (encW 8) = true from h3]); rw [if_neg (by decide), if_pos rfl]; rfl
  | false =>
  (try rw [show wb t (encW 8) = false from h3]); rw [if_pos (by decide), if_neg (by decide), fq_s]
  show bCall (fX9_spelled (nI 107) (nI 110) (nI 111) (nI 116) (nI 115) (nI 0)) _ t = _
  rw [x_call (x_sp (by decide)), e_callV hT.k, show sp6 107 110 111 116 115 0 = encW 9 by decide +kernel, x_call (x_isWord hT _), e_if]
  cases h4 : wb t (encW (5 + (0 + 1 + 1 + 1 + 1))) with
  | true => (try rw [show wb t (encW 9) = true from h4]); rw [if_neg (by decide), if_pos rfl]; rfl
  | false =>
  (try rw [show wb t (encW 9) = false from h4]); rw [if_pos (by decide), if_neg (by decide), fq_s, e_callV hT.k, x_call (x_isAge hT), e_if]
  cases h5 : wb t (encW (5 + (0 + 1 + 1 + 1 + 1 + 1))) with
  | true => (try rw [show wb t (encW 10) = true from h5]); rw [if_neg (by decide), if_pos rfl]; rfl
  | false =>
  (try rw [show wb t (encW 10) = false from h5]); rw [if_pos (by decide), if_neg (by decide), fq_s]
  show bCall (fX9_spelled (nI 104) (nI 101) (nI 105) (nI 114) (nI 115) (nI 0)) _ t = _
  rw [x_call (x_sp (by decide)), e_callV hT.k, show sp6 104 101 105 114 115 0 = encW 11 by decide +kernel, x_call (x_isWord hT _), e_if]
  cases h6 : wb t (encW (5 + (0 + 1 + 1 + 1 + 1 + 1 + 1))) with
  | true => (try rw [show wb t (encW 11) = true from h6]); rw [if_neg (by decide), if_pos rfl]; rfl
  | false =>
  (try rw [show wb t (encW 11) = false from h6]); rw [if_pos (by decide), if_neg (by decide), fq_s]
  show bCall (fX9_spelled (nI 121) (nI 101) (nI 97) (nI 114) (nI 0) (nI 0)) _ t = _
  rw [x_call (x_sp (by decide)), e_callV hT.k, show sp6 121 101 97 114 0 0 = encW 12 by decide +kernel, x_call (x_isWord hT _), e_if]
  cases h7 : wb t (encW (5 + (0 + 1 + 1 + 1 + 1 + 1 + 1 + 1))) with
  | true => (try rw [show wb t (encW 12) = true from h7]); rw [if_neg (by decide), if_pos rfl]; rfl
  | false =>
  (try rw [show wb t (encW 12) = false from h7]); rw [if_pos (by decide), if_neg (by decide)]
  rfl
theorem x_whomWord (hT : RT t) : fX9_whomWord 113 t = some (oI (fq (fun k => wb t (encW (13 + k))) 0 5), t) := by
  have e14 : fX9_longer (lN (sp6 121 111 117 110 103 101)) (nI 115) (nI 116) t = some (lN (encW 14), t) := by
    rw [x_lg ⟨by decide, by decide⟩ (by decide)]
    rfl
  have e15 : fX9_longer (lN (sp6 112 111 111 114 101 115)) (nI 116) (nI 0) t = some (lN (encW 15), t) := by
    rw [x_lg ⟨by decide, by decide⟩ (by decide)]
    rfl
  unfold fX9_whomWord
  rw [fq_s]
  show bCall (fX9_spelled (nI 101) (nI 108) (nI 100) (nI 101) (nI 115) (nI 116)) _ t = _
  rw [x_call (x_sp (by decide)), e_callV hT.k, show sp6 101 108 100 101 115 116 = encW 13 by decide +kernel, x_call (x_isWord hT _), e_if]
  cases h0 : wb t (encW (13 + 0)) with
  | true => (try rw [show wb t (encW 13) = true from h0]); rw [if_neg (by decide), if_pos rfl]; rfl
  | false =>
  (try rw [show wb t (encW 13) = false from h0]); rw [if_pos (by decide), if_neg (by decide), fq_s]
  show bCall (fX9_spelled (nI 121) (nI 111) (nI 117) (nI 110) (nI 103) (nI 101)) _ t = _
  rw [x_call (x_sp (by decide))]
  show bCall (fX9_longer _ (nI 115) (nI 116)) _ t = _
  rw [x_call e14, e_callV hT.k, x_call (x_isWord hT _), e_if]
  cases h1 : wb t (encW (13 + (0 + 1))) with
  | true => (try rw [show wb t (encW 14) = true from h1]); rw [if_neg (by decide), if_pos rfl]; rfl
  | false =>
  (try rw [show wb t (encW 14) = false from h1]); rw [if_pos (by decide), if_neg (by decide), fq_s]
  show bCall (fX9_spelled (nI 112) (nI 111) (nI 111) (nI 114) (nI 101) (nI 115)) _ t = _
  rw [x_call (x_sp (by decide))]
  show bCall (fX9_longer _ (nI 116) (nI 0)) _ t = _
  rw [x_call e15, e_callV hT.k, x_call (x_isWord hT _), e_if]
  cases h2 : wb t (encW (13 + (0 + 1 + 1))) with
  | true => (try rw [show wb t (encW 15) = true from h2]); rw [if_neg (by decide), if_pos rfl]; rfl
  | false =>
  (try rw [show wb t (encW 15) = false from h2]); rw [if_pos (by decide), if_neg (by decide), fq_s]
  show bCall (fX9_spelled (nI 101) (nI 97) (nI 99) (nI 104) (nI 0) (nI 0)) _ t = _
  rw [x_call (x_sp (by decide)), e_callV hT.k, show sp6 101 97 99 104 0 0 = encW 16 by decide +kernel, x_call (x_isWord hT _), e_if]
  cases h3 : wb t (encW (13 + (0 + 1 + 1 + 1))) with
  | true => (try rw [show wb t (encW 16) = true from h3]); rw [if_neg (by decide), if_pos rfl]; rfl
  | false =>
  (try rw [show wb t (encW 16) = false from h3]); rw [if_pos (by decide), if_neg (by decide), fq_s]
  show bCall (fX9_spelled (nI 119) (nI 101) (nI 108) (nI 108) (nI 0) (nI 0)) _ t = _
  rw [x_call (x_sp (by decide)), e_callV hT.k, show sp6 119 101 108 108 0 0 = encW 17 by decide +kernel, x_call (x_isWord hT _), e_if]
  cases h4 : wb t (encW (13 + (0 + 1 + 1 + 1 + 1))) with
  | true => (try rw [show wb t (encW 17) = true from h4]); rw [if_neg (by decide), if_pos rfl]; rfl
  | false =>
  (try rw [show wb t (encW 17) = false from h4]); rw [if_pos (by decide), if_neg (by decide)]
  rfl
end RW2

/-! FIELDS, ARRAYS, NEW CELLS -/
theorem m_cl : ∀ k, k < 10 → vwCl[k]? = some (mRn k, mTt k, mN k)
  | 0, _ => rfl | 1, _ => rfl | 2, _ => rfl | 3, _ => rfl | 4, _ => rfl | 5, _ => rfl | 6, _ => rfl | 7, _ => rfl | 8, _ => rfl | 9, _ => rfl
  | k + 10, h => absurd h (by omega)
theorem m_in : ∀ k, k < 10 → ∀ w ∈ u_ws (mRn k) (mTt k) (mN k), w ∈ TB
  | 0, _ => tb_inX0 | 1, _ => tb_inX1 | 2, _ => tb_inX2 | 3, _ => tb_inX3 | 4, _ => tb_inX4 | 5, _ => tb_inX5 | 6, _ => tb_inX6 | 7, _ => tb_inX7 | 8, _ => tb_inX8 | 9, _ => tb_inX9
  | k + 10, h => absurd h (by omega)
theorem m_ty : ∀ k, k < 10 → ∀ j, j < mN k → parseFieldDescriptor (mTt k j).2.2.1 = some (mTy k j)
  | 0, _ => tyX0_ok | 1, _ => tyX1_ok | 2, _ => tyX2_ok | 3, _ => tyX3_ok | 4, _ => tyX4_ok | 5, _ => tyX5_ok | 6, _ => tyX6_ok | 7, _ => tyX7_ok | 8, _ => tyX8_ok | 9, _ => tyX9_ok
  | k + 10, h => absurd h (by omega)
theorem m_nm : ∀ k, k < 10 → ∀ a, a < mN k → ∀ b, b < mN k → a ≠ b → (mTt k a).2.1 ≠ (mTt k b).2.1
  | 0, _ => nmX0 | 1, _ => nmX1 | 2, _ => nmX2 | 3, _ => nmX3 | 4, _ => nmX4 | 5, _ => nmX5 | 6, _ => nmX6 | 7, _ => nmX7 | 8, _ => nmX8 | 9, _ => nmX9
  | k + 10, h => absurd h (by omega)
def mFk (ty : FieldType) : Nat := match ty with
  | .long => 1
  | .object _ => 2
  | .array _ => 2
  | .float => 3
  | .double => 3
  | _ => 0
theorem m_fk : ∀ k, k < 10 → ∀ j, j < mN k → mFk (mTy k j) < 3 := by decide +kernel
theorem mF_I {v : mE} {s : mS} {a j : Nat} {ty : FieldType} (h : mFk ty = 0) : mF v s a j ty = .int (sI s a j) := by
  cases ty <;> first | rfl | cases h
theorem mF_L {v : mE} {s : mS} {a j : Nat} {ty : FieldType} (h : mFk ty = 1) : mF v s a j ty = .long (sL s a j) := by
  cases ty <;> first | rfl | cases h
theorem mF_R {v : mE} {s : mS} {a j : Nat} {ty : FieldType} (h : mFk ty = 2) : mF v s a j ty = tv v (vR (sP s a j)) := by
  cases ty <;> first | rfl | cases h
abbrev mFs (v : mE) (s : mS) (a k : Nat) : List Value := (List.range (mN k)).map (fun j => mF v s a j (mTy k j))
theorem mC_o {v : mE} {s : mS} {a k : Nat} (hk : k < 10) (h : (sH s a).1 = k) : mC v s a = .inr (k, mFs v s a k) := by
  unfold mC
  rw [h, if_pos hk]
theorem mFs_at {v : mE} {s : mS} {a k j : Nat} (h : j < mN k) : (mFs v s a k)[j]? = some (mF v s a j (mTy k j)) := by
  show ((List.range (mN k)).map _)[j]? = _
  rw [List.getElem?_map, List.getElem?_range h]
  rfl
theorem mFs_len {v : mE} {s : mS} {a k : Nat} : (mFs v s a k).length = mN k := by simp
theorem mC_i {v : mE} {s : mS} {a k : Nat} (hk : k = 10 ∨ k = 11 ∨ k = 13) (h : (sH s a).1 = k) : mC v s a = .inl (eA v k, (sH s a).2, .inl (sI s a)) := by
  unfold mC
  rw [h, if_neg (by omega), if_neg (by omega), if_pos (by omega)]
theorem mC_l {v : mE} {s : mS} {a : Nat} (h : (sH s a).1 = 12) : mC v s a = .inl (eA v 12, (sH s a).2, .inr (.inl (sL s a))) := by
  unfold mC
  rw [h]
  rfl
theorem mC_q {v : mE} {s : mS} {a k : Nat} (hk : k = 14 ∨ k = 15 ∨ k = 16) (h : (sH s a).1 = k) : mC v s a = .inl (eA v k, (sH s a).2, .inr (.inr (.inr (.inr (fun i => mr v (sP s a i)))))) := by
  unfold mC
  rw [h, if_neg (by omega), if_neg (by omega), if_neg (by omega)]
/-- what a cell is depends on its own rows alone -/
theorem mC_eq {v : mE} {s t : mS} {b : Nat} (hI : sI t b = sI s b) (hL : sL t b = sL s b) (hP : sP t b = sP s b) (hH : sH t b = sH s b) : mC v t b = mC v s b := by
  unfold mC
  rw [hH]
  split
  · congr 2
    apply List.map_congr_left
    intro j _
    generalize mTy (sH s b).1 j = ty
    cases ty <;> simp only [mF, hI, hL, hP]
  · rw [hI, hL, hP]
theorem mR_set {v : mE} {s t : mS} {H H1 : Heap} {a : Nat} (hR : mR v s H) (h0 : 0 < a) (h1 : a ≤ sZ s) (hz : sZ t = sZ s) (hH : sH t = sH s) (ho : ∀ b, b ≠ a → mC v t b = mC v s b) (he : va_at (eD v) vwCl (eB v + a, mC v t a) H1) (z : H1.size = H.size) (oq : ∀ q, q ≠ eB v + a → H1[q]? = H[q]?) : mR v t H1 := by
  refine ⟨?_, by rw [z, hz]; exact hR.2.1, by rw [hH, hz]; exact hR.2.2⟩
  rw [mWl_set h0 hz ho]
  exact hR.1.set mWl_D (mWl_at h0 h1) he oq
theorem mR_push {v : mE} {s t : mS} {H H1 : Heap} (hR : mR v s H) (hz : sZ t = sZ s + 1) (ho : ∀ b, 0 < b → b ≤ sZ s → mC v t b = mC v s b) (hv : ∀ a, (sH t a).1 < 17 → 0 < a ∧ a ≤ sZ t) (he : va_at (eD v) vwCl (eB v + (sZ s + 1), mC v t (sZ s + 1)) H1) (z : H1.size = H.size + 1) (oq : ∀ q, q < H.size → H1[q]? = H[q]?) : mR v t H1 := by
  refine ⟨?_, by rw [z, hz, hR.2.1]; omega, hv⟩
  rw [mWl_push hz ho]
  refine (hR.1.kept (fun k q hq => oq q.1 ((hR.1 k q hq).lt))).app (fun k q hq => ?_)
  have hk : k < 1 := (List.getElem?_eq_some_iff.mp hq).1
  rw [show k = 0 by omega] at hq
  cases hq
  exact he
def wI (s : mS) (a j : Nat) (x : Int32) : mS := (fun b i => if b = a ∧ i = j then x else sI s b i, s.2)
def wL (s : mS) (a j : Nat) (x : Int64) : mS := (s.1, fun b i => if b = a ∧ i = j then x else sL s b i, s.2.2)
def wP (s : mS) (a j : Nat) (x : Nat) : mS := (s.1, s.2.1, fun b i => if b = a ∧ i = j then x else sP s b i, s.2.2.2)
/-- one cell more, all its places 0 -/
def wN (s : mS) (k n : Nat) : mS := (fun b i => if b = sZ s + 1 then 0 else sI s b i, fun b i => if b = sZ s + 1 then 0 else sL s b i, fun b i => if b = sZ s + 1 then 0 else sP s b i, fun b => if b = sZ s + 1 then (k, n) else sH s b, sZ s + 1, sW s + n)
theorem wI_ne {v : mE} {s : mS} {a j : Nat} {x : Int32} {b : Nat} (h : b ≠ a) : mC v (wI s a j x) b = mC v s b := mC_eq (by funext i; simp [wI, sI, h]) rfl rfl rfl
theorem wL_ne {v : mE} {s : mS} {a j : Nat} {x : Int64} {b : Nat} (h : b ≠ a) : mC v (wL s a j x) b = mC v s b := mC_eq rfl (by funext i; simp [wL, sL, h]) rfl rfl
theorem wP_ne {v : mE} {s : mS} {a j : Nat} {x : Nat} {b : Nat} (h : b ≠ a) : mC v (wP s a j x) b = mC v s b := mC_eq rfl rfl (by funext i; simp [wP, sP, h]) rfl
theorem mFs_set {v : mE} {s t : mS} {a k j : Nat} {y : Value} (hj : j < mN k) (h1 : mF v t a j (mTy k j) = y) (h2 : ∀ i, i ≠ j → mF v t a i (mTy k i) = mF v s a i (mTy k i)) : mFs v t a k = (mFs v s a k).set j y := by
  apply List.ext_getElem?
  intro i
  rw [List.getElem?_set]
  by_cases hi : i < mN k
  · rw [mFs_at hi]
    by_cases h : j = i
    · subst h
      rw [if_pos rfl, if_pos (by rw [mFs_len]; exact hj), h1]
    · rw [if_neg h, mFs_at hi, h2 i (fun q => h q.symm)]
  · rw [List.getElem?_eq_none (by rw [mFs_len]; omega)]
    by_cases h : j = i
    · omega
    · rw [if_neg h, List.getElem?_eq_none (by rw [mFs_len]; omega)]
theorem mF_cI {v : mE} {s t : mS} {a i : Nat} {ty : FieldType} (hI : sI t a i = sI s a i) (hL : sL t a i = sL s a i) (hP : sP t a i = sP s a i) : mF v t a i ty = mF v s a i ty := by
  cases ty <;> simp only [mF, hI, hL, hP]
section RZH
variable {v : mE} {own : String} {cc : ByteArray} {nL : Nat} {ret : Option FieldType} {ini : Bool} {α : Type} {emb : α → Option mV} {d pc : Nat} {lv lv' : List (Nat × mV)} {st st' : List mV} {mm : mM α}
def bGI (k a j : Nat) {α : Type} (f : Int32 → mM α) : mM α := fun s => if (sH s a).1 = k then f (sI s a j) s else none
def bGL (k a j : Nat) {α : Type} (f : Int64 → mM α) : mM α := fun s => if (sH s a).1 = k then f (sL s a j) s else none
def bGR (k a j : Nat) {α : Type} (f : Nat → mM α) : mM α := fun s => if (sH s a).1 = k then f (sP s a j) s else none
def fOk (k j t : Nat) : Bool := Nat.blt k 10 && Nat.blt j (mN k) && Nat.beq (mFk (mTy k j)) t
theorem fOk_k {k j t : Nat} (h : fOk k j t = true) : k < 10 ∧ j < mN k ∧ mFk (mTy k j) = t := by
  unfold fOk at h
  rw [Bool.and_eq_true, Bool.and_eq_true] at h
  exact ⟨Nat.le_of_ble_eq_true h.1.1, Nat.le_of_ble_eq_true h.1.2, Nat.eq_of_beq_eq_true h.2⟩
theorem rz_gI {k a j i : Nat} {f : Int32 → mM α} (q : Nat) (hd : decode cc pc = .ok (.getfield i, 3)) (hq : pc + 3 = q) (ho : fOk k j 0 = true) (hw : Cond.fieldLink own i (mTt k j).1 (mTt k j).2.1 (mTt k j).2.2.1 ∈ TB) (kk : ∀ x, Rz v own cc nL ret ini emb d q lv (vI x :: st) (f x)) : Rz v own cc nL ret ini emb d pc lv (vR a :: st) (bGI k a j f) := by
  subst hq
  obtain ⟨hk, hj, ht⟩ := fOk_k ho
  intro σ σ' r hm
  unfold bGI at hm
  by_cases hs : (sH σ a).1 = k
  · rw [if_pos hs] at hm
    obtain ⟨h0, h1⟩ := kk _ σ σ' r hm
    refine ⟨h0, fun p e R s m args below meth c H locs cells slots ls X hR hS hf hl hc hss hv => ?_⟩
    obtain ⟨g0, g1⟩ := hR.2.2 a (by omega)
    rw [List.map_cons, tv_R g0]
    have hcell := mWl_at (v := v) g0 g1
    rw [mC_o hk hs] at hcell
    exact va_get (v := tv v (vI (sI σ a j))) X.1 X.2.1 X.2.2.2.2.1 (m_in k hk) X.2.2.2.1 X.2.2.2.2.2.2.2.2.1 hR.1 (a - 1) hcell (m_cl k hk) j hj (X.2.2.2.2.1 _ hw) (fun _ h => h) (by rw [mFs_at hj, mF_I ht]; try rfl) hd (h1 p e R s m args below meth c H locs cells slots ls X hR hS hf hl hc hss hv)
  · rw [if_neg hs] at hm; cases hm
theorem rz_gL {k a j i : Nat} {f : Int64 → mM α} (q : Nat) (hd : decode cc pc = .ok (.getfield i, 3)) (hq : pc + 3 = q) (ho : fOk k j 1 = true) (hw : Cond.fieldLink own i (mTt k j).1 (mTt k j).2.1 (mTt k j).2.2.1 ∈ TB) (kk : ∀ x, Rz v own cc nL ret ini emb d q lv (vL x :: st) (f x)) : Rz v own cc nL ret ini emb d pc lv (vR a :: st) (bGL k a j f) := by
  subst hq
  obtain ⟨hk, hj, ht⟩ := fOk_k ho
  intro σ σ' r hm
  unfold bGL at hm
  by_cases hs : (sH σ a).1 = k
  · rw [if_pos hs] at hm
    obtain ⟨h0, h1⟩ := kk _ σ σ' r hm
    refine ⟨h0, fun p e R s m args below meth c H locs cells slots ls X hR hS hf hl hc hss hv => ?_⟩
    obtain ⟨g0, g1⟩ := hR.2.2 a (by omega)
    rw [List.map_cons, tv_R g0]
    have hcell := mWl_at (v := v) g0 g1
    rw [mC_o hk hs] at hcell
    exact va_get (v := tv v (vL (sL σ a j))) X.1 X.2.1 X.2.2.2.2.1 (m_in k hk) X.2.2.2.1 X.2.2.2.2.2.2.2.2.1 hR.1 (a - 1) hcell (m_cl k hk) j hj (X.2.2.2.2.1 _ hw) (fun _ h => h) (by rw [mFs_at hj, mF_L ht]; try rfl) hd (h1 p e R s m args below meth c H locs cells slots ls X hR hS hf hl hc hss hv)
  · rw [if_neg hs] at hm; cases hm
theorem rz_gR {k a j i : Nat} {f : Nat → mM α} (q : Nat) (hd : decode cc pc = .ok (.getfield i, 3)) (hq : pc + 3 = q) (ho : fOk k j 2 = true) (hw : Cond.fieldLink own i (mTt k j).1 (mTt k j).2.1 (mTt k j).2.2.1 ∈ TB) (kk : ∀ x, Rz v own cc nL ret ini emb d q lv (vR x :: st) (f x)) : Rz v own cc nL ret ini emb d pc lv (vR a :: st) (bGR k a j f) := by
  subst hq
  obtain ⟨hk, hj, ht⟩ := fOk_k ho
  intro σ σ' r hm
  unfold bGR at hm
  by_cases hs : (sH σ a).1 = k
  · rw [if_pos hs] at hm
    obtain ⟨h0, h1⟩ := kk _ σ σ' r hm
    refine ⟨h0, fun p e R s m args below meth c H locs cells slots ls X hR hS hf hl hc hss hv => ?_⟩
    obtain ⟨g0, g1⟩ := hR.2.2 a (by omega)
    rw [List.map_cons, tv_R g0]
    have hcell := mWl_at (v := v) g0 g1
    rw [mC_o hk hs] at hcell
    exact va_get (v := tv v (vR (sP σ a j))) X.1 X.2.1 X.2.2.2.2.1 (m_in k hk) X.2.2.2.1 X.2.2.2.2.2.2.2.2.1 hR.1 (a - 1) hcell (m_cl k hk) j hj (X.2.2.2.2.1 _ hw) (fun _ h => h) (by rw [mFs_at hj, mF_R ht]; try rfl) hd (h1 p e R s m args below meth c H locs cells slots ls X hR hS hf hl hc hss hv)
  · rw [if_neg hs] at hm; cases hm
/-- a store into a field, on the machine -/
theorem mz_put {p : Program} {e : Env} {R : Room} {s : State} {m : MethodId} {args : Array Value} {below : List Frame} {meth : Method} {c : Code} {H : Heap} {locs : List Loc} {cells slots : Nat} {ls : Array Slot} {Q : State → Prop} {rest : List Value} {i k a j : Nat} {x : mV} {σ t : mS} (X : mX v own cc nL ret ini p s m args meth c) (hd : decode cc pc = .ok (.putfield i, 3)) (hk : k < 10) (hj : j < mN k) (hw : Cond.fieldLink own i (mTt k j).1 (mTt k j).2.1 (mTt k j).2.2.1 ∈ TB) (hfin : (mTt k j).2.2.2 = false ∨ ((mTt k j).2.2.2 = true ∧ ini = true ∧ (mTt k j).1 = own))
    (hn : narrow (mTy k j) (tv v x) = tv v x) (hfit : fits (mTy k j) (tv v x) = true) (hs : (sH σ a).1 = k) (hR : mR v σ H) (hS : va_S (mA v) s.heap H locs) (hz : sZ t = sZ σ) (hH : sH t = sH σ) (ho : ∀ b, b ≠ a → mC v t b = mC v σ b) (ha : mFs v t a k = (mFs v σ a k).set j (tv v x))
    (w : ∀ (H1 : Heap) (locs1 : List Loc), mR v t H1 → va_S (mA v) s.heap H1 locs1 → W p (eLn v) e R s m args below meth c H1 locs1 cells slots Q (F0 m (pc + 3) ls rest)) : W p (eLn v) e R s m args below meth c H locs cells slots Q (F0 m pc ls (tv v x :: tv v (vR a) :: rest)) := by
  obtain ⟨g0, g1⟩ := hR.2.2 a (by omega)
  rw [tv_R g0]
  have he := mWl_at (v := v) g0 g1
  rw [mC_o hk hs] at he
  have hts := X.2.2.2.2.1
  have hin := m_in k hk
  have hK := X.2.2.2.2.2.2.2.2.1
  have hc := m_cl k hk
  have hown := X.2.2.2.1
  have hap := va_apart (own := own) hts hin (mTy k) (m_ty k hk) (m_nm k hk) hK hc
  obtain ⟨r, h1, cell, q1, q2, q3, q4⟩ := hR.1 (a - 1) _ he
  have hr : r = (mRn k, mTt k, mN k) := Option.some.inj (h1.symm.trans hc)
  subst hr
  obtain ⟨hSl, hfc, kC, hkC, hkind⟩ := hK.1 k _ hc
  obtain ⟨cf, kf, fi, f, hi, hsl⟩ := hSl j hj
  have hlay := hts _ (hin _ (u_in_lay hj))
  unfold u_lay at hlay
  have hst := (u_facts hfc hkC (u_lays hts hin hj) hi).1
  have fin : ∀ H' : Heap, H'[eB v + a]? = some (cell.setSlot f.slot (tv v x)) → H'.size = H.size → (∀ q, q ≠ eB v + a → H'[q]? = H[q]?) → mR v t H' ∧ va_S (mA v) s.heap H' (locs ++ [⟨eB v + a, f.slot⟩]) := by
    intro H' e1 e2 e3
    rw [hsl] at e1
    have hat : va_at (eD v) vwCl (eB v + a, mC v t a) H' := by
      rw [mC_o hk (by rw [hH]; exact hs), ha]
      exact ⟨_, hc, t_OB.to (V := updV (vp_V (mFs v σ a k)) j (tv v x)) ⟨_, e1, q2, q3, t_set q4 hap hj _⟩ (fun i _ => vp_updV_set (by rw [mFs_len]; exact hj) _ i)⟩
    exact ⟨mR_set hR g0 g1 hz hH ho hat e2 e3, hS.put e2 e3 (show eB v < eB v + a by omega)⟩
  rcases hfin with hfin | ⟨hfin, hini, hdecl⟩
  · rw [if_neg (by rw [hfin]; decide)] at hlay
    have h6 := u_store hfc hkC hkind hlay hi (m_ty k hk j hj) hn hfit
    refine W.putK X.1 X.2.1 (f := f) ⟨hown, hts _ hw, ⟨_, _, _, hi⟩, hst⟩ (by rw [q2]; exact h6) q1 q3 (by rw [hsl]; exact k2_hasslot (q4 j hj)) rfl rfl hd fun H' e1 e2 e3 => ?_
    obtain ⟨f1, f2⟩ := fin H' e1 e2 e3
    exact w H' _ f1 f2
  · rw [if_pos hfin] at hlay
    have hcf : m.cls = cf := by
      obtain ⟨_, _, c', _, _, _, -, -, hf', -, -, -, hown2, -⟩ := Cond.laysFinal_spec hlay
      have e1 : c' = cf := by have := hi.symm.trans hf'; simp at this; exact this.1.symm
      rw [hdecl] at hown2
      rw [← e1]; exact Option.some.inj (hown.symm.trans hown2)
    have h6 := u_fits hfc hkC hkind (Or.inr hlay) hi (m_ty k hk j hj) hn hfit
    refine W.putFinK X.1 X.2.1 hown (hts _ hw) hi hst hcf (X.2.2.2.2.2.2.2.1 hini) (by rw [q2]; exact h6) q1 q3 (by rw [hsl]; exact k2_hasslot (q4 j hj)) rfl rfl hd fun H' e1 e2 e3 => ?_
    obtain ⟨f1, f2⟩ := fin H' e1 e2 e3
    exact w H' _ f1 f2
def bPI (k a j : Nat) (x : Int32) {α : Type} (m : mM α) : mM α := fun s => if (sH s a).1 = k then m (wI s a j x) else none
/-- into a field of truth values -/
def bPZ (k a j : Nat) (x : Int32) {α : Type} (m : mM α) : mM α := fun s => if (sH s a).1 = k ∧ (x = 0 ∨ x = 1) then m (wI s a j x) else none
def bPL (k a j : Nat) (x : Int64) {α : Type} (m : mM α) : mM α := fun s => if (sH s a).1 = k then m (wL s a j x) else none
def bPR (k a j : Nat) (x : Nat) {α : Type} (m : mM α) : mM α := fun s => if (sH s a).1 = k then m (wP s a j x) else none
/-- may the field be written here: it isn't final, or this is its class's constructor -/
def pOk (own : String) (ini : Bool) (k j : Nat) : Bool := !(mTt k j).2.2.2 || (ini && (mTt k j).1 == own)
theorem pOk_k {own : String} {ini : Bool} {k j : Nat} (h : pOk own ini k j = true) : (mTt k j).2.2.2 = false ∨ ((mTt k j).2.2.2 = true ∧ ini = true ∧ (mTt k j).1 = own) := by
  unfold pOk at h
  cases hb : (mTt k j).2.2.2 with
  | false => exact Or.inl rfl
  | true =>
    rw [hb] at h
    simp at h
    exact Or.inr ⟨rfl, h.1, h.2⟩
theorem rz_pI {k a j i : Nat} {x : Int32} (q : Nat) (hd : decode cc pc = .ok (.putfield i, 3)) (hq : pc + 3 = q) (ho : fOk k j 0 = true) (hty : mTy k j = .int) (hp : pOk own ini k j = true) (hw : Cond.fieldLink own i (mTt k j).1 (mTt k j).2.1 (mTt k j).2.2.1 ∈ TB) (kk : Rz v own cc nL ret ini emb d q lv st mm) : Rz v own cc nL ret ini emb d pc lv (vI x :: vR a :: st) (bPI k a j x mm) := by
  subst hq
  obtain ⟨hk, hj, ht⟩ := fOk_k ho
  intro σ σ' r hm
  unfold bPI at hm
  by_cases hs : (sH σ a).1 = k
  · rw [if_pos hs] at hm
    obtain ⟨h0, h1⟩ := kk _ σ' r hm
    refine ⟨h0, fun p e R s m args below meth c H locs cells slots ls X hR hS hf hl hc hss hv => ?_⟩
    exact mz_put (x := vI x) (σ := σ) (t := wI σ a j x) X hd hk hj hw (pOk_k hp) (by rw [hty]; rfl) (by rw [hty]; rfl) hs hR hS rfl rfl (fun b hb => wI_ne hb) (mFs_set hj (by rw [mF_I ht]; simp [wI, sI, sL, sP]; try rfl) (fun i hi => mF_cI (by simp [wI, sI, hi]) (by simp [wI, sL, hi]) (by simp [wI, sP, hi])))
      (fun H1 locs1 hR1 hS1 => h1 p e R s m args below meth c H1 locs1 cells slots ls X hR1 hS1 hf hl hc hss hv)
  · rw [if_neg hs] at hm; cases hm
theorem rz_pZ {k a j i : Nat} {x : Int32} (q : Nat) (hd : decode cc pc = .ok (.putfield i, 3)) (hq : pc + 3 = q) (ho : fOk k j 0 = true) (hty : mTy k j = .boolean) (hp : pOk own ini k j = true) (hw : Cond.fieldLink own i (mTt k j).1 (mTt k j).2.1 (mTt k j).2.2.1 ∈ TB) (kk : Rz v own cc nL ret ini emb d q lv st mm) : Rz v own cc nL ret ini emb d pc lv (vI x :: vR a :: st) (bPZ k a j x mm) := by
  subst hq
  obtain ⟨hk, hj, ht⟩ := fOk_k ho
  intro σ σ' r hm
  unfold bPZ at hm
  by_cases hs : (sH σ a).1 = k ∧ (x = 0 ∨ x = 1)
  · rw [if_pos hs] at hm
    obtain ⟨h0, h1⟩ := kk _ σ' r hm
    refine ⟨h0, fun p e R s m args below meth c H locs cells slots ls X hR hS hf hl hc hss hv => ?_⟩
    exact mz_put (x := vI x) (σ := σ) (t := wI σ a j x) X hd hk hj hw (pOk_k hp) (by rw [hty]; rcases hs.2 with h | h <;> subst h <;> rfl) (by rw [hty]; rcases hs.2 with h | h <;> subst h <;> rfl) hs.1 hR hS rfl rfl (fun b hb => wI_ne hb) (mFs_set hj (by rw [mF_I ht]; simp [wI, sI, sL, sP]; try rfl) (fun i hi => mF_cI (by simp [wI, sI, hi]) (by simp [wI, sL, hi]) (by simp [wI, sP, hi])))
      (fun H1 locs1 hR1 hS1 => h1 p e R s m args below meth c H1 locs1 cells slots ls X hR1 hS1 hf hl hc hss hv)
  · rw [if_neg hs] at hm; cases hm
theorem rz_pL {k a j i : Nat} {x : Int64} (q : Nat) (hd : decode cc pc = .ok (.putfield i, 3)) (hq : pc + 3 = q) (ho : fOk k j 1 = true) (hp : pOk own ini k j = true) (hw : Cond.fieldLink own i (mTt k j).1 (mTt k j).2.1 (mTt k j).2.2.1 ∈ TB) (kk : Rz v own cc nL ret ini emb d q lv st mm) : Rz v own cc nL ret ini emb d pc lv (vL x :: vR a :: st) (bPL k a j x mm) := by
  subst hq
  obtain ⟨hk, hj, ht⟩ := fOk_k ho
  intro σ σ' r hm
  unfold bPL at hm
  by_cases hs : (sH σ a).1 = k
  · rw [if_pos hs] at hm
    obtain ⟨h0, h1⟩ := kk _ σ' r hm
    refine ⟨h0, fun p e R s m args below meth c H locs cells slots ls X hR hS hf hl hc hss hv => ?_⟩
    exact mz_put (x := vL x) (σ := σ) (t := wL σ a j x) X hd hk hj hw (pOk_k hp) (by generalize mTy k j = ty at ht; cases ty <;> first | rfl | cases ht) (by generalize mTy k j = ty at ht; cases ty <;> first | rfl | cases ht) hs hR hS rfl rfl (fun b hb => wL_ne hb) (mFs_set hj (by rw [mF_L ht]; simp [wL, sI, sL, sP]; try rfl) (fun i hi => mF_cI (by simp [wL, sI, hi]) (by simp [wL, sL, hi]) (by simp [wL, sP, hi])))
      (fun H1 locs1 hR1 hS1 => h1 p e R s m args below meth c H1 locs1 cells slots ls X hR1 hS1 hf hl hc hss hv)
  · rw [if_neg hs] at hm; cases hm
theorem rz_pR {k a j i : Nat} {x : Nat} (q : Nat) (hd : decode cc pc = .ok (.putfield i, 3)) (hq : pc + 3 = q) (ho : fOk k j 2 = true) (hp : pOk own ini k j = true) (hw : Cond.fieldLink own i (mTt k j).1 (mTt k j).2.1 (mTt k j).2.2.1 ∈ TB) (kk : Rz v own cc nL ret ini emb d q lv st mm) : Rz v own cc nL ret ini emb d pc lv (vR x :: vR a :: st) (bPR k a j x mm) := by
  subst hq
  obtain ⟨hk, hj, ht⟩ := fOk_k ho
  intro σ σ' r hm
  unfold bPR at hm
  by_cases hs : (sH σ a).1 = k
  · rw [if_pos hs] at hm
    obtain ⟨h0, h1⟩ := kk _ σ' r hm
    refine ⟨h0, fun p e R s m args below meth c H locs cells slots ls X hR hS hf hl hc hss hv => ?_⟩
    exact mz_put (x := vR x) (σ := σ) (t := wP σ a j x) X hd hk hj hw (pOk_k hp) (by generalize mTy k j = ty at ht; rcases tv_ref v x with ⟨y, hy⟩ | hy <;> rw [hy] <;> cases ty <;> first | rfl | cases ht) (by generalize mTy k j = ty at ht; rcases tv_ref v x with ⟨y, hy⟩ | hy <;> rw [hy] <;> cases ty <;> first | rfl | cases ht) hs hR hS rfl rfl (fun b hb => wP_ne hb) (mFs_set hj (by rw [mF_R ht]; simp [wP, sI, sL, sP]; try rfl) (fun i hi => mF_cI (by simp [wP, sI, hi]) (by simp [wP, sL, hi]) (by simp [wP, sP, hi])))
      (fun H1 locs1 hR1 hS1 => h1 p e R s m args below meth c H1 locs1 cells slots ls X hR1 hS1 hf hl hc hss hv)
  · rw [if_neg hs] at hm; cases hm
abbrev inB (i : Int32) (n : Nat) : Prop := ¬ (i < 0 ∨ n ≤ i.toNatClampNeg)
def bAI (k a : Nat) (i : Int32) {α : Type} (f : Int32 → mM α) : mM α := fun s => if (sH s a).1 = k ∧ inB i (sH s a).2 then f (sI s a i.toNatClampNeg) s else none
def bAL (a : Nat) (i : Int32) {α : Type} (f : Int64 → mM α) : mM α := fun s => if (sH s a).1 = 12 ∧ inB i (sH s a).2 then f (sL s a i.toNatClampNeg) s else none
def bAR (k a : Nat) (i : Int32) {α : Type} (f : Nat → mM α) : mM α := fun s => if (sH s a).1 = k ∧ inB i (sH s a).2 then f (sP s a i.toNatClampNeg) s else none
def bLen (k a : Nat) {α : Type} (f : Int32 → mM α) : mM α := fun s => if (sH s a).1 = k then f (Int32.ofNat (sH s a).2) s else none
theorem rz_iald {a : Nat} {i : Int32} {f : Int32 → mM α} (q : Nat) (hd : decode cc pc = .ok (.iaload, 1)) (hq : pc + 1 = q) (kk : ∀ x, Rz v own cc nL ret ini emb d q lv (vI x :: st) (f x)) : Rz v own cc nL ret ini emb d pc lv (vI i :: vR a :: st) (bAI 11 a i f) := by
  subst hq
  intro σ σ' r hm
  unfold bAI at hm
  by_cases hs : (sH σ a).1 = 11 ∧ inB i (sH σ a).2
  · rw [if_pos hs] at hm
    obtain ⟨h0, h1⟩ := kk _ σ σ' r hm
    refine ⟨h0, fun p e R s m args below meth c H locs cells slots ls X hR hS hf hl hc hss hv => ?_⟩
    obtain ⟨g0, g1⟩ := hR.2.2 a (by rw [hs.1]; decide)
    rw [List.map_cons, List.map_cons, tv_R g0]
    have hcell := mWl_at (v := v) g0 g1
    rw [mC_i (by decide) hs.1] at hcell
    exact va_iald X.1 X.2.1 X.2.2.2.2.2.2.2.2.1 hR.1 (a - 1) 1 hcell rfl hs.2 hd (h1 p e R s m args below meth c H locs cells slots ls X hR hS hf hl hc hss hv)
  · rw [if_neg hs] at hm; cases hm
theorem rz_bald {a : Nat} {i : Int32} {f : Int32 → mM α} (q : Nat) (hd : decode cc pc = .ok (.baload, 1)) (hq : pc + 1 = q) (kk : ∀ x, Rz v own cc nL ret ini emb d q lv (vI x :: st) (f x)) : Rz v own cc nL ret ini emb d pc lv (vI i :: vR a :: st) (bAI 10 a i f) := by
  subst hq
  intro σ σ' r hm
  unfold bAI at hm
  by_cases hs : (sH σ a).1 = 10 ∧ inB i (sH σ a).2
  · rw [if_pos hs] at hm
    obtain ⟨h0, h1⟩ := kk _ σ σ' r hm
    refine ⟨h0, fun p e R s m args below meth c H locs cells slots ls X hR hS hf hl hc hss hv => ?_⟩
    obtain ⟨g0, g1⟩ := hR.2.2 a (by rw [hs.1]; decide)
    rw [List.map_cons, List.map_cons, tv_R g0]
    have hcell := mWl_at (v := v) g0 g1
    rw [mC_i (by decide) hs.1] at hcell
    exact va_bald X.1 X.2.1 X.2.2.2.2.2.2.2.2.1 hR.1 (a - 1) 0 hcell rfl hs.2 hd (h1 p e R s m args below meth c H locs cells slots ls X hR hS hf hl hc hss hv)
  · rw [if_neg hs] at hm; cases hm
theorem rz_zald {a : Nat} {i : Int32} {f : Int32 → mM α} (q : Nat) (hd : decode cc pc = .ok (.baload, 1)) (hq : pc + 1 = q) (kk : ∀ x, Rz v own cc nL ret ini emb d q lv (vI x :: st) (f x)) : Rz v own cc nL ret ini emb d pc lv (vI i :: vR a :: st) (bAI 13 a i f) := by
  subst hq
  intro σ σ' r hm
  unfold bAI at hm
  by_cases hs : (sH σ a).1 = 13 ∧ inB i (sH σ a).2
  · rw [if_pos hs] at hm
    obtain ⟨h0, h1⟩ := kk _ σ σ' r hm
    refine ⟨h0, fun p e R s m args below meth c H locs cells slots ls X hR hS hf hl hc hss hv => ?_⟩
    obtain ⟨g0, g1⟩ := hR.2.2 a (by rw [hs.1]; decide)
    rw [List.map_cons, List.map_cons, tv_R g0]
    have hcell := mWl_at (v := v) g0 g1
    rw [mC_i (by decide) hs.1] at hcell
    exact va_zald X.1 X.2.1 X.2.2.2.2.2.2.2.2.1 hR.1 (a - 1) 3 hcell rfl hs.2 hd (h1 p e R s m args below meth c H locs cells slots ls X hR hS hf hl hc hss hv)
  · rw [if_neg hs] at hm; cases hm
theorem rz_lald {a : Nat} {i : Int32} {f : Int64 → mM α} (q : Nat) (hd : decode cc pc = .ok (.laload, 1)) (hq : pc + 1 = q) (kk : ∀ x, Rz v own cc nL ret ini emb d q lv (vL x :: st) (f x)) : Rz v own cc nL ret ini emb d pc lv (vI i :: vR a :: st) (bAL a i f) := by
  subst hq
  intro σ σ' r hm
  unfold bAL at hm
  by_cases hs : (sH σ a).1 = 12 ∧ inB i (sH σ a).2
  · rw [if_pos hs] at hm
    obtain ⟨h0, h1⟩ := kk _ σ σ' r hm
    refine ⟨h0, fun p e R s m args below meth c H locs cells slots ls X hR hS hf hl hc hss hv => ?_⟩
    obtain ⟨g0, g1⟩ := hR.2.2 a (by rw [hs.1]; decide)
    rw [List.map_cons, List.map_cons, tv_R g0]
    have hcell := mWl_at (v := v) g0 g1
    rw [mC_l hs.1] at hcell
    exact va_lald X.1 X.2.1 X.2.2.2.2.2.2.2.2.1 hR.1 (a - 1) 2 hcell rfl hs.2 hd (h1 p e R s m args below meth c H locs cells slots ls X hR hS hf hl hc hss hv)
  · rw [if_neg hs] at hm; cases hm
theorem rz_aald {k a : Nat} {i : Int32} {f : Nat → mM α} (q : Nat) (hd : decode cc pc = .ok (.aaload, 1)) (hq : pc + 1 = q) (hk : k = 14 ∨ k = 15 ∨ k = 16) (kk : ∀ x, Rz v own cc nL ret ini emb d q lv (vR x :: st) (f x)) : Rz v own cc nL ret ini emb d pc lv (vI i :: vR a :: st) (bAR k a i f) := by
  subst hq
  intro σ σ' r hm
  unfold bAR at hm
  by_cases hs : (sH σ a).1 = k ∧ inB i (sH σ a).2
  · rw [if_pos hs] at hm
    obtain ⟨h0, h1⟩ := kk _ σ σ' r hm
    refine ⟨h0, fun p e R s m args below meth c H locs cells slots ls X hR hS hf hl hc hss hv => ?_⟩
    obtain ⟨g0, g1⟩ := hR.2.2 a (by omega)
    rw [List.map_cons, List.map_cons, tv_R g0]
    have hcell := mWl_at (v := v) g0 g1
    rw [mC_q hk hs.1] at hcell
    have w := h1 p e R s m args below meth c H locs cells slots ls X hR hS hf hl hc hss hv
    rcases hk with rfl | rfl | rfl
    · exact va_aldq (C := RX3) X.1 X.2.1 X.2.2.2.2.2.2.2.2.1 hR.1 (a - 1) 4 hcell rfl hs.2 hd w
    · exact va_aldq (C := RX5) X.1 X.2.1 X.2.2.2.2.2.2.2.2.1 hR.1 (a - 1) 5 hcell rfl hs.2 hd w
    · exact va_aldq (C := RX7) X.1 X.2.1 X.2.2.2.2.2.2.2.2.1 hR.1 (a - 1) 6 hcell rfl hs.2 hd w
  · rw [if_neg hs] at hm; cases hm
theorem rz_alen {k a : Nat} {f : Int32 → mM α} (q : Nat) (hd : decode cc pc = .ok (.arraylength, 1)) (hq : pc + 1 = q) (hk : k = 10 ∨ k = 11 ∨ k = 13) (kk : ∀ x, Rz v own cc nL ret ini emb d q lv (vI x :: st) (f x)) : Rz v own cc nL ret ini emb d pc lv (vR a :: st) (bLen k a f) := by
  subst hq
  intro σ σ' r hm
  unfold bLen at hm
  by_cases hs : (sH σ a).1 = k
  · rw [if_pos hs] at hm
    obtain ⟨h0, h1⟩ := kk _ σ σ' r hm
    refine ⟨h0, fun p e R s m args below meth c H locs cells slots ls X hR hS hf hl hc hss hv => ?_⟩
    obtain ⟨g0, g1⟩ := hR.2.2 a (by omega)
    rw [List.map_cons, tv_R g0]
    have hcell := mWl_at (v := v) g0 g1
    rw [mC_i hk hs] at hcell
    have w := h1 p e R s m args below meth c H locs cells slots ls X hR hS hf hl hc hss hv
    rcases hk with rfl | rfl | rfl
    · exact va_alen (ty := .byte) X.1 X.2.1 X.2.2.2.2.2.2.2.2.1 hR.1 (a - 1) 0 hcell rfl rfl hd w
    · exact va_alen (ty := .int) X.1 X.2.1 X.2.2.2.2.2.2.2.2.1 hR.1 (a - 1) 1 hcell rfl rfl hd w
    · exact va_alen (ty := .boolean) X.1 X.2.1 X.2.2.2.2.2.2.2.2.1 hR.1 (a - 1) 3 hcell rfl rfl hd w
  · rw [if_neg hs] at hm; cases hm
def bSI (a : Nat) (i x : Int32) {α : Type} (m : mM α) : mM α := fun s => if (sH s a).1 = 11 ∧ inB i (sH s a).2 then m (wI s a i.toNatClampNeg x) else none
def bSB (a : Nat) (i x : Int32) {α : Type} (m : mM α) : mM α := fun s => if (sH s a).1 = 10 ∧ inB i (sH s a).2 then m (wI s a i.toNatClampNeg x.toInt8.toInt32) else none
def bSZ (a : Nat) (i x : Int32) {α : Type} (m : mM α) : mM α := fun s => if (sH s a).1 = 13 ∧ inB i (sH s a).2 then m (wI s a i.toNatClampNeg (x &&& 1)) else none
def bSL (a : Nat) (i : Int32) (x : Int64) {α : Type} (m : mM α) : mM α := fun s => if (sH s a).1 = 12 ∧ inB i (sH s a).2 then m (wL s a i.toNatClampNeg x) else none
theorem rz_iast {a : Nat} {i : Int32} {x : Int32} (q : Nat) (hd : decode cc pc = .ok (.iastore, 1)) (hq : pc + 1 = q) (kk : Rz v own cc nL ret ini emb d q lv st mm) : Rz v own cc nL ret ini emb d pc lv (vI x :: vI i :: vR a :: st) (bSI a i x mm) := by
  subst hq
  intro σ σ' r hm
  unfold bSI at hm
  by_cases hs : (sH σ a).1 = 11 ∧ inB i (sH σ a).2
  · rw [if_pos hs] at hm
    obtain ⟨h0, h1⟩ := kk _ σ' r hm
    refine ⟨h0, fun p e R s m args below meth c H locs cells slots ls X hR hS hf hl hc hss hv => ?_⟩
    obtain ⟨g0, g1⟩ := hR.2.2 a (by rw [hs.1]; decide)
    rw [List.map_cons, List.map_cons, List.map_cons, tv_R g0]
    have hcell := mWl_at (v := v) g0 g1
    rw [mC_i (by decide) hs.1] at hcell
    refine W.iast X.1 X.2.1 (hR.1 (a - 1) _ hcell) ((X.2.2.2.2.2.2.2.2.1.2 1 _ rfl).1 _ (fun j => .int (sI σ a j))) (fun q => by cases q) (by show ¬ (i < 0 ∨ (arrV _ _ _).slots.size ≤ _); rw [arrV_size]; exact hs.2) rfl rfl hd fun H1 e1 z oq => ?_
    refine h1 p e R s m args below meth c H1 _ cells slots ls X (mR_set hR g0 g1 rfl rfl (fun b hb => wI_ne hb) ?_ z oq) (hS.put z oq (show eB v < eB v + a by omega)) hf hl hc hss hv
    rw [mC_i (by decide) (show (sH (wI σ a i.toNatClampNeg x) a).1 = 11 from hs.1)]
    show H1[eB v + a]? = some (vp_cell _ _)
    rw [e1, vp_cell_i, vp_cell_i, arrV_store]
    congr 2
    funext j
    by_cases hj : j = i.toNatClampNeg
    · subst hj
      simp [updV, wI, sI, sL]
      try rfl
    · simp [updV, wI, hj, sI, sL]
  · rw [if_neg hs] at hm; cases hm
theorem rz_bast {a : Nat} {i : Int32} {x : Int32} (q : Nat) (hd : decode cc pc = .ok (.bastore, 1)) (hq : pc + 1 = q) (kk : Rz v own cc nL ret ini emb d q lv st mm) : Rz v own cc nL ret ini emb d pc lv (vI x :: vI i :: vR a :: st) (bSB a i x mm) := by
  subst hq
  intro σ σ' r hm
  unfold bSB at hm
  by_cases hs : (sH σ a).1 = 10 ∧ inB i (sH σ a).2
  · rw [if_pos hs] at hm
    obtain ⟨h0, h1⟩ := kk _ σ' r hm
    refine ⟨h0, fun p e R s m args below meth c H locs cells slots ls X hR hS hf hl hc hss hv => ?_⟩
    obtain ⟨g0, g1⟩ := hR.2.2 a (by rw [hs.1]; decide)
    rw [List.map_cons, List.map_cons, List.map_cons, tv_R g0]
    have hcell := mWl_at (v := v) g0 g1
    rw [mC_i (by decide) hs.1] at hcell
    refine W.bast X.1 X.2.1 (hR.1 (a - 1) _ hcell) ((X.2.2.2.2.2.2.2.2.1.2 0 _ rfl).1 _ (fun j => .int (sI σ a j))) (fun q => by cases q) (by show ¬ (i < 0 ∨ (arrV _ _ _).slots.size ≤ _); rw [arrV_size]; exact hs.2) rfl rfl hd fun H1 e1 z oq => ?_
    refine h1 p e R s m args below meth c H1 _ cells slots ls X (mR_set hR g0 g1 rfl rfl (fun b hb => wI_ne hb) ?_ z oq) (hS.put z oq (show eB v < eB v + a by omega)) hf hl hc hss hv
    rw [mC_i (by decide) (show (sH (wI σ a i.toNatClampNeg x.toInt8.toInt32) a).1 = 10 from hs.1)]
    show H1[eB v + a]? = some (vp_cell _ _)
    rw [e1, vp_cell_i, vp_cell_i, arrV_store]
    congr 2
    funext j
    by_cases hj : j = i.toNatClampNeg
    · subst hj
      simp [updV, wI, sI, sL]
      try rfl
    · simp [updV, wI, hj, sI, sL]
  · rw [if_neg hs] at hm; cases hm
theorem rz_zast {a : Nat} {i : Int32} {x : Int32} (q : Nat) (hd : decode cc pc = .ok (.bastore, 1)) (hq : pc + 1 = q) (kk : Rz v own cc nL ret ini emb d q lv st mm) : Rz v own cc nL ret ini emb d pc lv (vI x :: vI i :: vR a :: st) (bSZ a i x mm) := by
  subst hq
  intro σ σ' r hm
  unfold bSZ at hm
  by_cases hs : (sH σ a).1 = 13 ∧ inB i (sH σ a).2
  · rw [if_pos hs] at hm
    obtain ⟨h0, h1⟩ := kk _ σ' r hm
    refine ⟨h0, fun p e R s m args below meth c H locs cells slots ls X hR hS hf hl hc hss hv => ?_⟩
    obtain ⟨g0, g1⟩ := hR.2.2 a (by rw [hs.1]; decide)
    rw [List.map_cons, List.map_cons, List.map_cons, tv_R g0]
    have hcell := mWl_at (v := v) g0 g1
    rw [mC_i (by decide) hs.1] at hcell
    refine W.zast X.1 X.2.1 (hR.1 (a - 1) _ hcell) ((X.2.2.2.2.2.2.2.2.1.2 3 _ rfl).1 _ (fun j => .int (sI σ a j))) (fun q => by cases q) (by show ¬ (i < 0 ∨ (arrV _ _ _).slots.size ≤ _); rw [arrV_size]; exact hs.2) rfl rfl hd fun H1 e1 z oq => ?_
    refine h1 p e R s m args below meth c H1 _ cells slots ls X (mR_set hR g0 g1 rfl rfl (fun b hb => wI_ne hb) ?_ z oq) (hS.put z oq (show eB v < eB v + a by omega)) hf hl hc hss hv
    rw [mC_i (by decide) (show (sH (wI σ a i.toNatClampNeg (x &&& 1)) a).1 = 13 from hs.1)]
    show H1[eB v + a]? = some (vp_cell _ _)
    rw [e1, vp_cell_i, vp_cell_i, arrV_store]
    congr 2
    funext j
    by_cases hj : j = i.toNatClampNeg
    · subst hj
      simp [updV, wI, sI, sL]
      try rfl
    · simp [updV, wI, hj, sI, sL]
  · rw [if_neg hs] at hm; cases hm
theorem rz_last {a : Nat} {i : Int32} {x : Int64} (q : Nat) (hd : decode cc pc = .ok (.lastore, 1)) (hq : pc + 1 = q) (kk : Rz v own cc nL ret ini emb d q lv st mm) : Rz v own cc nL ret ini emb d pc lv (vL x :: vI i :: vR a :: st) (bSL a i x mm) := by
  subst hq
  intro σ σ' r hm
  unfold bSL at hm
  by_cases hs : (sH σ a).1 = 12 ∧ inB i (sH σ a).2
  · rw [if_pos hs] at hm
    obtain ⟨h0, h1⟩ := kk _ σ' r hm
    refine ⟨h0, fun p e R s m args below meth c H locs cells slots ls X hR hS hf hl hc hss hv => ?_⟩
    obtain ⟨g0, g1⟩ := hR.2.2 a (by rw [hs.1]; decide)
    rw [List.map_cons, List.map_cons, List.map_cons, tv_R g0]
    have hcell := mWl_at (v := v) g0 g1
    rw [mC_l hs.1] at hcell
    refine W.last X.1 X.2.1 (hR.1 (a - 1) _ hcell) ((X.2.2.2.2.2.2.2.2.1.2 2 _ rfl).1 _ (fun j => .long (sL σ a j))) (fun q => by cases q) (by show ¬ (i < 0 ∨ (arrV _ _ _).slots.size ≤ _); rw [arrV_size]; exact hs.2) rfl rfl hd fun H1 e1 z oq => ?_
    refine h1 p e R s m args below meth c H1 _ cells slots ls X (mR_set hR g0 g1 rfl rfl (fun b hb => wL_ne hb) ?_ z oq) (hS.put z oq (show eB v < eB v + a by omega)) hf hl hc hss hv
    rw [mC_l (show (sH (wL σ a i.toNatClampNeg x) a).1 = 12 from hs.1)]
    show H1[eB v + a]? = some (vp_cell _ _)
    rw [e1, vp_cell_l, vp_cell_l, arrV_store]
    congr 2
    funext j
    by_cases hj : j = i.toNatClampNeg
    · subst hj
      simp [updV, wL, sI, sL]
      try rfl
    · simp [updV, wL, hj, sI, sL]
  · rw [if_neg hs] at hm; cases hm
/-- the kind of what an array of references holds -/
def eKd (k : Nat) : Nat := if k = 14 then 3 else if k = 15 then 5 else 7
def bSR (k a : Nat) (i : Int32) (x : Nat) {α : Type} (m : mM α) : mM α := fun s => if (sH s a).1 = k ∧ inB i (sH s a).2 ∧ (sH s x).1 = eKd k then m (wP s a i.toNatClampNeg x) else none
theorem rz_aast {k a x : Nat} {i : Int32} (q : Nat) (hd : decode cc pc = .ok (.aastore, 1)) (hq : pc + 1 = q) (hk : k = 14 ∨ k = 15 ∨ k = 16) (kk : Rz v own cc nL ret ini emb d q lv st mm) : Rz v own cc nL ret ini emb d pc lv (vR x :: vI i :: vR a :: st) (bSR k a i x mm) := by
  subst hq
  intro σ σ' r hm
  unfold bSR at hm
  by_cases hs : (sH σ a).1 = k ∧ inB i (sH σ a).2 ∧ (sH σ x).1 = eKd k
  · rw [if_pos hs] at hm
    obtain ⟨h0, h1⟩ := kk _ σ' r hm
    refine ⟨h0, fun p e R s m args below meth c H locs cells slots ls X hR hS hf hl hc hss hv => ?_⟩
    obtain ⟨g0, g1⟩ := hR.2.2 a (by omega)
    have hek : eKd k < 10 := by rcases hk with rfl | rfl | rfl <;> decide
    obtain ⟨g2, g3⟩ := hR.2.2 x (by omega)
    rw [List.map_cons, List.map_cons, List.map_cons, tv_R g0, tv_R g2]
    have hcell := mWl_at (v := v) g0 g1
    rw [mC_q hk hs.1] at hcell
    have hcx := mWl_at (v := v) g2 g3
    rw [mC_o hek hs.2.2] at hcx
    have hK := X.2.2.2.2.2.2.2.2.1
    obtain ⟨r', hr', cellV, u1, u2, u3, -⟩ := hR.1 (x - 1) _ hcx
    have hcls := (hK.1 (eKd k) _ (m_cl _ hek)).2
    have ht : ∃ t0 : Nat, (mT v)[t0]? = some (eA v k, FieldType.object (mRn (eKd k))) := by
      rcases hk with rfl | rfl | rfl
      · exact ⟨4, rfl⟩
      · exact ⟨5, rfl⟩
      · exact ⟨6, rfl⟩
    obtain ⟨t0, ht⟩ := ht
    obtain ⟨kA, comp, k1, k2, k3, -⟩ := (hK.2 t0 _ ht).2
    have hcomp : comp = (eD v).1 (eKd k) := Option.some.inj (k3.symm.trans hcls.1)
    subst hcomp
    obtain ⟨kC, hkC, -⟩ := hcls.2
    have hi0 : ¬ i < 0 := fun q => hs.2.1 (Or.inl q)
    have hlt : i.toNatClampNeg < (sH σ a).2 := Nat.not_le.mp fun q => hs.2.1 (Or.inr q)
    refine W.aast X.1 X.2.1 (hR.1 (a - 1) _ hcell) (fun q h => by cases h) (fun h => by cases h) k1 k2 rfl hkC ⟨hi0, by show _ < (arrV _ _ _).slots.size; rw [arrV_size]; exact hlt⟩ u1 (fun q h => by rw [u3] at h; cases h) (by rw [u2]; exact hkC) (by rw [u2]; exact va_assign hcls) rfl rfl hd fun H1 e1 z oq => ?_
    refine h1 p e R s m args below meth c H1 _ cells slots ls X (mR_set hR g0 g1 rfl rfl (fun b hb => wP_ne hb) ?_ z oq) (hS.put z oq (show eB v < eB v + a by omega)) hf hl hc hss hv
    rw [mC_q hk (show (sH (wP σ a i.toNatClampNeg x) a).1 = k from hs.1)]
    show H1[eB v + a]? = some (vp_cell _ _)
    rw [e1, vp_cell_q, vp_cell_q, arrV_store]
    congr 2
    funext j
    by_cases hj : j = i.toNatClampNeg
    · subst hj
      simp only [updV, wP, sP, and_self, if_true]
      exact (tv_R g2).symm
    · simp [updV, wP, sP, hj]
  · rw [if_neg hs] at hm; cases hm
end RZH

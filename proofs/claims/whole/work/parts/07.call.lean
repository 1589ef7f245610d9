/-! NEW CELLS, CALLS -/
section RZC
variable {v : mE} {own : String} {cc : ByteArray} {nL : Nat} {ret : Option FieldType} {ini : Bool} {α : Type} {emb : α → Option mV} {d pc : Nat} {lv lv' : List (Nat × mV)} {st st' : List mV} {mm : mM α}
theorem wN_old {v : mE} {s : mS} {k n b : Nat} (h : b ≤ sZ s) : mC v (wN s k n) b = mC v s b := mC_eq (by funext i; simp [wN, sI, sZ, show b ≠ s.2.2.2.2.1 + 1 by unfold sZ at h; omega]) (by funext i; simp [wN, sL, sZ, show b ≠ s.2.2.2.2.1 + 1 by unfold sZ at h; omega]) (by funext i; simp [wN, sP, sZ, show b ≠ s.2.2.2.2.1 + 1 by unfold sZ at h; omega]) (by simp [wN, sH, sZ, show b ≠ s.2.2.2.2.1 + 1 by unfold sZ at h; omega])
theorem wN_H {s : mS} {k n : Nat} : sH (wN s k n) (sZ s + 1) = (k, n) := by simp [wN, sH]
theorem wN_v {v : mE} {s : mS} {H : Heap} {k n : Nat} (hR : mR v s H) : ∀ a, (sH (wN s k n) a).1 < 17 → 0 < a ∧ a ≤ sZ (wN s k n) := by
  intro a h
  show 0 < a ∧ a ≤ sZ s + 1
  by_cases ha : a = sZ s + 1
  · omega
  · have h2 : (sH s a).1 < 17 := by
      have e : sH (wN s k n) a = sH s a := by show (if a = sZ s + 1 then _ else _) = _; rw [if_neg ha]
      rw [← e]; exact h
    have := hR.2.2 a h2
    omega
def bNew (k : Nat) {α : Type} (f : Nat → mM α) : mM α := fun s => f (sZ s + 1) (wN s k (mN k))
theorem rz_new {k i : Nat} {f : Nat → mM α} (q : Nat) (hd : decode cc pc = .ok (.new i, 3)) (hq : pc + 3 = q) (hk : Nat.blt k 10 = true) (hc1 : Cond.classLink own i (mRn k) ∈ TB) (hc2 : Cond.instantiable (mRn k) (mN k) ∈ TB) (hc3 : Cond.initialized (mRn k) ∈ TB) (kk : ∀ x, Rz v own cc nL ret ini emb d q lv (vR x :: st) (f x)) : Rz v own cc nL ret ini emb d pc lv st (bNew k f) := by
  subst hq
  have hk : k < 10 := Nat.le_of_ble_eq_true hk
  intro σ σ' r hm
  obtain ⟨h0, h1⟩ := kk (sZ σ + 1) (wN σ k (mN k)) σ' r hm
  have h0a : sZ σ + 1 ≤ sZ σ' := h0.1
  have h0b : sW σ + mN k ≤ sW σ' := h0.2
  refine ⟨⟨by omega, by omega⟩, fun p e R s m args below meth c H locs cells slots ls X hR hS hf hl hc hss hv => ?_⟩
  have hts := X.2.2.2.2.1
  have hKn := X.2.2.2.2.2.2.2.2.1.1 k _ (m_cl k hk)
  refine W.newcK X.1 X.2.1 X.2.2.2.1 (hts _ hc1) (hts _ hc2) (hts _ hc3) rfl hd (by omega) (by omega) hKn.2.1 rfl fun H1 kC hkC e1 z1 o1 => ?_
  have hsz := hR.2.1
  have hat : va_at (eD v) vwCl (eB v + (sZ σ + 1), mC v (wN σ k (mN k)) (sZ σ + 1)) H1 := by
    rw [mC_o hk (by rw [wN_H])]
    refine ⟨_, m_cl k hk, t_OB.to (V := fun j => defaultValue (mTy k j)) ?_ (fun j hj => ?_)⟩
    · rw [show eB v + (sZ σ + 1) = H.size by omega]
      exact u_born (mTy k) hts (m_in k hk) hKn hkC e1 (m_ty k hk)
    · show _ = (mFs v _ _ k).getD j .null
      rw [List.getD_eq_getElem?_getD, mFs_at hj]
      have h3 := m_fk k hk j hj
      generalize mTy k j = ty at h3 ⊢
      have z1 : sI (wN σ k (mN k)) (sZ σ + 1) j = 0 := by simp [wN, sI, sZ]
      have z2 : sL (wN σ k (mN k)) (sZ σ + 1) j = 0 := by simp [wN, sL, sZ]
      have z3 : sP (wN σ k (mN k)) (sZ σ + 1) j = 0 := by simp [wN, sP, sZ]
      cases ty <;> simp only [mFk] at h3 <;> first | (exfalso; omega) | (simp only [mF, z1, z2, z3, Option.getD_some]; rfl)
  have hR1 : mR v (wN σ k (mN k)) H1 := mR_push hR rfl (fun b _ hb => wN_old hb) (wN_v hR) hat z1 o1
  have w := h1 p e R s m args below meth c H1 locs (cells + 1) (slots + mN k) ls X hR1 ⟨Nat.le_trans hS.1 (by omega), fun x g1 g2 => (o1 x (Nat.lt_of_lt_of_le g1 hS.1)).trans (hS.2.1 x g1 g2), hS.2.2⟩ hf hl (by show cells + 1 + sZ σ' = R.cells + (sZ σ + 1); omega) (by show slots + mN k + sW σ' = R.slots + (sW σ + mN k); omega) hv
  rw [List.map_cons, tv_R (by omega)] at w
  rw [show eB v + (sZ σ + 1) = H.size by omega] at w
  exact w
def bNa (k : Nat) (n : Int32) {α : Type} (f : Nat → mM α) : mM α := fun s => if ¬ n < 0 ∧ n.toNatClampNeg * 8 ≤ 536870912 then f (sZ s + 1) (wN s k n.toNatClampNeg) else none
theorem rz_newa {k : Nat} {n : Int32} {at_ : ArrayType} {f : Nat → mM α} (q : Nat) (hd : decode cc pc = .ok (.newarray at_, 2)) (hq : pc + 2 = q) (hk : (k = 10 ∧ at_ = .byte) ∨ (k = 11 ∧ at_ = .int) ∨ (k = 12 ∧ at_ = .long) ∨ (k = 13 ∧ at_ = .boolean)) (hw : Cond.arrayClass (newarray.typeOf at_) ∈ TB) (kk : ∀ x, Rz v own cc nL ret ini emb d q lv (vR x :: st) (f x)) : Rz v own cc nL ret ini emb d pc lv (vI n :: st) (bNa k n f) := by
  subst hq
  intro σ σ' r hm
  unfold bNa at hm
  by_cases hs : ¬ n < 0 ∧ n.toNatClampNeg * 8 ≤ 536870912
  · rw [if_pos hs] at hm
    obtain ⟨h0, h1⟩ := kk (sZ σ + 1) (wN σ k n.toNatClampNeg) σ' r hm
    have h0a : sZ σ + 1 ≤ sZ σ' := h0.1
    have h0b : sW σ + n.toNatClampNeg ≤ sW σ' := h0.2
    refine ⟨⟨by omega, by omega⟩, fun p e R s m args below meth c H locs cells slots ls X hR hS hf hl hc hss hv => ?_⟩
    have hK := X.2.2.2.2.2.2.2.2.1
    have hsz := hR.2.1
    have hb8 : n.toNatClampNeg * componentBytes (newarray.typeOf at_) ≤ 536870912 := by
      rcases hk with ⟨-, rfl⟩ | ⟨-, rfl⟩ | ⟨-, rfl⟩ | ⟨-, rfl⟩ <;> simp only [newarray.typeOf, componentBytes] <;> omega
    refine va_newaK X.1 X.2.1 (X.2.2.2.2.1 _ hw) rfl hd rfl hs.1 rfl hb8 (by omega) (by omega) rfl fun H1 cA e1 z1 o1 hAr hNm => ?_
    have hcA : cA = eA v k := by
      rcases hk with ⟨rfl, rfl⟩ | ⟨rfl, rfl⟩ | ⟨rfl, rfl⟩ | ⟨rfl, rfl⟩
      · exact Option.some.inj (hNm.symm.trans (hK.2 0 _ rfl).2)
      · exact Option.some.inj (hNm.symm.trans (hK.2 1 _ rfl).2)
      · exact Option.some.inj (hNm.symm.trans (hK.2 2 _ rfl).2)
      · exact Option.some.inj (hNm.symm.trans (hK.2 3 _ rfl).2)
    subst hcA
    have zI : sI (wN σ k n.toNatClampNeg) (sZ σ + 1) = fun _ => 0 := by funext j; simp [wN, sI, sZ]
    have zL : sL (wN σ k n.toNatClampNeg) (sZ σ + 1) = fun _ => 0 := by funext j; simp [wN, sL, sZ]
    have hat : va_at (eD v) vwCl (eB v + (sZ σ + 1), mC v (wN σ k n.toNatClampNeg) (sZ σ + 1)) H1 := by
      rw [show eB v + (sZ σ + 1) = H.size by omega]
      rcases hk with ⟨rfl, rfl⟩ | ⟨rfl, rfl⟩ | ⟨rfl, rfl⟩ | ⟨rfl, rfl⟩
      · rw [mC_i (k := 10) (by decide) (by rw [wN_H]), zI, wN_H]; exact e1
      · rw [mC_i (k := 11) (by decide) (by rw [wN_H]), zI, wN_H]; exact e1
      · rw [mC_l (by rw [wN_H]), zL, wN_H]; exact e1
      · rw [mC_i (k := 13) (by decide) (by rw [wN_H]), zI, wN_H]; exact e1
    have hR1 : mR v (wN σ k n.toNatClampNeg) H1 := mR_push hR rfl (fun b _ hb => wN_old hb) (wN_v hR) hat z1 o1
    have w := h1 p e R s m args below meth c H1 locs (cells + 1) (slots + n.toNatClampNeg) ls X hR1 ⟨Nat.le_trans hS.1 (by omega), fun x g1 g2 => (o1 x (Nat.lt_of_lt_of_le g1 hS.1)).trans (hS.2.1 x g1 g2), hS.2.2⟩ hf hl (by show cells + 1 + sZ σ' = R.cells + (sZ σ + 1); omega) (by show slots + n.toNatClampNeg + sW σ' = R.slots + (sW σ + n.toNatClampNeg); omega) hv
    rw [List.map_cons, tv_R (by omega)] at w
    rw [show eB v + (sZ σ + 1) = H.size by omega] at w
    exact w
  · rw [if_neg hs] at hm; cases hm
theorem rz_newq {k i : Nat} {n : Int32} {f : Nat → mM α} (q : Nat) (hd : decode cc pc = .ok (.anewarray i, 3)) (hq : pc + 3 = q) (hk : k = 14 ∨ k = 15 ∨ k = 16) (hc1 : Cond.classLink own i (mRn (eKd k)) ∈ TB) (hov : ∀ (args : Array Value) (s : State), mK v s → (∀ w ∈ TB, w.before args s = true) → va_AO (mRn (eKd k)) s) (kk : ∀ x, Rz v own cc nL ret ini emb d q lv (vR x :: st) (f x)) : Rz v own cc nL ret ini emb d pc lv (vI n :: st) (bNa k n f) := by
  subst hq
  intro σ σ' r hm
  unfold bNa at hm
  by_cases hs : ¬ n < 0 ∧ n.toNatClampNeg * 8 ≤ 536870912
  · rw [if_pos hs] at hm
    obtain ⟨h0, h1⟩ := kk (sZ σ + 1) (wN σ k n.toNatClampNeg) σ' r hm
    have h0a : sZ σ + 1 ≤ sZ σ' := h0.1
    have h0b : sW σ + n.toNatClampNeg ≤ sW σ' := h0.2
    refine ⟨⟨by omega, by omega⟩, fun p e R s m args below meth c H locs cells slots ls X hR hS hf hl hc hss hv => ?_⟩
    have hK := X.2.2.2.2.2.2.2.2.1
    have hsz := hR.2.1
    refine W.anew X.1 X.2.1 X.2.2.2.1 (X.2.2.2.2.1 _ hc1) (va_AO.use (hov args s X.2.2.2.2.2.2.2.2 X.2.2.2.2.1)) rfl hd rfl hs.1 (by omega) (by omega) (by omega) fun cA kA comp f1 f2 f3 f4 => ?_
    generalize hH1 : H.push ({ cls := cA, slots := Array.replicate n.toNatClampNeg .null, vm := .none } : Cell) = H1
    have z1 : H1.size = H.size + 1 := by rw [← hH1, Array.size_push]
    have e1 : H1[H.size]? = some (arrV cA n.toNatClampNeg (fun _ => .null)) := by rw [← hH1, Array.getElem?_push_size, ← arrV_new]
    have o1 : ∀ q : Nat, q < H.size → H1[q]? = H[q]? := fun q hq => by rw [← hH1, Array.getElem?_push, if_neg (Nat.ne_of_lt hq)]
    have hcA : cA = eA v k := by
      rcases hk with rfl | rfl | rfl
      · obtain ⟨_, _, -, -, -, g⟩ := (hK.2 4 _ rfl).2; exact Option.some.inj (f1.symm.trans g)
      · obtain ⟨_, _, -, -, -, g⟩ := (hK.2 5 _ rfl).2; exact Option.some.inj (f1.symm.trans g)
      · obtain ⟨_, _, -, -, -, g⟩ := (hK.2 6 _ rfl).2; exact Option.some.inj (f1.symm.trans g)
    subst hcA
    have zP : sP (wN σ k n.toNatClampNeg) (sZ σ + 1) = fun _ => 0 := by funext j; simp [wN, sP, sZ]
    have hat : va_at (eD v) vwCl (eB v + (sZ σ + 1), mC v (wN σ k n.toNatClampNeg) (sZ σ + 1)) H1 := by
      rw [show eB v + (sZ σ + 1) = H.size by omega, mC_q hk (by rw [wN_H]), zP, wN_H]
      exact e1
    have hR1 : mR v (wN σ k n.toNatClampNeg) H1 := mR_push hR rfl (fun b _ hb => wN_old hb) (wN_v hR) hat z1 o1
    have w := h1 p e R s m args below meth c H1 locs (cells + 1) (slots + n.toNatClampNeg) ls X hR1 ⟨Nat.le_trans hS.1 (by omega), fun x g1 g2 => (o1 x (Nat.lt_of_lt_of_le g1 hS.1)).trans (hS.2.1 x g1 g2), hS.2.2⟩ hf hl (by show cells + 1 + sZ σ' = R.cells + (sZ σ + 1); omega) (by show slots + n.toNatClampNeg + sW σ' = R.slots + (sW σ + n.toNatClampNeg); omega) hv
    rw [List.map_cons, tv_R (by omega)] at w
    rw [show eB v + (sZ σ + 1) = H.size by omega] at w
    exact w
  · rw [if_neg hs] at hm; cases hm
/-- Object's constructor -/
def bObj (a : Nat) {α : Type} (m : mM α) : mM α := fun s => if (sH s a).1 < 10 then m s else none
theorem rz_obj {a i : Nat} {rest : List mV} (q : Nat) (hd : decode cc pc = .ok (.invokespecial i, 3)) (hq : pc + 3 = q) (h1 : Cond.methodLink own i objectInit ∈ TB) (h2 : Cond.instanceMethod objectInit ∈ TB) (h3 : Cond.code objectInit ⟨#[0xb1]⟩ 1 none ∈ TB) (hd1 : Nat.ble 1 d = true) (hc : Nat.ble (rest.map mcat).sum 8 = true) (kk : Rz v own cc nL ret ini emb d q lv rest mm) : Rz v own cc nL ret ini emb d pc lv (vR a :: rest) (bObj a mm) := by
  subst hq
  have hd1 : 1 ≤ d := Nat.le_of_ble_eq_true hd1
  have hc8 : (rest.map mcat).sum ≤ 8 := Nat.le_of_ble_eq_true hc
  intro σ σ' r hm
  unfold bObj at hm
  by_cases hsa : (sH σ a).1 < 10
  case neg => rw [if_neg hsa] at hm; cases hm
  rw [if_pos hsa] at hm
  obtain ⟨h0, hk⟩ := kk σ σ' r hm
  refine ⟨h0, fun p e R s m args below meth c H locs cells slots ls X hR hS hf hl hcc hs hv => ?_⟩
  obtain ⟨g0, g1⟩ := hR.2.2 a (by omega)
  rw [List.map_cons, tv_R g0]
  have hcat : ((rest.map (tv v)).map fun v => v.category).sum ≤ 8 := by
    rw [List.map_map]
    rw [show (fun v => Value.category v) ∘ tv v = mcat from funext fun x => tv_cat v x]
    exact hc8
  exact W.objInit X.1 X.2.1 X.2.2.2.1 (X.2.2.2.2.1 _ h1) (X.2.2.2.2.1 _ h2) (X.2.2.2.2.1 _ h3) rfl (by rw [X.2.2.1]; exact hv.1) rfl hd (by omega) (by show 2 * 0 + _ + 12 ≤ _; omega) (hk p e R s m args below meth c H locs cells slots ls X hR hS hf hl hcc hs hv)
/-- a method's contract: it does what the small program F says -/
def Mt (v : mE) (y : MethodName) (cc : ByteArray) (nL : Nat) (ret : Option FieldType) {β : Type} (emb : β → Option mV) (d : Nat) (As : List mV) (F : mM β) : Prop :=
  ∀ (σ σ' : mS) (r : β), F σ = some (r, σ') → (sZ σ ≤ sZ σ' ∧ sW σ ≤ sW σ') ∧
    Met (eLn v) y (Cond.code y cc nL ret :: TB) { frames := d, cells := sZ σ' - sZ σ, slots := sW σ' - sW σ, locals := 100 * d } (va_Pc (As.map (tv v)) (fun U => mK v U ∧ mR v σ U.heap)) (mQ v (emb r) σ') (sZ σ' - sZ σ) (sW σ' - sW σ) (mA v)
def mArgs : Nat → List mV → List (Nat × mV)
  | _, [] => []
  | i, x :: xs => (i, x) :: mArgs (if mcat x = 2 then i + 2 else i + 1) xs
theorem mArgs_eq (v : mE) : ∀ (xs : List mV) (i : Nat), lv_args i (xs.map (tv v)) = mLv v (mArgs i xs)
  | [], _ => rfl
  | x :: xs, i => by
    show (i, tv v x) :: lv_args _ _ = (i, tv v x) :: _
    rw [tv_cat, mArgs_eq v xs]
theorem lg_len (v : mE) : ∀ xs : List mV, (lg_sl (xs.map (tv v))).length = (xs.map mcat).sum
  | [] => rfl
  | x :: xs => by
    have ih := lg_len v xs
    unfold lg_sl at ih ⊢
    rw [List.map_cons, List.flatMap_cons, List.length_append, ih, tv_cat, List.map_cons, List.sum_cons]
    congr 1
    rcases x with x | x | a | i | u <;> rfl
theorem mt_of {y : MethodName} {β : Type} {emb : β → Option mV} {F : mM β} {As : List mV} (hy : plainName y.cls = true) (hown : y.cls = own) (hini : ini = true → y.name = "<init>") (hn : Nat.ble (As.map mcat).sum nL = true) (hl0 : mArgs 0 As = lv) (k : Rz v own cc nL ret ini emb d 0 lv [] F) : Mt v y cc nL ret emb d As F := by
  subst hl0
  subst hown
  intro σ σ' r hm
  obtain ⟨h0, hk⟩ := k σ σ' r hm
  refine ⟨h0, Met.ofW (cc := cc) (maxL := nL) (ret := ret) hy rfl ?_⟩
  intro p e s m args below meth c s₁ B hml hv
  obtain ⟨rfl, hK, hR⟩ := hv
  have hts := atoms_spec (ws := Cond.code y cc nL ret :: TB) B.pre
  have X : mX v y.cls cc nL ret ini p s m ((As.map (tv v)).toArray) meth c := ⟨B.exec, B.bytes, hml, findClass_of_methodNamed B.named, fun w hw => hts w (List.mem_cons_of_mem _ hw), B.returns, B.notSynchronized, fun h => by rw [(name_of_methodNamed B.named B.method).1]; exact hini h, hK⟩
  have hln : (lg_sl (As.map (tv v))).length ≤ nL := by rw [lg_len]; exact Nat.le_of_ble_eq_true hn
  have hlv := lv_entry (As.map (tv v)) (n := nL) hln
  rw [lg_entry_eq]
  rw [mArgs_eq] at hlv
  refine hk p e (headSpec (Cond.code y cc nL ret :: TB) _).room s m _ below meth c s.heap [] 0 0 _ X hR va_S.rf (Nat.le_refl _) (Nat.le_refl _) ?_ ?_ hlv
  · show 0 + sZ σ' = sZ σ' - sZ σ + sZ σ; omega
  · show 0 + sW σ' = sW σ' - sW σ + sW σ; omega
def bCall {β : Type} (F : mM β) {α : Type} (k : β → mM α) : mM α := fun s => match F s with
  | some (x, t) => k x t
  | none => none
/-- a call on a cell of a kind -/
def bCallV (kc a : Nat) {β : Type} (F : mM β) {α : Type} (k : β → mM α) : mM α := fun s => if (sH s a).1 = kc then bCall F k s else none
theorem mz_call {p : Program} {e : Env} {R : Room} {s : State} {m : MethodId} {args : Array Value} {below : List Frame} {meth : Method} {c : Code} {H : Heap} {locs : List Loc} {cells slots : Nat} {ls : Array Slot} {Q : State → Prop} {rest st0 : List Value} {mc ms : Nat} {r : Option mV} {σ1 : mS} {a : Array Value}
    (hr : va_Run p (eLn v) e R s m args below meth c H locs cells slots mc ms (F0 m pc ls st0) rest (mQ v r σ1 a) (mA v)) (hS : va_S (mA v) s.heap H locs)
    (kk : ∀ (H1 : Heap) (locs1 : List Loc), mR v σ1 H1 → va_S (mA v) s.heap H1 locs1 → W p (eLn v) e R s m args below meth c H1 locs1 (cells + mc) (slots + ms) Q (F0 m (pc + 3) ls ((r.map (tv v)).toList ++ rest))) : W p (eLn v) e R s m args below meth c H locs cells slots Q (F0 m pc ls st0) := by
  intro T hT X
  obtain ⟨rv, st₀, t, T', L, h0, X', hL, e1, e2, ⟨hv, hR1, hz, hk⟩, st⟩ := hr T hT X
  cases hv
  rw [h0] at hz hk
  obtain ⟨t2, a1, b1⟩ := kk T'.heap (locs ++ L) (by rw [e1]; exact hR1)
    ⟨Nat.le_trans hS.1 (by rw [e1]; exact hz), fun q h1 h2 => by rw [e1, hk q (Nat.lt_of_lt_of_le h1 hS.1) h2]; exact hS.2.1 q h1 h2, fun q hq => by
      rcases List.mem_append.mp hq with h | h
      · exact hS.2.2 q h
      · exact hL q h⟩ T' rfl X'
  exact ⟨t2, st t2 a1, b1⟩
theorem mz_pre {s : State} {H : Heap} {locs : List Loc} {σ : mS} {vs : List Value} (hK : mK v s) (hR : mR v σ H) (hS : va_S (mA v) s.heap H locs) : PreS s H (va_Pc vs (fun U => mK v U ∧ mR v σ U.heap)) vs := by
  refine ⟨fun a U g mk h => ⟨h.1, mK_same h.2.1 rfl rfl, h.2.2⟩, fun U hU hW => ⟨rfl, mK_go hK hW ?_ ?_, by rw [hU]; exact hR⟩⟩
  · rw [hU, hR.2.1]; omega
  · intro q hq
    rw [hU]
    exact hS.2.1 q (Nat.lt_of_le_of_lt hq hK.2.1) (Nat.not_lt.mpr hq)
theorem mz_cat {rest : List mV} (h : (rest.map mcat).sum ≤ 8) : ((rest.map (tv v)).map fun v => v.category).sum ≤ 8 := by
  rw [List.map_map, show (fun v => Value.category v) ∘ tv v = mcat from funext fun x => tv_cat v x]
  exact h
theorem tb_code {y : MethodName} {c2 : ByteArray} {n2 : Nat} {r2 : Option FieldType} (h : Cond.code y c2 n2 r2 ∈ TB) {ws : List Cond} (hw : ∀ w ∈ ws, w ∈ TB) : GoodIn TB (ws ++ Cond.code y c2 n2 r2 :: TB) := by
  intro w h1
  rcases List.mem_append.mp h1 with h1 | h1
  · exact tb_good w (hw w h1)
  · rcases List.mem_cons.mp h1 with rfl | h1
    · exact tb_good _ h
    · exact tb_good w h1
/-- what a method's name must be for a call: n parameters -/
def yOk (y : MethodName) (n : Nat) : Bool := (y.cls != "java/lang/invoke/MethodHandle") && (y.cls != "java/lang/invoke/VarHandle") && ((parseMethodDescriptor y.desc).map (fun d => d.parameters.length) == some n)
theorem yOk_k {y : MethodName} {n : Nat} (h : yOk y n = true) : y.cls ≠ "java/lang/invoke/MethodHandle" ∧ y.cls ≠ "java/lang/invoke/VarHandle" ∧ (parseMethodDescriptor y.desc).map (fun d => d.parameters.length) = some n := by
  unfold yOk at h
  simp only [Bool.and_eq_true, bne_iff_ne, ne_eq, beq_iff_eq] at h
  exact ⟨h.1.1, h.1.2, h.2⟩
theorem rz_callV {y : MethodName} {c2 : ByteArray} {n2 kc i a : Nat} {r2 : Option FieldType} {β : Type} {em2 : β → Option mV} {As rest : List mV} {F : mM β} {f : β → mM α} (q : Nat) (hd : decode cc pc = .ok (.invokevirtual i, 3)) (hq : pc + 3 = q) (hM : Mt v y c2 n2 r2 em2 d (vR a :: As) F) (hst : st = As.reverse ++ vR a :: rest) (hy : yOk y As.length = true) (hkc : Nat.blt kc 10 = true) (hcl : y.cls = mRn kc) (h1 : Cond.methodLink own i y ∈ TB) (h2 : Cond.instanceMethod y ∈ TB) (h3 : Cond.selects (mRn kc) y y ∈ TB) (h4 : Cond.initialized (mRn kc) ∈ TB) (h5 : Cond.code y c2 n2 r2 ∈ TB) (hn : Nat.ble n2 80 = true) (hc8 : Nat.ble (rest.map mcat).sum 8 = true)
    (kk : ∀ x, Rz v own cc nL ret ini emb (d + 1) q lv ((em2 x).toList ++ rest) (f x)) : Rz v own cc nL ret ini emb (d + 1) pc lv st (bCallV kc a F f) := by
  subst hq
  subst hst
  have hkc : kc < 10 := Nat.le_of_ble_eq_true hkc
  have hn : n2 ≤ 80 := Nat.le_of_ble_eq_true hn
  have hc8 : (rest.map mcat).sum ≤ 8 := Nat.le_of_ble_eq_true hc8
  intro σ σ' r hm
  unfold bCallV at hm
  by_cases hsa : (sH σ a).1 = kc
  case neg => rw [if_neg hsa] at hm; cases hm
  rw [if_pos hsa] at hm
  unfold bCall at hm
  split at hm
  · rename_i x t hF
    obtain ⟨m0, hMet⟩ := hM σ t x hF
    obtain ⟨n0, hk⟩ := kk x t σ' r hm
    refine ⟨⟨by omega, by omega⟩, fun p e R s m args below meth c H locs cells slots ls X hR hS hf hl hc hss hv => ?_⟩
    obtain ⟨g0, g1⟩ := hR.2.2 a (by omega)
    have hcell := mWl_at (v := v) g0 g1
    rw [mC_o hkc hsa] at hcell
    have hK := X.2.2.2.2.2.2.2.2
    have hpre := mz_pre (vs := (vR a :: As).map (tv v)) hK hR hS
    rw [List.map_append, List.map_cons, List.map_reverse, tv_R g0]
    rw [List.map_cons, tv_R g0] at hMet hpre
    have hrun := va_runV (C := mRn kc) (As := As.map (tv v)) (rest := rest.map (tv v)) (own := own) (g := F0 m pc ls ((As.map (tv v)).reverse ++ .ref (eB v + a) :: rest.map (tv v))) (below := below) (cells := cells) (slots := slots) (locs := locs) (R := R) (e := e) (meth := meth) ⟨X.1, X.2.1, X.2.2.1, X.2.2.2.1, X.2.2.2.2.1⟩ hMet
      (cwV As.length X.2.2.2.2.1 (show GoodIn TB (wsV own i (mRn kc) y (Cond.code y c2 n2 r2 :: TB)) from tb_code (ws := [.methodLink own i y, .instanceMethod y, .selects (mRn kc) y y, .initialized (mRn kc)]) h5 (by intro w hw; simp only [List.mem_cons, List.not_mem_nil, or_false] at hw; rcases hw with rfl | rfl | rfl | rfl <;> assumption)) rfl rfl rfl ⟨hcl, yOk_k hy⟩ ⟨by show d + 1 ≤ _; omega, by show 8 + (n2 + 11) + 100 * d ≤ _; omega⟩)
      ⟨hpre.1, va_recv hK.1 hR.1 (m_cl kc hkc) hcell, hpre.2⟩ rfl (by rw [List.length_map]) hv.1 rfl (lv_room (mz_cat hc8)) hd ⟨by omega, by omega⟩
    refine mz_call hrun hS fun H1 locs1 hR1 hS1 => ?_
    have w := hk p e R s m args below meth c H1 locs1 (cells + (sZ t - sZ σ)) (slots + (sW t - sW σ)) ls X hR1 hS1 hf hl (by omega) (by omega) hv
    rw [List.map_append] at w
    cases hx : em2 x <;> rw [hx] at w <;> exact w
  · cases hm
theorem rz_callS {y : MethodName} {c2 : ByteArray} {n2 i : Nat} {r2 : Option FieldType} {β : Type} {em2 : β → Option mV} {As rest : List mV} {F : mM β} {f : β → mM α} (q : Nat) (hd : decode cc pc = .ok (.invokestatic i, 3)) (hq : pc + 3 = q) (hM : Mt v y c2 n2 r2 em2 d As F) (hst : st = As.reverse ++ rest) (hy : yOk y As.length = true) (h1 : Cond.methodLink own i y ∈ TB) (h2 : Cond.static y ∈ TB) (h4 : Cond.initialized y.cls ∈ TB) (h5 : Cond.code y c2 n2 r2 ∈ TB) (hn : Nat.ble n2 80 = true) (hc8 : Nat.ble (rest.map mcat).sum 8 = true)
    (kk : ∀ x, Rz v own cc nL ret ini emb (d + 1) q lv ((em2 x).toList ++ rest) (f x)) : Rz v own cc nL ret ini emb (d + 1) pc lv st (bCall F f) := by
  subst hq
  subst hst
  have hn : n2 ≤ 80 := Nat.le_of_ble_eq_true hn
  have hc8 : (rest.map mcat).sum ≤ 8 := Nat.le_of_ble_eq_true hc8
  intro σ σ' r hm
  unfold bCall at hm
  split at hm
  · rename_i x t hF
    obtain ⟨m0, hMet⟩ := hM σ t x hF
    obtain ⟨n0, hk⟩ := kk x t σ' r hm
    refine ⟨⟨by omega, by omega⟩, fun p e R s m args below meth c H locs cells slots ls X hR hS hf hl hc hss hv => ?_⟩
    have hK := X.2.2.2.2.2.2.2.2
    have hpre := mz_pre (vs := As.map (tv v)) hK hR hS
    rw [List.map_append, List.map_reverse]
    have hrun := va_runS (As := As.map (tv v)) (rest := rest.map (tv v)) (own := own) (g := F0 m pc ls ((As.map (tv v)).reverse ++ rest.map (tv v))) (below := below) (cells := cells) (slots := slots) (locs := locs) (R := R) (e := e) (meth := meth) ⟨X.1, X.2.1, X.2.2.1, X.2.2.2.1, X.2.2.2.2.1⟩ hMet
      ⟨callB_of As.length X.2.2.2.2.1 (show GoodIn TB (Cond.code y c2 n2 r2 :: TB) from tb_code (ws := []) h5 (by intro w hw; cases hw)) rfl rfl rfl (X.2.2.2.2.1 _ h4) (X.2.2.2.2.1 _ h1) (yOk_k hy) ⟨by show d + 1 ≤ _; omega, by show 8 + (n2 + 11) + 100 * d ≤ _; omega⟩, X.2.2.2.2.1 _ h2⟩
      hpre rfl (by rw [List.length_map]) hv.1 rfl (lv_room (mz_cat hc8)) hd ⟨by omega, by omega⟩
    refine mz_call hrun hS fun H1 locs1 hR1 hS1 => ?_
    have w := hk p e R s m args below meth c H1 locs1 (cells + (sZ t - sZ σ)) (slots + (sW t - sW σ)) ls X hR1 hS1 hf hl (by omega) (by omega) hv
    rw [List.map_append] at w
    cases hx : em2 x <;> rw [hx] at w <;> exact w
  · cases hm
/-- a constructor -/
theorem rz_callI {y : MethodName} {c2 : ByteArray} {n2 i a kc : Nat} {As rest : List mV} {F : mM Unit} {f : Unit → mM α} (q : Nat) (hd : decode cc pc = .ok (.invokespecial i, 3)) (hq : pc + 3 = q) (hM : Mt v y c2 n2 none emU d (vR a :: As) F) (hst : st = As.reverse ++ vR a :: rest) (hy : yOk y As.length = true) (hyn : y.name = "<init>") (hkc : Nat.blt kc 10 = true) (h1 : Cond.methodLink own i y ∈ TB) (h2 : Cond.instanceMethod y ∈ TB) (h4 : Cond.initialized y.cls ∈ TB) (h5 : Cond.code y c2 n2 none ∈ TB) (hn : Nat.ble n2 80 = true) (hc8 : Nat.ble (rest.map mcat).sum 8 = true)
    (kk : ∀ x, Rz v own cc nL ret ini emb (d + 1) q lv rest (f x)) : Rz v own cc nL ret ini emb (d + 1) pc lv st (bCallV kc a F f) := by
  subst hq
  subst hst
  have hn : n2 ≤ 80 := Nat.le_of_ble_eq_true hn
  have hc8 : (rest.map mcat).sum ≤ 8 := Nat.le_of_ble_eq_true hc8
  intro σ σ' r hm
  have hkc : kc < 10 := Nat.le_of_ble_eq_true hkc
  unfold bCallV at hm
  by_cases hsa : (sH σ a).1 = kc
  case neg => rw [if_neg hsa] at hm; cases hm
  rw [if_pos hsa] at hm
  unfold bCall at hm
  split at hm
  · rename_i x t hF
    obtain ⟨m0, hMet⟩ := hM σ t x hF
    obtain ⟨n0, hk⟩ := kk x t σ' r hm
    refine ⟨⟨by omega, by omega⟩, fun p e R s m args below meth c H locs cells slots ls X hR hS hf hl hc hss hv => ?_⟩
    obtain ⟨g0, g1⟩ := hR.2.2 a (by omega)
    have hK := X.2.2.2.2.2.2.2.2
    have hpre := mz_pre (vs := (vR a :: As).map (tv v)) hK hR hS
    rw [List.map_append, List.map_cons, List.map_reverse, tv_R g0]
    rw [List.map_cons, tv_R g0] at hMet hpre
    have hrun := va_runI (As := As.map (tv v)) (rest := rest.map (tv v)) (own := own) (g := F0 m pc ls ((As.map (tv v)).reverse ++ .ref (eB v + a) :: rest.map (tv v))) (below := below) (cells := cells) (slots := slots) (locs := locs) (R := R) (e := e) (meth := meth) ⟨X.1, X.2.1, X.2.2.1, X.2.2.2.1, X.2.2.2.2.1⟩ hMet
      (cwI As.length X.2.2.2.2.1 (show GoodIn TB (Cond.code y c2 n2 none :: TB) from tb_code (ws := []) h5 (by intro w hw; cases hw)) rfl rfl rfl (X.2.2.2.2.1 _ h4) (X.2.2.2.2.1 _ h1) (X.2.2.2.2.1 _ h2) hyn (yOk_k hy) ⟨by show d + 1 ≤ _; omega, by show 8 + (n2 + 11) + 100 * d ≤ _; omega⟩)
      hpre rfl (by rw [List.length_map]) hv.1 rfl (lv_room (mz_cat hc8)) hd ⟨by omega, by omega⟩
    refine mz_call hrun hS fun H1 locs1 hR1 hS1 => ?_
    exact hk p e R s m args below meth c H1 locs1 (cells + (sZ t - sZ σ)) (slots + (sW t - sW σ)) ls X hR1 hS1 hf hl (by omega) (by omega) hv
  · cases hm
/-- a nest mate's constructor -/
theorem rz_callN {y : MethodName} {c2 : ByteArray} {n2 i a kc : Nat} {As rest : List mV} {F : mM Unit} {f : Unit → mM α} (q : Nat) (hd : decode cc pc = .ok (.invokespecial i, 3)) (hq : pc + 3 = q) (hM : Mt v y c2 n2 none emU d (vR a :: As) F) (hst : st = As.reverse ++ vR a :: rest) (hy : yOk y As.length = true) (hyn : y.name = "<init>") (hkc : Nat.blt kc 10 = true) {host : String} (h1 : ∀ s, mK v s → va_Nw (.methodLinkNest own i y host) s) (h2 : Cond.instanceMethod y ∈ TB) (h4 : Cond.initialized y.cls ∈ TB) (h5 : Cond.code y c2 n2 none ∈ TB) (hn : Nat.ble n2 80 = true) (hc8 : Nat.ble (rest.map mcat).sum 8 = true)
    (kk : ∀ x, Rz v own cc nL ret ini emb (d + 1) q lv rest (f x)) : Rz v own cc nL ret ini emb (d + 1) pc lv st (bCallV kc a F f) := by
  subst hq
  subst hst
  have hn : n2 ≤ 80 := Nat.le_of_ble_eq_true hn
  have hc8 : (rest.map mcat).sum ≤ 8 := Nat.le_of_ble_eq_true hc8
  intro σ σ' r hm
  have hkc : kc < 10 := Nat.le_of_ble_eq_true hkc
  unfold bCallV at hm
  by_cases hsa : (sH σ a).1 = kc
  case neg => rw [if_neg hsa] at hm; cases hm
  rw [if_pos hsa] at hm
  unfold bCall at hm
  split at hm
  · rename_i x t hF
    obtain ⟨m0, hMet⟩ := hM σ t x hF
    obtain ⟨n0, hk⟩ := kk x t σ' r hm
    refine ⟨⟨by omega, by omega⟩, fun p e R s m args below meth c H locs cells slots ls X hR hS hf hl hc hss hv => ?_⟩
    obtain ⟨g0, g1⟩ := hR.2.2 a (by omega)
    have hK := X.2.2.2.2.2.2.2.2
    have hpre := mz_pre (vs := (vR a :: As).map (tv v)) hK hR hS
    rw [List.map_append, List.map_cons, List.map_reverse, tv_R g0]
    rw [List.map_cons, tv_R g0] at hMet hpre
    have hrun := va_runIN (host := host) (As := As.map (tv v)) (rest := rest.map (tv v)) (own := own) (g := F0 m pc ls ((As.map (tv v)).reverse ++ .ref (eB v + a) :: rest.map (tv v))) (below := below) (cells := cells) (slots := slots) (locs := locs) (R := R) (e := e) (meth := meth) ⟨X.1, X.2.1, X.2.2.1, X.2.2.2.1, X.2.2.2.2.1⟩ hMet
      ⟨va_cnB As.length X.2.2.2.2.1 (show GoodIn TB (Cond.code y c2 n2 none :: TB) from tb_code (ws := []) h5 (by intro w hw; cases hw)) rfl rfl rfl (h1 s hK) (X.2.2.2.2.1 _ h4) (yOk_k hy) ⟨by show d + 1 ≤ _; omega, by show 8 + (n2 + 11) + 100 * d ≤ _; omega⟩, hyn, X.2.2.2.2.1 _ h2⟩
      hpre rfl (by rw [List.length_map]) hv.1 rfl (lv_room (mz_cat hc8)) hd ⟨by omega, by omega⟩
    refine mz_call hrun hS fun H1 locs1 hR1 hS1 => ?_
    exact hk p e R s m args below meth c H1 locs1 (cells + (sZ t - sZ σ)) (slots + (sW t - sW σ)) ls X hR1 hS1 hf hl (by omega) (by omega) hv
  · cases hm
end RZC

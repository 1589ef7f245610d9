/-! MEMBERS OF THE JDK THAT THE KIT KNOWS -/
section RZN
variable {v : mE} {own : String} {cc : ByteArray} {nL : Nat} {ret : Option FieldType} {ini : Bool} {α : Type} {emb : α → Option mV} {d pc : Nat} {lv lv' : List (Nat × mV)} {st st' : List mV} {mm : mM α}
/-- the greater, the less, as the JDK answers -/
abbrev jMax (x y : Int32) : Int32 := if x < y then y else x
abbrev jMin (x y : Int32) : Int32 := if y < x then y else x
abbrev jAbs (x : Int64) : Int64 := if 0 < x then x else -x
theorem rz_mmax {x y : Int32} {i : Nat} (q : Nat) (hd : decode cc pc = .ok (.invokestatic i, 3)) (hq : pc + 3 = q) (hw : Cond.methodLink own i yJ9_max_7cf53 ∈ TB) (hd1 : Nat.ble 1 d = true) (hc : Nat.ble (st.map mcat).sum 8 = true) (kk : Rz v own cc nL ret ini emb d q lv (vI (jMax x y) :: st) mm) : Rz v own cc nL ret ini emb d pc lv (vI y :: vI x :: st) mm := by
  subst hq
  have hd1 : 1 ≤ d := Nat.le_of_ble_eq_true hd1
  have hc8 := mz_cat (v := v) (Nat.le_of_ble_eq_true hc)
  intro σ σ' r hm
  obtain ⟨h0, hk⟩ := kk σ σ' r hm
  refine ⟨h0, fun p e R s m args below meth c H locs cells slots ls X hR hS hf hl hcc hs hv => ?_⟩
  have ht := X.2.2.2.2.1
  exact va_mmax X.1 X.2.1 (by rw [X.2.2.1]; exact hv.1.symm) X.2.2.2.1 (ht _ hw) (ht _ sm_J9_max_7cf53) (ht _ in_J9) (ht _ co_J9_max_7cf53) (by omega) (by omega) (by omega) (by omega) hd (hk p e R s m args below meth c H locs cells slots ls X hR hS hf hl hcc hs hv)
theorem rz_mmin {x y : Int32} {i : Nat} (q : Nat) (hd : decode cc pc = .ok (.invokestatic i, 3)) (hq : pc + 3 = q) (hw : Cond.methodLink own i yJ9_min_7cf53 ∈ TB) (hd1 : Nat.ble 1 d = true) (hc : Nat.ble (st.map mcat).sum 8 = true) (kk : Rz v own cc nL ret ini emb d q lv (vI (jMin x y) :: st) mm) : Rz v own cc nL ret ini emb d pc lv (vI y :: vI x :: st) mm := by
  subst hq
  have hd1 : 1 ≤ d := Nat.le_of_ble_eq_true hd1
  have hc8 := mz_cat (v := v) (Nat.le_of_ble_eq_true hc)
  intro σ σ' r hm
  obtain ⟨h0, hk⟩ := kk σ σ' r hm
  refine ⟨h0, fun p e R s m args below meth c H locs cells slots ls X hR hS hf hl hcc hs hv => ?_⟩
  have ht := X.2.2.2.2.1
  exact va_mmin X.1 X.2.1 (by rw [X.2.2.1]; exact hv.1.symm) X.2.2.2.1 (ht _ hw) (ht _ sm_J9_min_7cf53) (ht _ in_J9) (ht _ co_J9_min_7cf53) (by omega) (by omega) (by omega) (by omega) hd (hk p e R s m args below meth c H locs cells slots ls X hR hS hf hl hcc hs hv)
theorem rz_mabs {x : Int64} {i : Nat} (q : Nat) (hd : decode cc pc = .ok (.invokestatic i, 3)) (hq : pc + 3 = q) (hw : Cond.methodLink own i yJ9_abs_067f4 ∈ TB) (hd1 : Nat.ble 1 d = true) (hc : Nat.ble (st.map mcat).sum 8 = true) (kk : Rz v own cc nL ret ini emb d q lv (vL (jAbs x) :: st) mm) : Rz v own cc nL ret ini emb d pc lv (vL x :: st) mm := by
  subst hq
  have hd1 : 1 ≤ d := Nat.le_of_ble_eq_true hd1
  have hc8 := mz_cat (v := v) (Nat.le_of_ble_eq_true hc)
  intro σ σ' r hm
  obtain ⟨h0, hk⟩ := kk σ σ' r hm
  refine ⟨h0, fun p e R s m args below meth c H locs cells slots ls X hR hS hf hl hcc hs hv => ?_⟩
  have ht := X.2.2.2.2.1
  exact va_mabs_long X.1 X.2.1 (by rw [X.2.2.1]; exact hv.1.symm) X.2.2.2.1 (ht _ hw) (ht _ sm_J9_abs_067f4) (ht _ in_J9) (ht _ co_J9_abs_067f4) (by omega) (by omega) (by omega) (by omega) hd (hk p e R s m args below meth c H locs cells slots ls X hR hS hf hl hcc hs hv)
theorem rz_alenL {a : Nat} {f : Int32 → mM α} (q : Nat) (hd : decode cc pc = .ok (.arraylength, 1)) (hq : pc + 1 = q) (kk : ∀ x, Rz v own cc nL ret ini emb d q lv (vI x :: st) (f x)) : Rz v own cc nL ret ini emb d pc lv (vR a :: st) (bLen 12 a f) := by
  subst hq
  intro σ σ' r hm
  unfold bLen at hm
  by_cases hs : (sH σ a).1 = 12
  · rw [if_pos hs] at hm
    obtain ⟨h0, h1⟩ := kk _ σ σ' r hm
    refine ⟨h0, fun p e R s m args below meth c H locs cells slots ls X hR hS hf hl hc hss hv => ?_⟩
    obtain ⟨g0, g1⟩ := hR.2.2 a (by omega)
    rw [List.map_cons, tv_R g0]
    have hcell := mWl_at (v := v) g0 g1
    rw [mC_l hs] at hcell
    exact va_alen (ty := .long) X.1 X.2.1 X.2.2.2.2.2.2.2.2.1 hR.1 (a - 1) 2 hcell rfl rfl hd (h1 p e R s m args below meth c H locs cells slots ls X hR hS hf hl hc hss hv)
  · rw [if_neg hs] at hm; cases hm
def cpI (s : mS) (a0 sp a dp n : Nat) : mS := (fun b i => if b = a ∧ dp ≤ i ∧ i < dp + n then sI s a0 (sp + (i - dp)) else sI s b i, s.2)
def cpL (s : mS) (a0 sp a dp n : Nat) : mS := (s.1, fun b i => if b = a ∧ dp ≤ i ∧ i < dp + n then sL s a0 (sp + (i - dp)) else sL s b i, s.2.2)
abbrev cpOk (k : Nat) (s : mS) (a0 : Nat) (sp : Int32) (a : Nat) (dp n : Int32) : Prop := (sH s a0).1 = k ∧ (sH s a).1 = k ∧ ¬ sp < 0 ∧ ¬ dp < 0 ∧ ¬ n < 0 ∧ sp.toNatClampNeg + n.toNatClampNeg ≤ (sH s a0).2 ∧ dp.toNatClampNeg + n.toNatClampNeg ≤ (sH s a).2
def bCpI (a0 : Nat) (sp : Int32) (a : Nat) (dp n : Int32) {α : Type} (m : mM α) : mM α := fun s => if cpOk 11 s a0 sp a dp n then m (cpI s a0 sp.toNatClampNeg a dp.toNatClampNeg n.toNatClampNeg) else none
def bCpL (a0 : Nat) (sp : Int32) (a : Nat) (dp n : Int32) {α : Type} (m : mM α) : mM α := fun s => if cpOk 12 s a0 sp a dp n then m (cpL s a0 sp.toNatClampNeg a dp.toNatClampNeg n.toNatClampNeg) else none
theorem clampI {z : Int32} (hz : ¬ z < 0) : z.toInt = (z.toNatClampNeg : Int) := by
  obtain ⟨j, hj, e⟩ := nI_of hz
  rw [e, nI_clamp hj, nI_toInt hj]
theorem rz_copyI {a0 a i : Nat} {sp dp n : Int32} (q : Nat) (hd : decode cc pc = .ok (.invokestatic i, 3)) (hq : pc + 3 = q) (hw : Cond.methodLink own i arraycopyName ∈ TB) (hd1 : Nat.ble 1 d = true) (hc : Nat.ble (st.map mcat).sum 8 = true) (kk : Rz v own cc nL ret ini emb d q lv st mm) : Rz v own cc nL ret ini emb d pc lv (vI n :: vI dp :: vR a :: vI sp :: vR a0 :: st) (bCpI a0 sp a dp n mm) := by
  subst hq
  have hd1 : 1 ≤ d := Nat.le_of_ble_eq_true hd1
  have hc8 := mz_cat (v := v) (Nat.le_of_ble_eq_true hc)
  intro σ σ' r hm
  unfold bCpI at hm
  by_cases hs : cpOk 11 σ a0 sp a dp n
  case neg => rw [if_neg hs] at hm; cases hm
  rw [if_pos hs] at hm
  obtain ⟨h0, hk⟩ := kk _ σ' r hm
  refine ⟨h0, fun p e R s m args below meth c H locs cells slots ls X hR hS hf hl hcc hss hv => ?_⟩
  obtain ⟨k0, k1, u1, u2, u3, u4, u5⟩ := hs
  obtain ⟨g0, g1⟩ := hR.2.2 a (by omega)
  obtain ⟨g2, g3⟩ := hR.2.2 a0 (by omega)
  rw [List.map_cons, List.map_cons, List.map_cons, List.map_cons, List.map_cons, tv_R g0, tv_R g2]
  have ha1 := mWl_at (v := v) g0 g1
  rw [mC_i (by decide) k1] at ha1
  have ha0 := mWl_at (v := v) g2 g3
  rw [mC_i (by decide) k0] at ha0
  have ht := X.2.2.2.2.1
  have hK := X.2.2.2.2.2.2.2.2.1
  have hc0 := hR.1 (a0 - 1) _ ha0
  have hc1 := hR.1 (a - 1) _ ha1
  obtain ⟨-, kA, hkA, cmA, hkkA⟩ := (hK.2 1 _ rfl).1 (sH σ a0).2 (fun j => .int (sI σ a0 j))
  obtain ⟨-, kB, hkB, cmB, hkkB⟩ := (hK.2 1 _ rfl).1 (sH σ a).2 (fun j => .int (sI σ a j))
  intro T hT XT
  obtain ⟨vm', X', step⟩ := XT.arraycopy X.1 X.2.2.2.1 (ht _ hw) (ht _ na_java_lang_System_arraycopy__Ljava_lang_Object_ILjava_lang_Object_II_V) (ht _ sm_java_lang_System_arraycopy__Ljava_lang_Object_ILjava_lang_Object_II_V) (ht _ in_J10) (src := eB v + a0) (dst := eB v + a) (cs := vp_cell (eA v 11) ((sH σ a0).2, .inl (sI σ a0))) (cd := vp_cell (eA v 11) ((sH σ a).2, .inl (sI σ a))) (srcPos := sp) (destPos := dp) (n := n) (by rw [hT]; exact hc0) (by rw [hT]; exact hc1)
    (fun _ h => by cases h) (fun _ h => by cases h) (fun h => by cases h) (fun h => by cases h) hkA hkB hkkA hkkB (by rfl) u1 u2 u3
    (by rw [clampI u1, clampI u3]; show ¬ _ > ((arrV _ _ _).slots.size : Int); rw [arrV_size]; omega)
    (by rw [clampI u2, clampI u3]; show ¬ _ > ((arrV _ _ _).slots.size : Int); rw [arrV_size]; omega)
    (fun vm₁ _ i hi => by
      have e : (vp_cell (eA v 11) ((sH σ a0).2, .inl (sI σ a0))).slots.getD (sp.toNatClampNeg + i) .null = .int (sI σ a0 (sp.toNatClampNeg + i)) := by
        show (arrV _ _ _).slots.getD _ _ = _
        rw [Array.getD_eq_getD_getElem?, arrV_read _ _ (by omega)]
        rfl
      refine ⟨?_, ?_⟩
      · rw [e]; rfl
      · rw [e]; exact trivial)
    (g := F0 m pc ls (.int n :: .int dp :: .ref (eB v + a) :: .int sp :: .ref (eB v + a0) :: st.map (tv v))) rfl (by rw [X.2.2.1]; exact hv.1) (rest := st.map (tv v)) rfl (by rw [X.2.1]; exact hd) (by omega) (by show 2 * 0 + _ + (7 + 11) ≤ _; omega)
  have e1 : copied (vp_cell (eA v 11) ((sH σ a0).2, .inl (sI σ a0))) (vp_cell (eA v 11) ((sH σ a).2, .inl (sI σ a))) sp dp n = vp_cell (eA v 11) ((sH σ a).2, .inl (va_cpy (sI σ a0) (sI σ a) sp.toNatClampNeg dp.toNatClampNeg n.toNatClampNeg)) := va_copied (fun z => .int z) _ _ _ _ u4
  rw [e1] at X' step
  generalize hcell : vp_cell (eA v 11) ((sH σ a).2, .inl (va_cpy (sI σ a0) (sI σ a) sp.toNatClampNeg dp.toNatClampNeg n.toNatClampNeg)) = cell at X' step
  have hlt : eB v + a < H.size := (Array.getElem?_eq_some_iff.mp hc1).1
  have hheap : ((T.setVm vm').setCell (eB v + a) cell).heap = H.setIfInBounds (eB v + a) cell := by rw [← hT]; rfl
  have oq : ∀ q : Nat, q ≠ eB v + a → (H.setIfInBounds (eB v + a) cell)[q]? = H[q]? := fun q hq => by simp [Array.getElem?_setIfInBounds, Ne.symm hq]
  have hat : va_at (eD v) vwCl (eB v + a, mC v (cpI σ a0 sp.toNatClampNeg a dp.toNatClampNeg n.toNatClampNeg) a) (H.setIfInBounds (eB v + a) cell) := by
    rw [mC_i (by decide) (show (sH (cpI σ a0 sp.toNatClampNeg a dp.toNatClampNeg n.toNatClampNeg) a).1 = 11 from k1)]
    show (H.setIfInBounds (eB v + a) cell)[eB v + a]? = some (vp_cell _ _)
    rw [Array.getElem?_setIfInBounds, if_pos rfl, if_pos hlt, ← hcell]
    have hfun : va_cpy (sI σ a0) (sI σ a) sp.toNatClampNeg dp.toNatClampNeg n.toNatClampNeg = sI (cpI σ a0 sp.toNatClampNeg a dp.toNatClampNeg n.toNatClampNeg) a := by
      funext j
      simp [va_cpy, cpI, sI]
    rw [hfun]
    rfl
  obtain ⟨t, a1, b1⟩ := hk p e R s m args below meth c _ _ cells slots ls X (mR_set hR g0 g1 rfl rfl (fun b hb => mC_eq (by funext i; simp [cpI, sI, hb]) rfl rfl rfl) hat (by simp) oq)
    ⟨by simp; exact hS.1, fun q h1 h2 => by rw [oq q (fun e => h2 (by show eB v < q; omega))]; exact hS.2.1 q h1 h2, fun q hq => by
      rcases List.mem_append.mp hq with h | h
      · exact hS.2.2 q h
      · obtain ⟨z, -, hz⟩ := List.mem_map.mp h
        rw [← hz]
        show eB v < eB v + a
        omega⟩ hf hl hcc hss hv _ hheap X'
  exact ⟨t, step t a1, b1⟩
theorem rz_copyL {a0 a i : Nat} {sp dp n : Int32} (q : Nat) (hd : decode cc pc = .ok (.invokestatic i, 3)) (hq : pc + 3 = q) (hw : Cond.methodLink own i arraycopyName ∈ TB) (hd1 : Nat.ble 1 d = true) (hc : Nat.ble (st.map mcat).sum 8 = true) (kk : Rz v own cc nL ret ini emb d q lv st mm) : Rz v own cc nL ret ini emb d pc lv (vI n :: vI dp :: vR a :: vI sp :: vR a0 :: st) (bCpL a0 sp a dp n mm) := by
  subst hq
  have hd1 : 1 ≤ d := Nat.le_of_ble_eq_true hd1
  have hc8 := mz_cat (v := v) (Nat.le_of_ble_eq_true hc)
  intro σ σ' r hm
  unfold bCpL at hm
  by_cases hs : cpOk 12 σ a0 sp a dp n
  case neg => rw [if_neg hs] at hm; cases hm
  rw [if_pos hs] at hm
  obtain ⟨h0, hk⟩ := kk _ σ' r hm
  refine ⟨h0, fun p e R s m args below meth c H locs cells slots ls X hR hS hf hl hcc hss hv => ?_⟩
  obtain ⟨k0, k1, u1, u2, u3, u4, u5⟩ := hs
  obtain ⟨g0, g1⟩ := hR.2.2 a (by omega)
  obtain ⟨g2, g3⟩ := hR.2.2 a0 (by omega)
  rw [List.map_cons, List.map_cons, List.map_cons, List.map_cons, List.map_cons, tv_R g0, tv_R g2]
  have ha1 := mWl_at (v := v) g0 g1
  rw [mC_l k1] at ha1
  have ha0 := mWl_at (v := v) g2 g3
  rw [mC_l k0] at ha0
  have ht := X.2.2.2.2.1
  have hK := X.2.2.2.2.2.2.2.2.1
  have hc0 := hR.1 (a0 - 1) _ ha0
  have hc1 := hR.1 (a - 1) _ ha1
  obtain ⟨-, kA, hkA, cmA, hkkA⟩ := (hK.2 2 _ rfl).1 (sH σ a0).2 (fun j => .long (sL σ a0 j))
  obtain ⟨-, kB, hkB, cmB, hkkB⟩ := (hK.2 2 _ rfl).1 (sH σ a).2 (fun j => .long (sL σ a j))
  intro T hT XT
  obtain ⟨vm', X', step⟩ := XT.arraycopy X.1 X.2.2.2.1 (ht _ hw) (ht _ na_java_lang_System_arraycopy__Ljava_lang_Object_ILjava_lang_Object_II_V) (ht _ sm_java_lang_System_arraycopy__Ljava_lang_Object_ILjava_lang_Object_II_V) (ht _ in_J10) (src := eB v + a0) (dst := eB v + a) (cs := vp_cell (eA v 12) ((sH σ a0).2, .inr (.inl (sL σ a0)))) (cd := vp_cell (eA v 12) ((sH σ a).2, .inr (.inl (sL σ a)))) (srcPos := sp) (destPos := dp) (n := n) (by rw [hT]; exact hc0) (by rw [hT]; exact hc1)
    (fun _ h => by cases h) (fun _ h => by cases h) (fun h => by cases h) (fun h => by cases h) hkA hkB hkkA hkkB (by rfl) u1 u2 u3
    (by rw [clampI u1, clampI u3]; show ¬ _ > ((arrV _ _ _).slots.size : Int); rw [arrV_size]; omega)
    (by rw [clampI u2, clampI u3]; show ¬ _ > ((arrV _ _ _).slots.size : Int); rw [arrV_size]; omega)
    (fun vm₁ _ i hi => by
      have e : (vp_cell (eA v 12) ((sH σ a0).2, .inr (.inl (sL σ a0)))).slots.getD (sp.toNatClampNeg + i) .null = .long (sL σ a0 (sp.toNatClampNeg + i)) := by
        show (arrV _ _ _).slots.getD _ _ = _
        rw [Array.getD_eq_getD_getElem?, arrV_read _ _ (by omega)]
        rfl
      refine ⟨?_, ?_⟩
      · rw [e]; rfl
      · rw [e]; exact trivial)
    (g := F0 m pc ls (.int n :: .int dp :: .ref (eB v + a) :: .int sp :: .ref (eB v + a0) :: st.map (tv v))) rfl (by rw [X.2.2.1]; exact hv.1) (rest := st.map (tv v)) rfl (by rw [X.2.1]; exact hd) (by omega) (by show 2 * 0 + _ + (7 + 11) ≤ _; omega)
  have e1 : copied (vp_cell (eA v 12) ((sH σ a0).2, .inr (.inl (sL σ a0)))) (vp_cell (eA v 12) ((sH σ a).2, .inr (.inl (sL σ a)))) sp dp n = vp_cell (eA v 12) ((sH σ a).2, .inr (.inl (va_cpy (sL σ a0) (sL σ a) sp.toNatClampNeg dp.toNatClampNeg n.toNatClampNeg))) := va_copied (fun z => .long z) _ _ _ _ u4
  rw [e1] at X' step
  generalize hcell : vp_cell (eA v 12) ((sH σ a).2, .inr (.inl (va_cpy (sL σ a0) (sL σ a) sp.toNatClampNeg dp.toNatClampNeg n.toNatClampNeg))) = cell at X' step
  have hlt : eB v + a < H.size := (Array.getElem?_eq_some_iff.mp hc1).1
  have hheap : ((T.setVm vm').setCell (eB v + a) cell).heap = H.setIfInBounds (eB v + a) cell := by rw [← hT]; rfl
  have oq : ∀ q : Nat, q ≠ eB v + a → (H.setIfInBounds (eB v + a) cell)[q]? = H[q]? := fun q hq => by simp [Array.getElem?_setIfInBounds, Ne.symm hq]
  have hat : va_at (eD v) vwCl (eB v + a, mC v (cpL σ a0 sp.toNatClampNeg a dp.toNatClampNeg n.toNatClampNeg) a) (H.setIfInBounds (eB v + a) cell) := by
    rw [mC_l (show (sH (cpL σ a0 sp.toNatClampNeg a dp.toNatClampNeg n.toNatClampNeg) a).1 = 12 from k1)]
    show (H.setIfInBounds (eB v + a) cell)[eB v + a]? = some (vp_cell _ _)
    rw [Array.getElem?_setIfInBounds, if_pos rfl, if_pos hlt, ← hcell]
    have hfun : va_cpy (sL σ a0) (sL σ a) sp.toNatClampNeg dp.toNatClampNeg n.toNatClampNeg = sL (cpL σ a0 sp.toNatClampNeg a dp.toNatClampNeg n.toNatClampNeg) a := by
      funext j
      simp [va_cpy, cpL, sL]
    rw [hfun]
    rfl
  obtain ⟨t, a1, b1⟩ := hk p e R s m args below meth c _ _ cells slots ls X (mR_set hR g0 g1 rfl rfl (fun b hb => mC_eq rfl (by funext i; simp [cpL, sL, hb]) rfl rfl) hat (by simp) oq)
    ⟨by simp; exact hS.1, fun q h1 h2 => by rw [oq q (fun e => h2 (by show eB v < q; omega))]; exact hS.2.1 q h1 h2, fun q hq => by
      rcases List.mem_append.mp hq with h | h
      · exact hS.2.2 q h
      · obtain ⟨z, -, hz⟩ := List.mem_map.mp h
        rw [← hz]
        show eB v < eB v + a
        omega⟩ hf hl hcc hss hv _ hheap X'
  exact ⟨t, step t a1, b1⟩
end RZN

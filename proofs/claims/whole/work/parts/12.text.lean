/-! STRING CONSTANTS AND THEIR BYTES: vX z (z < 35) a constant, vX (36 + z) its bytes -/
section RZX
variable {v : mE} {own : String} {cc : ByteArray} {nL : Nat} {ret : Option FieldType} {ini : Bool} {α : Type} {emb : α → Option mV} {d pc : Nat} {lv lv' : List (Nat × mV)} {st st' : List mV} {mm : mM α}
abbrev zB (z : Nat) : List Int32 := zByt.getD z []
def bXk (z : Nat) {α : Type} (m : mM α) : mM α := fun s => if z < 35 then m s else none
theorem rz_xval {z i : Nat} (q : Nat) (hd : decode cc pc = .ok (.getfield i, 3)) (hq : pc + 3 = q) (hw : Cond.fieldLink own i "java/lang/String" "value" "[B" ∈ TB) (kk : Rz v own cc nL ret ini emb d q lv (vX (36 + z) :: st) mm) : Rz v own cc nL ret ini emb d pc lv (vX z :: st) (bXk z mm) := by
  subst hq
  intro σ σ' r hm
  unfold bXk at hm
  by_cases hz : z < 35
  case neg => rw [if_neg hz] at hm; cases hm
  rw [if_pos hz] at hm
  obtain ⟨h0, h1⟩ := kk σ σ' r hm
  refine ⟨h0, fun p e R s m args below meth c H locs cells slots ls X hR hS hf hl hc hss hv => ?_⟩
  obtain ⟨-, -, -, a4, -, a6⟩ := X.2.2.2.2.2.2.2.2.2.2.1 z hz
  have w := h1 p e R s m args below meth c H locs cells slots ls X hR hS hf hl hc hss hv
  rw [List.map_cons, show tv v (vX (36 + z)) = .ref (eK v (36 + z)) from rfl, a6] at w
  exact vk_getf X.1 X.2.1 a4 hS X.2.2.2.1 (X.2.2.2.2.1 _ hw) (fun _ h => h) hd w
theorem rz_xcod {z i : Nat} (q : Nat) (hd : decode cc pc = .ok (.getfield i, 3)) (hq : pc + 3 = q) (hw : Cond.fieldLink own i "java/lang/String" "coder" "B" ∈ TB) (kk : Rz v own cc nL ret ini emb d q lv (vI 0 :: st) mm) : Rz v own cc nL ret ini emb d pc lv (vX z :: st) (bXk z mm) := by
  subst hq
  intro σ σ' r hm
  unfold bXk at hm
  by_cases hz : z < 35
  case neg => rw [if_neg hz] at hm; cases hm
  rw [if_pos hz] at hm
  obtain ⟨h0, h1⟩ := kk σ σ' r hm
  refine ⟨h0, fun p e R s m args below meth c H locs cells slots ls X hR hS hf hl hc hss hv => ?_⟩
  obtain ⟨-, -, a3, -, -, -⟩ := X.2.2.2.2.2.2.2.2.2.2.1 z hz
  exact vk_getf X.1 X.2.1 a3 hS X.2.2.2.1 (X.2.2.2.2.1 _ hw) (fun _ h => h) hd (h1 p e R s m args below meth c H locs cells slots ls X hR hS hf hl hc hss hv)
theorem rz_xcs {i : Nat} (q : Nat) (hd : decode cc pc = .ok (.getstatic i, 3)) (hq : pc + 3 = q) (hw : Cond.fieldLink own i "java/lang/String" "COMPACT_STRINGS" "Z" ∈ TB) (kk : Rz v own cc nL ret ini emb d q lv (vI 1 :: st) mm) : Rz v own cc nL ret ini emb d pc lv st mm := by
  subst hq
  intro σ σ' r hm
  obtain ⟨h0, h1⟩ := kk σ σ' r hm
  refine ⟨h0, fun p e R s m args below meth c H locs cells slots ls X hR hS hf hl hc hss hv => ?_⟩
  exact va_gets X.1 X.2.1 X.2.2.2.2.2.2.2.2.2.2.2.1 hS X.2.2.2.1 (X.2.2.2.2.1 _ hw) (fun _ h => h) hd (h1 p e R s m args below meth c H locs cells slots ls X hR hS hf hl hc hss hv)
theorem rz_xsf {i : Nat} (q : Nat) (hd : decode cc pc = .ok (.getstatic i, 3)) (hq : pc + 3 = q) (hw : Cond.fieldLink own i "jdk/internal/util/Preconditions" "SIOOBE_FORMATTER" "Ljava/util/function/BiFunction;" ∈ TB) (kk : Rz v own cc nL ret ini emb d q lv (vW :: st) mm) : Rz v own cc nL ret ini emb d pc lv st mm := by
  subst hq
  intro σ σ' r hm
  obtain ⟨h0, h1⟩ := kk σ σ' r hm
  refine ⟨h0, fun p e R s m args below meth c H locs cells slots ls X hR hS hf hl hc hss hv => ?_⟩
  exact va_gets X.1 X.2.1 X.2.2.2.2.2.2.2.2.2.2.2.2.2.2.2 hS X.2.2.2.1 (X.2.2.2.2.1 _ hw) (fun _ h => h) hd (h1 p e R s m args below meth c H locs cells slots ls X hR hS hf hl hc hss hv)
def bXl (y : Nat) {α : Type} (f : Int32 → mM α) : mM α := fun s => if 36 ≤ y ∧ y < 71 then f (nI (zB (y - 36)).length) s else none
theorem rz_xlen {y : Nat} {f : Int32 → mM α} (q : Nat) (hd : decode cc pc = .ok (.arraylength, 1)) (hq : pc + 1 = q) (kk : ∀ x, Rz v own cc nL ret ini emb d q lv (vI x :: st) (f x)) : Rz v own cc nL ret ini emb d pc lv (vX y :: st) (bXl y f) := by
  subst hq
  intro σ σ' r hm
  unfold bXl at hm
  by_cases hy : 36 ≤ y ∧ y < 71
  case neg => rw [if_neg hy] at hm; cases hm
  rw [if_pos hy] at hm
  obtain ⟨h0, h1⟩ := kk _ σ σ' r hm
  refine ⟨h0, fun p e R s m args below meth c H locs cells slots ls X hR hS hf hl hc hss hv => ?_⟩
  obtain ⟨-, -, -, -, a5, a6⟩ := X.2.2.2.2.2.2.2.2.2.2.1 (y - 36) (by omega)
  obtain ⟨cell, t1, t2, t3, t4, t5, t6, t7⟩ := a5.kept hS.2.1
  rw [show 36 + (y - 36) = y by omega] at a6
  rw [List.map_cons, show tv v (vX y) = .ref (eK v y) from rfl, a6]
  exact W.alen X.1 X.2.1 t1 t2 t5 rfl rfl hd (h1 p e R s m args below meth c H locs cells slots ls X hR hS hf hl hc hss hv)
def bXb (y : Nat) (i : Int32) {α : Type} (f : Int32 → mM α) : mM α := fun s => if (36 ≤ y ∧ y < 71) ∧ inB i (zB (y - 36)).length then f ((zB (y - 36)).getD i.toNatClampNeg 0) s else none
theorem rz_xald {y : Nat} {i : Int32} {f : Int32 → mM α} (q : Nat) (hd : decode cc pc = .ok (.baload, 1)) (hq : pc + 1 = q) (kk : ∀ x, Rz v own cc nL ret ini emb d q lv (vI x :: st) (f x)) : Rz v own cc nL ret ini emb d pc lv (vI i :: vX y :: st) (bXb y i f) := by
  subst hq
  intro σ σ' r hm
  unfold bXb at hm
  by_cases hy : (36 ≤ y ∧ y < 71) ∧ inB i (zB (y - 36)).length
  case neg => rw [if_neg hy] at hm; cases hm
  rw [if_pos hy] at hm
  obtain ⟨h0, h1⟩ := kk _ σ σ' r hm
  refine ⟨h0, fun p e R s m args below meth c H locs cells slots ls X hR hS hf hl hc hss hv => ?_⟩
  obtain ⟨-, -, -, -, a5, a6⟩ := X.2.2.2.2.2.2.2.2.2.2.1 (y - 36) (by omega)
  obtain ⟨cell, t1, t2, t3, t4, t5, t6, t7⟩ := a5.kept hS.2.1
  rw [show 36 + (y - 36) = y by omega] at a6
  rw [List.map_cons, List.map_cons, show tv v (vX y) = .ref (eK v y) from rfl, a6]
  have hlt : i.toNatClampNeg < (zB (y - 36)).length := Nat.not_le.mp fun q => hy.2 (Or.inr q)
  exact W.bald X.1 X.2.1 t1 t2 t3 (fun h => by rcases h with h | h; exact hy.2 (Or.inl h); exact absurd (Nat.le_trans t4 h) (Nat.not_le.mpr hlt)) (t6 _ hlt) rfl rfl hd (h1 p e R s m args below meth c H locs cells slots ls X hR hS hf hl hc hss hv)
theorem rz_pop {x : mV} (q : Nat) (hd : decode cc pc = .ok (.pop, 1)) (hq : pc + 1 = q) (hx : mcat x = 1) (k : Rz v own cc nL ret ini emb d q lv st mm) : Rz v own cc nL ret ini emb d pc lv (x :: st) mm := by
  subst hq
  exact rz_go (fun p e R s m args below meth c H locs cells slots ls Q X hv w => lv_pop X.1 X.2.1 hd ((tv_cat v x).trans hx) w) k
/-- a byte, a char goes back -/
def bRetN (ty : FieldType) (x : Int32) : mM Int32 := fun s => if vp_nar ty x = x then some (x, s) else none
theorem rz_nreturn {ty : FieldType} {x : Int32} {st : List mV} (hr : ret = some ty) (ht : ty = .byte ∨ ty = .char) (hs : st = []) (hd : decode cc pc = .ok (.ireturn, 1)) : Rz v own cc nL ret ini emI d pc lv (vI x :: st) (bRetN ty x) := by
  intro σ σ' r hm
  unfold bRetN at hm
  by_cases hz : vp_nar ty x = x
  · rw [if_pos hz] at hm
    cases hm
    subst hs
    subst hr
    refine ⟨⟨Nat.le_refl _, Nat.le_refl _⟩, fun p e R s m args below meth c H locs cells slots ls X hR hS hf hl hc hs hv => ?_⟩
    have e1 : cells = R.cells := by omega
    have e2 : slots = R.slots := by omega
    subst e1 e2
    have hlk := X.2.2.2.2.2.2.1
    exact W.zret (v := x) X.1 X.2.1 X.2.2.2.2.2.1 (by rcases ht with h | h <;> subst h <;> exact congrArg Value.int hz) (fun t ht _ => ⟨rfl, by rw [ht]; exact hR, hS.F ht⟩) hS.2.2 hd hlk
  · rw [if_neg hz] at hm; cases hm
/-- a call on a constant -/
def bCallX (z : Nat) {β : Type} (F : mM β) {α : Type} (k : β → mM α) : mM α := fun s => if z < 35 then bCall F k s else none
theorem rz_callX {y : MethodName} {c2 : ByteArray} {n2 i z : Nat} {r2 : Option FieldType} {β : Type} {em2 : β → Option mV} {As rest : List mV} {F : mM β} {f : β → mM α} (q : Nat) (hd : decode cc pc = .ok (.invokevirtual i, 3)) (hq : pc + 3 = q) (hM : Mt v y c2 n2 r2 em2 d (vX z :: As) F) (hst : st = As.reverse ++ vX z :: rest) (hy : yOk y As.length = true) (hcl : y.cls = "java/lang/String") (h1 : Cond.methodLink own i y ∈ TB) (h2 : Cond.instanceMethod y ∈ TB) (h3 : Cond.selects "java/lang/String" y y ∈ TB) (h4 : Cond.initialized "java/lang/String" ∈ TB) (h5 : Cond.code y c2 n2 r2 ∈ TB) (hn : Nat.ble n2 80 = true) (hc8 : Nat.ble (rest.map mcat).sum 8 = true)
    (kk : ∀ x, Rz v own cc nL ret ini emb (d + 1) q lv ((em2 x).toList ++ rest) (f x)) : Rz v own cc nL ret ini emb (d + 1) pc lv st (bCallX z F f) := by
  subst hq
  subst hst
  have hn : n2 ≤ 80 := Nat.le_of_ble_eq_true hn
  have hc8 : (rest.map mcat).sum ≤ 8 := Nat.le_of_ble_eq_true hc8
  intro σ σ' r hm
  unfold bCallX at hm
  by_cases hz : z < 35
  case neg => rw [if_neg hz] at hm; cases hm
  rw [if_pos hz] at hm
  unfold bCall at hm
  split at hm
  · rename_i x t hF
    obtain ⟨m0, hMet⟩ := hM σ t x hF
    obtain ⟨n0, hk⟩ := kk x t σ' r hm
    refine ⟨⟨by omega, by omega⟩, fun p e R s m args below meth c H locs cells slots ls X hR hS hf hl hc hss hv => ?_⟩
    have hK := X.2.2.2.2.2.2.2.2
    obtain ⟨cell, t1, t2, t3, t4⟩ := (hK.2.2.1 z hz).2.1.kept hS.2.1
    have hpre := mz_pre (vs := (vX z :: As).map (tv v)) hK hR hS
    rw [List.map_append, List.map_cons, List.map_reverse]
    have hrun := va_runV (C := "java/lang/String") (As := As.map (tv v)) (rest := rest.map (tv v)) (own := own) (g := F0 m pc ls ((As.map (tv v)).reverse ++ .ref (eK v z) :: rest.map (tv v))) (below := below) (cells := cells) (slots := slots) (locs := locs) (R := R) (e := e) (meth := meth) ⟨X.1, X.2.1, X.2.2.1, X.2.2.2.1, X.2.2.2.2.1⟩ hMet
      (cwV As.length X.2.2.2.2.1 (show GoodIn TB (wsV own i "java/lang/String" y (Cond.code y c2 n2 r2 :: TB)) from tb_code (ws := [.methodLink own i y, .instanceMethod y, .selects "java/lang/String" y y, .initialized "java/lang/String"]) h5 (by intro w hw; simp only [List.mem_cons, List.not_mem_nil, or_false] at hw; rcases hw with rfl | rfl | rfl | rfl <;> assumption)) rfl rfl rfl ⟨hcl, yOk_k hy⟩ ⟨by show d + 1 ≤ _; omega, by show 8 + (n2 + 11) + 100 * d ≤ _; omega⟩)
      ⟨hpre.1, ⟨cell, t1, t2, t3⟩, hpre.2⟩ rfl (by rw [List.length_map]) hv.1 rfl (lv_room (mz_cat hc8)) hd ⟨by omega, by omega⟩
    refine mz_call hrun hS fun H1 locs1 hR1 hS1 => ?_
    have w := hk p e R s m args below meth c H1 locs1 (cells + (sZ t - sZ σ)) (slots + (sW t - sW σ)) ls X hR1 hS1 hf hl (by omega) (by omega) hv
    rw [List.map_append] at w
    cases hx : em2 x <;> rw [hx] at w <;> exact w
  · cases hm
end RZX

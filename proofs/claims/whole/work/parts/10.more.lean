/-! SMALL THINGS THAT THE PRINTED PROGRAMS USE -/
/-- turns that a loop may take: far above what any run needs -/
def fu : Nat := 5000
section RZM
variable {v : mE} {own : String} {cc : ByteArray} {nL : Nat} {ret : Option FieldType} {ini : Bool} {α : Type} {emb : α → Option mV} {d pc : Nat} {lv lv' : List (Nat × mV)} {st st' : List mV} {mm : mM α}
theorem rz_sub (ks : List Nat) (h : ks.filterMap (fun k => lv[k]?) = lv') (k : Rz v own cc nL ret ini emb d pc lv' st mm) : Rz v own cc nL ret ini emb d pc lv st mm := by
  intro σ σ' r hm
  obtain ⟨h0, hk⟩ := k σ σ' r hm
  refine ⟨h0, fun p e R s m args below meth c H locs cells slots ls X hR hS hf hl hc hs hv => hk p e R s m args below meth c H locs cells slots ls X hR hS hf hl hc hs (lv_sub hv ks ?_)⟩
  subst h
  unfold lv_pick mLv
  rw [List.map_filterMap]
  congr 1
  funext k
  rw [List.getElem?_map]
theorem rz_pr {n : Nat} {m : mM α} (k : Rz v own cc nL ret ini emb d n lv st m) : Rz v own cc nL ret ini emb d (n, m).1 lv st (n, m).2 := k
/-- where no good run comes -/
def bFail {α : Type} : mM α := fun _ => none
theorem rz_fail : Rz v own cc nL ret ini emb d pc lv st bFail := fun _ _ _ hm => by cases hm
/-- the script -/
def bScr (v : mE) (i : Int32) {α : Type} (f : Int32 → mM α) : mM α := fun s => if inB i (eN v) then f (eS v i.toNatClampNeg) s else none
theorem rz_scr {i : Int32} {z : Nat} {f : Int32 → mM α} (q : Nat) (hd : decode cc pc = .ok (.iaload, 1)) (hq : pc + 1 = q) (hz : z = 35) (kk : ∀ x, Rz v own cc nL ret ini emb d q lv (vI x :: st) (f x)) : Rz v own cc nL ret ini emb d pc lv (vI i :: vX z :: st) (bScr v i f) := by
  subst hq
  subst hz
  intro σ σ' r hm
  unfold bScr at hm
  by_cases hs : inB i (eN v)
  · rw [if_pos hs] at hm
    obtain ⟨h0, h1⟩ := kk _ σ σ' r hm
    refine ⟨h0, fun p e R s m args below meth c H locs cells slots ls X hR hS hf hl hc hss hv => ?_⟩
    have hK := X.2.2.2.2.2.2.2.2
    obtain ⟨-, hB, -, -, hX, hle, -⟩ := hK
    exact va_sld X.1 X.2.1 hX (Nat.lt_of_le_of_lt hle hB) (Nat.not_lt.mpr hle) hS hs hd (h1 p e R s m args below meth c H locs cells slots ls X hR hS hf hl hc hss hv)
  · rw [if_neg hs] at hm; cases hm
theorem rz_scrLen {z : Nat} (q : Nat) (hd : decode cc pc = .ok (.arraylength, 1)) (hq : pc + 1 = q) (hz : z = 35) (kk : Rz v own cc nL ret ini emb d q lv (vI (Int32.ofNat (eN v)) :: st) mm) : Rz v own cc nL ret ini emb d pc lv (vX z :: st) mm := by
  subst hq
  subst hz
  intro σ σ' r hm
  obtain ⟨h0, h1⟩ := kk σ σ' r hm
  refine ⟨h0, fun p e R s m args below meth c H locs cells slots ls X hR hS hf hl hc hss hv => ?_⟩
  have hK := X.2.2.2.2.2.2.2.2
  obtain ⟨-, hB, -, -, hX, hle, -⟩ := hK
  exact va_slen X.1 X.2.1 hX (Nat.lt_of_le_of_lt hle hB) (Nat.not_lt.mpr hle) hS hd (h1 p e R s m args below meth c H locs cells slots ls X hR hS hf hl hc hss hv)
end RZM
theorem nw_X8_42 {v : mE} : ∀ s, mK v s → va_Nw (.methodLinkNest RX8 42 yX2_init RX8) s := fun _ h => h.2.2.2.2.2.2.1.1
theorem nw_X8_67 {v : mE} : ∀ s, mK v s → va_Nw (.methodLinkNest RX8 67 yX5_init RX8) s := fun _ h => h.2.2.2.2.2.2.1.2.1
theorem nw_X7_68 {v : mE} : ∀ s, mK v s → va_Nw (.methodLinkNest RX7 68 yX3_init RX8) s := fun _ h => h.2.2.2.2.2.2.1.2.2.1
theorem ao_14 (v : mE) : ∀ (args : Array Value) (s : State), mK v s → (∀ w ∈ TB, w.before args s = true) → va_AO (mRn (eKd 14)) s := fun _ _ h _ => h.2.2.2.2.2.2.1.2.2.2.1
theorem ao_15 (v : mE) : ∀ (args : Array Value) (s : State), mK v s → (∀ w ∈ TB, w.before args s = true) → va_AO (mRn (eKd 15)) s := fun _ _ h _ => h.2.2.2.2.2.2.1.2.2.2.2.1
theorem ao_16 (v : mE) : ∀ (args : Array Value) (s : State), mK v s → (∀ w ∈ TB, w.before args s = true) → va_AO (mRn (eKd 16)) s := fun _ _ h _ => h.2.2.2.2.2.2.1.2.2.2.2.2

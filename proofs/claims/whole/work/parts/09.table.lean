/-! A SWITCH ON 0, 1, .. -/
def bSw (x : Int32) (k : Nat) {α : Type} : List (Nat × mM α) → mM α → mM α
  | [], dm => dm
  | q :: l, dm => fun s => if x = nI k then q.2 s else bSw x (k + 1) l dm s
theorem bSw_in (x : Int32) {α : Type} (dm : mM α) (s : mS) : ∀ (l : List (Nat × mM α)) (k j : Nat) (q : Nat × mM α), k + l.length < 2 ^ 31 → l[j]? = some q → x = nI (k + j) → bSw x k l dm s = q.2 s
  | [], _, _, _, _, h, _ => by simp at h
  | p :: l, k, j, q, hk, h, hx => by
    unfold bSw
    cases j with
    | zero =>
      simp at h
      subst h
      rw [if_pos (by rw [hx]; rfl)]
    | succ j =>
      have hj : j < l.length := (List.getElem?_eq_some_iff.mp (show l[j]? = some q by simpa using h)).1
      rw [List.length_cons] at hk
      rw [if_neg (by rw [hx]; intro e; have := (nI_eq (by omega) (by omega)).mp e; omega)]
      exact bSw_in x dm s l (k + 1) j q (by omega) (by simpa using h) (by rw [hx]; congr 1; omega)
theorem bSw_out (x : Int32) {α : Type} (dm : mM α) (s : mS) : ∀ (l : List (Nat × mM α)) (k : Nat), k + l.length < 2 ^ 31 → (x.toInt < k ∨ (k : Int) + l.length ≤ x.toInt) → bSw x k l dm s = dm s
  | [], _, _, _ => rfl
  | p :: l, k, hk, h => by
    unfold bSw
    rw [List.length_cons] at hk h
    rw [if_neg (by intro e; rw [e, nI_toInt (by omega)] at h; omega)]
    exact bSw_out x dm s l (k + 1) (by omega) (by omega)
section RZT
variable {v : mE} {own : String} {cc : ByteArray} {nL : Nat} {ret : Option FieldType} {ini : Bool} {α : Type} {emb : α → Option mV} {d pc : Nat} {lv lv' : List (Nat × mV)} {st st' : List mV} {mm : mM α}
theorem rz_table {x : Int32} {df hi : Int} {offs : Array Int} {len : Nat} {L : List (Nat × mM α)} {dm : mM α} (qd : Nat) (hd : decode cc pc = .ok (.tableswitch df 0 hi offs, len)) (hq : (pc : Int) + df = (qd : Int)) (hL : Nat.blt L.length 1000 = true) (hh : hi = (L.length : Int) - 1) (ho : offs.toList.map (fun o => (pc : Int) + o) = (L.map (fun q => q.1)).map (fun n => (n : Int))) (kd : Rz v own cc nL ret ini emb d qd lv st dm) (kk : ∀ q ∈ L, Rz v own cc nL ret ini emb d q.1 lv st q.2) : Rz v own cc nL ret ini emb d pc lv (vI x :: st) (bSw x 0 L dm) := by
  have hL : L.length < 1000 := Nat.le_of_ble_eq_true hL
  intro σ σ' r hm
  by_cases hx : x.toInt < 0 ∨ (L.length : Int) ≤ x.toInt
  · rw [bSw_out x dm σ L 0 (by omega) (by omega)] at hm
    obtain ⟨h0, hk⟩ := kd σ σ' r hm
    refine ⟨h0, fun p e R s m args below meth c H locs cells slots ls X hR hS hf hl hcc hs hv => ?_⟩
    exact lv_tableOut X.1 X.2.1 hd (by omega) hq (hk p e R s m args below meth c H locs cells slots ls X hR hS hf hl hcc hs hv)
  · have h0x : ¬ x < 0 := by rw [Int32.lt_iff_toInt_lt, Int32.toInt_zero]; omega
    obtain ⟨j, hj, e⟩ := nI_of h0x
    have hjt : x.toInt = (j : Int) := by rw [e, nI_toInt hj]
    have hjl : j < L.length := by omega
    have hget : L[j]? = some L[j] := List.getElem?_eq_getElem hjl
    rw [bSw_in x dm σ L 0 j _ (by omega) hget (by rw [e]; congr 1; omega)] at hm
    obtain ⟨h0, hk⟩ := kk _ (List.mem_of_getElem? hget) σ σ' r hm
    refine ⟨h0, fun p e R s m args below meth c H locs cells slots ls X hR hS hf hl hcc hs hv => ?_⟩
    have h1 : (offs.toList.map (fun o => (pc : Int) + o))[j]? = some ((L[j].1 : Nat) : Int) := by
      rw [ho, List.getElem?_map, List.getElem?_map, hget]; rfl
    rw [List.getElem?_map] at h1
    cases h2 : offs.toList[j]? with
    | none => rw [h2] at h1; cases h1
    | some off =>
      rw [h2] at h1
      have h3 : (pc : Int) + off = ((L[j].1 : Nat) : Int) := Option.some.inj h1
      exact lv_tableIn X.1 X.2.1 hd (by omega) (by omega) (by rw [← Array.getElem?_toList, hjt]; show offs.toList[((j : Int) - 0).toNat]? = some off; rw [show ((j : Int) - 0).toNat = j by omega]; exact h2) h3 (hk p e R s m args below meth c H locs cells slots ls X hR hS hf hl hcc hs hv)
end RZT

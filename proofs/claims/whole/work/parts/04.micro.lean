/-! THE SMALL MACHINE. Values and states of our own, over which every method's meaning is told; how they lie in the machine's heap. -/
abbrev mV : Type := Int32 ⊕ (Int64 ⊕ (Nat ⊕ (Nat ⊕ Unit)))
abbrev vI (x : Int32) : mV := Sum.inl x
abbrev vL (x : Int64) : mV := Sum.inr (Sum.inl x)
abbrev vR (a : Nat) : mV := Sum.inr (Sum.inr (Sum.inl a))
abbrev vX (i : Nat) : mV := Sum.inr (Sum.inr (Sum.inr (Sum.inl i)))
/-- what a static of the JDK's holds: null, or some cell -/
abbrev vW : mV := Sum.inr (Sum.inr (Sum.inr (Sum.inr ())))
/-- what is fixed over a run: launch, the last old address, classes and slots, array classes, addresses of constants and of the script (35), of their bytes, the script -/
abbrev mE : Type := Launch × Nat × va_G × (Nat → ClassId) × (Nat → Nat) × (Nat → Nat) × Nat × (Nat → Int32)
abbrev eLn (v : mE) : Launch := v.1
abbrev eB (v : mE) : Nat := v.2.1
abbrev eD (v : mE) : va_G := v.2.2.1
abbrev eA (v : mE) : Nat → ClassId := v.2.2.2.1
abbrev eK (v : mE) : Nat → Nat := v.2.2.2.2.1
abbrev eU (v : mE) : Nat → Nat := v.2.2.2.2.2.1
abbrev eN (v : mE) : Nat := v.2.2.2.2.2.2.1
abbrev eS (v : mE) : Nat → Int32 := v.2.2.2.2.2.2.2
/-- a state: ints, longs, references by cell and place; each cell's kind and length; how many cells, how many slots were made -/
abbrev mS : Type := (Nat → Nat → Int32) × (Nat → Nat → Int64) × (Nat → Nat → Nat) × (Nat → Nat × Nat) × Nat × Nat
abbrev sI (s : mS) : Nat → Nat → Int32 := s.1
abbrev sL (s : mS) : Nat → Nat → Int64 := s.2.1
abbrev sP (s : mS) : Nat → Nat → Nat := s.2.2.1
abbrev sH (s : mS) : Nat → Nat × Nat := s.2.2.2.1
abbrev sZ (s : mS) : Nat := s.2.2.2.2.1
abbrev sW (s : mS) : Nat := s.2.2.2.2.2
def mr (v : mE) (a : Nat) : Option Nat := if a = 0 then none else some (eB v + a)
def tv (v : mE) (x : mV) : Value := match x with
  | .inl x => .int x
  | .inr (.inl x) => .long x
  | .inr (.inr (.inl a)) => va_rf (mr v a)
  | .inr (.inr (.inr (.inl i))) => .ref (eK v i)
  | .inr (.inr (.inr (.inr _))) => if eK v 81 = 0 then .null else .ref (eK v 80)
def mcat (x : mV) : Nat := match x with
  | .inr (.inl _) => 2
  | _ => 1
theorem tv_cat (v : mE) (x : mV) : (tv v x).category = mcat x := by
  rcases x with x | x | a | i | u
  · rfl
  · rfl
  · show (va_rf (mr v a)).category = 1
    unfold mr
    by_cases h : a = 0
    · rw [if_pos h]; rfl
    · rw [if_neg h]; rfl
  · rfl
  · show (if eK v 81 = 0 then Value.null else Value.ref (eK v 80)).category = 1
    by_cases h : eK v 81 = 0
    · rw [if_pos h]; rfl
    · rw [if_neg h]; rfl
theorem tv_R {v : mE} {a : Nat} (h : 0 < a) : tv v (vR a) = .ref (eB v + a) := by
  show va_rf (mr v a) = _
  unfold mr
  rw [if_neg (by omega)]
  rfl
theorem tv_0 {v : mE} : tv v (vR 0) = .null := rfl
def mTy (k : Nat) : Nat → FieldType := match k with
  | 0 => tyX0 | 1 => tyX1 | 2 => tyX2 | 3 => tyX3 | 4 => tyX4 | 5 => tyX5 | 6 => tyX6 | 7 => tyX7 | 8 => tyX8 | _ => tyX9
def mTt (k : Nat) : u_T := match k with
  | 0 => TX0 | 1 => TX1 | 2 => TX2 | 3 => TX3 | 4 => TX4 | 5 => TX5 | 6 => TX6 | 7 => TX7 | 8 => TX8 | _ => TX9
def mRn (k : Nat) : String := match k with
  | 0 => RX0 | 1 => RX1 | 2 => RX2 | 3 => RX3 | 4 => RX4 | 5 => RX5 | 6 => RX6 | 7 => RX7 | 8 => RX8 | _ => RX9
def mN (k : Nat) : Nat := match k with
  | 0 => 2 | 1 => 5 | 2 => 7 | 3 => 8 | 4 => 9 | 5 => 3 | 6 => 10 | 7 => 17 | 8 => 16 | _ => 33
/-- what a field of a type holds -/
def mF (v : mE) (s : mS) (a k : Nat) (ty : FieldType) : Value := match ty with
  | .long => .long (sL s a k)
  | .object _ => tv v (vR (sP s a k))
  | .array _ => tv v (vR (sP s a k))
  | _ => .int (sI s a k)
/-- kinds: 0 .. 9 the classes X0 .. X9; 10 byte[], 11 int[], 12 long[], 13 boolean[], 14 Rope[], 15 Tray[], 16 World[] -/
def mC (v : mE) (s : mS) (a : Nat) : va_E :=
  if (sH s a).1 < 10 then .inr ((sH s a).1, (List.range (mN (sH s a).1)).map (fun j => mF v s a j (mTy (sH s a).1 j)))
  else .inl (eA v (sH s a).1, (sH s a).2, if (sH s a).1 = 12 then .inr (.inl (sL s a)) else if (sH s a).1 ≤ 13 then .inl (sI s a) else .inr (.inr (.inr (.inr (fun i => mr v (sP s a i))))))
def mWl (v : mE) (s : mS) : va_W := (List.range (sZ s)).map (fun i => (eB v + (i + 1), mC v s (i + 1)))
def mT (v : mE) : List (ClassId × FieldType) := [(eA v 10, .byte), (eA v 11, .int), (eA v 12, .long), (eA v 13, .boolean), (eA v 14, .object RX3), (eA v 15, .object RX5), (eA v 16, .object RX7)]
abbrev mA (v : mE) : Nat → Prop := fun q => eB v < q
/-- the state lies in the heap; only cells that were made have a kind -/
def mR (v : mE) (s : mS) (H : Heap) : Prop := va_P (eD v) vwCl (mWl v s) H ∧ H.size = eB v + 1 + sZ s ∧ ∀ a, (sH s a).1 < 17 → 0 < a ∧ a ≤ sZ s
theorem mWl_at {v : mE} {s : mS} {a : Nat} (h0 : 0 < a) (h1 : a ≤ sZ s) : (mWl v s)[a - 1]? = some (eB v + a, mC v s a) := by
  unfold mWl
  rw [List.getElem?_map, List.getElem?_range (by omega)]
  show some (eB v + (a - 1 + 1), mC v s (a - 1 + 1)) = _
  rw [show a - 1 + 1 = a by omega]
theorem mWl_D {v : mE} {s : mS} : va_D (mA v) (mWl v s) := by
  refine ⟨fun i j p q hp hq e => ?_, fun k q hq => ?_⟩
  · unfold mWl at hp hq
    rw [List.getElem?_map] at hp hq
    have hi : i < sZ s := by
      rcases Nat.lt_or_ge i (sZ s) with h | h
      · exact h
      · rw [List.getElem?_eq_none (by simpa using h)] at hp; cases hp
    have hj : j < sZ s := by
      rcases Nat.lt_or_ge j (sZ s) with h | h
      · exact h
      · rw [List.getElem?_eq_none (by simpa using h)] at hq; cases hq
    rw [List.getElem?_range hi] at hp
    rw [List.getElem?_range hj] at hq
    cases hp; cases hq
    have e : eB v + (i + 1) = eB v + (j + 1) := e
    omega
  · unfold mWl at hq
    rw [List.getElem?_map] at hq
    have hk : k < sZ s := by
      rcases Nat.lt_or_ge k (sZ s) with h | h
      · exact h
      · rw [List.getElem?_eq_none (by simpa using h)] at hq; cases hq
    rw [List.getElem?_range hk] at hq
    cases hq
    show eB v < eB v + (k + 1)
    omega
/-- a state that differs in one cell alone -/
theorem mWl_set {v : mE} {s t : mS} {a : Nat} (h0 : 0 < a) (hz : sZ t = sZ s) (ho : ∀ b, b ≠ a → mC v t b = mC v s b) : mWl v t = (mWl v s).set (a - 1) (eB v + a, mC v t a) := by
  apply List.ext_getElem?
  intro i
  unfold mWl
  rw [hz, List.getElem?_set]
  by_cases hi : i < sZ s
  · rw [List.getElem?_map, List.getElem?_map, List.getElem?_range hi]
    by_cases h : a - 1 = i
    · rw [if_pos h, if_pos (by simpa using (by omega : a - 1 < sZ s))]
      subst h
      show some (eB v + (a - 1 + 1), mC v t (a - 1 + 1)) = _
      rw [show a - 1 + 1 = a by omega]
    · rw [if_neg h]
      show some (eB v + (i + 1), mC v t (i + 1)) = some (eB v + (i + 1), mC v s (i + 1))
      rw [ho (i + 1) (by omega)]
  · have hn : ∀ f : Nat → Nat × va_E, ((List.range (sZ s)).map f)[i]? = none := fun f => List.getElem?_eq_none (by simpa using Nat.not_lt.mp hi)
    rw [hn, hn]
    by_cases h : a - 1 = i
    · rw [if_pos h, if_neg (by simpa using (by omega : ¬ a - 1 < sZ s))]
    · rw [if_neg h]
/-- a state with one cell more -/
theorem mWl_push {v : mE} {s t : mS} (hz : sZ t = sZ s + 1) (ho : ∀ b, 0 < b → b ≤ sZ s → mC v t b = mC v s b) : mWl v t = mWl v s ++ [(eB v + (sZ s + 1), mC v t (sZ s + 1))] := by
  unfold mWl
  rw [hz, List.range_succ, List.map_append]
  congr 1
  apply List.map_congr_left
  intro i hi
  have hi : i < sZ s := List.mem_range.mp hi
  show (eB v + (i + 1), mC v t (i + 1)) = (eB v + (i + 1), mC v s (i + 1))
  rw [ho (i + 1) (by omega) (by omega)]
/-- the String constants of the program, by their places: who loads it, its entry, its text, its bytes -/
def zOwn : List String := [RX1, RX1, RX1, RX1, RX1, RX1, RX1, RX1, RX1, RX1, RX1, RX1, RX1, RX1, RX1, RX1, RX1, RX1, RX4, RX6, RX6, RX6, RX6, RX6, RX6, RX6, RX6, RX6, RX6, RX6, RX6, RX6, RX6, RX6, RX6]
def zIdx : List Nat := [53, 69, 92, 94, 99, 117, 119, 121, 123, 125, 127, 129, 131, 133, 135, 137, 139, 141, 49, 64, 77, 85, 90, 110, 118, 122, 133, 147, 152, 169, 173, 177, 179, 188, 205]
def zTx : List String := ["if", "give", "and", "or", "not", "holy", "reaches", "yards", "reach", "knots", "age", "heirs", "year", "eldest", "youngest", "poorest", "each", "well", ";<>=()", "water", "person", "rope", "flood", "bottom", "sinks", "rain", "by", "of", "dies", "holy", "slips", "yards", "age", "to", "water bottom sinks rain by person of dies rope yards age holy slips flood to if give or and not heirs reaches reach knots year eldest youngest poorest each well "]
def zByt : List (List Int32) := [[105, 102], [103, 105, 118, 101], [97, 110, 100], [111, 114], [110, 111, 116], [104, 111, 108, 121], [114, 101, 97, 99, 104, 101, 115], [121, 97, 114, 100, 115], [114, 101, 97, 99, 104], [107, 110, 111, 116, 115], [97, 103, 101], [104, 101, 105, 114, 115], [121, 101, 97, 114], [101, 108, 100, 101, 115, 116], [121, 111, 117, 110, 103, 101, 115, 116], [112, 111, 111, 114, 101, 115, 116], [101, 97, 99, 104], [119, 101, 108, 108], [59, 60, 62, 61, 40, 41], [119, 97, 116, 101, 114], [112, 101, 114, 115, 111, 110], [114, 111, 112, 101], [102, 108, 111, 111, 100], [98, 111, 116, 116, 111, 109], [115, 105, 110, 107, 115], [114, 97, 105, 110], [98, 121], [111, 102], [100, 105, 101, 115], [104, 111, 108, 121], [115, 108, 105, 112, 115], [121, 97, 114, 100, 115], [97, 103, 101], [116, 111], [119, 97, 116, 101, 114, 32, 98, 111, 116, 116, 111, 109, 32, 115, 105, 110, 107, 115, 32, 114, 97, 105, 110, 32, 98, 121, 32, 112, 101, 114, 115, 111, 110, 32, 111, 102, 32, 100, 105, 101, 115, 32, 114, 111, 112, 101, 32, 121, 97, 114, 100, 115, 32, 97, 103, 101, 32, 104, 111, 108, 121, 32, 115, 108, 105, 112, 115, 32, 102, 108, 111, 111, 100, 32, 116, 111, 32, 105, 102, 32, 103, 105, 118, 101, 32, 111, 114, 32, 97, 110, 100, 32, 110, 111, 116, 32, 104, 101, 105, 114, 115, 32, 114, 101, 97, 99, 104, 101, 115, 32, 114, 101, 97, 99, 104, 32, 107, 110, 111, 116, 115, 32, 121, 101, 97, 114, 32, 101, 108, 100, 101, 115, 116, 32, 121, 111, 117, 110, 103, 101, 115, 116, 32, 112, 111, 111, 114, 101, 115, 116, 32, 101, 97, 99, 104, 32, 119, 101, 108, 108, 32]]
/-- the constants lie in the old heap -/
def mSt (v : mE) (U : State) (H : Heap) : Prop := ∀ i, i < 35 → vk_R (zOwn.getD i "") (zIdx.getD i 0) (zTx.getD i "") (eK v i) U ∧ va_O "java/lang/String" (eK v i) (mA v) U H ∧ va_OF "java/lang/String" "coder" "B" (.int 0) (eK v i) (mA v) U H ∧ va_OF "java/lang/String" "value" "[B" (.ref (eU v i)) (eK v i) (mA v) U H ∧ va_T .byte (eU v i) (zByt.getD i []).length (fun j => .int ((zByt.getD i []).getD j 0)) (mA v) U H ∧ eK v (36 + i) = eU v i
def mNw (U : State) : Prop := va_Nw (.methodLinkNest RX8 42 yX2_init RX8) U ∧ va_Nw (.methodLinkNest RX8 67 yX5_init RX8) U ∧ va_Nw (.methodLinkNest RX7 68 yX3_init RX8) U ∧ va_AO RX3 U ∧ va_AO RX5 U ∧ va_AO RX7 U
/-- what every method's start knows of the machine -/
def mK (v : mE) (U : State) : Prop := va_K (eD v) vwCl (mT v) U ∧ eB v < U.heap.size ∧ mSt v U U.heap ∧ va_Z "java/lang/String" "COMPACT_STRINGS" "Z" (.int 1) (mA v) U U.heap ∧ va_X (eK v 35) (eN v) (eS v) U U.heap ∧ eK v 35 ≤ eB v ∧ mNw U ∧ va_Z "jdk/internal/util/Preconditions" "SIOOBE_FORMATTER" "Ljava/util/function/BiFunction;" (tv v vW) (mA v) U U.heap
theorem mK_go {v : mE} {s U : State} (h : mK v s) (hW : s.WarmedH U.vm) (hz : eB v < U.heap.size) (hh : ∀ q, q ≤ eB v → U.heap[q]? = s.heap[q]?) : mK v U := by
  obtain ⟨h1, h2, h3, h4, h5, h6, ⟨h7, h8, h9, a14, a15, a16⟩, hF⟩ := h
  have ha := hW.alike
  have hq : ∀ a : Nat, a < s.heap.size → ¬ mA v a → U.heap[a]? = s.heap[a]? := fun a _ hn => hh a (Nat.not_lt.mp hn)
  refine ⟨va_K.moved ha h1, hz, fun i hi => ?_, (h4.moved ha).kept hq, (h5.moved ha).kept (hh _ h6), h6, ⟨va_Nw.warmM hW h7, va_Nw.warmM hW h8, va_Nw.warmM hW h9, a14.moved ha, a15.moved ha, a16.moved ha⟩, (hF.moved ha).kept hq⟩
  obtain ⟨a1, a2, a3, a4, a5, a6⟩ := h3 i hi
  exact ⟨a1.warm hW, (a2.moved ha).kept hq, (a3.moved ha).kept hq, (a4.moved ha).kept hq, (a5.moved ha).kept hq, a6⟩
theorem mK_same {v : mE} {s U : State} (h : mK v s) (hv : U.vm = s.vm) (hh : U.heap = s.heap) : mK v U := by
  obtain ⟨h1, h2, h3, h4, h5, h6, ⟨h7, h8, h9, a14, a15, a16⟩, hF⟩ := h
  have ha : s.vm.Alike U.vm := by rw [hv]; exact Vm.Alike.refl s.vm
  refine ⟨va_K.moved ha h1, by rw [hh]; exact h2, fun i hi => ?_, by rw [hh]; exact h4.moved ha, by rw [hh]; exact h5.moved ha, h6, ⟨va_Nw.same rfl hv.symm h7, va_Nw.same rfl hv.symm h8, va_Nw.same rfl hv.symm h9, a14.moved ha, a15.moved ha, a16.moved ha⟩, by rw [hh]; exact hF.moved ha⟩
  obtain ⟨a1, a2, a3, a4, a5, a6⟩ := h3 i hi
  rw [hh]
  exact ⟨a1.same hv, a2.moved ha, a3.moved ha, a4.moved ha, a5.moved ha, a6⟩

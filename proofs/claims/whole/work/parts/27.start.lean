/-! FROM THE SMALL PROGRAM OF THE LAW TO THE CLAIM -/
def mS0 : mS := (fun _ _ => 0, fun _ _ => 0, fun _ _ => 0, fun _ => (99, 0), 0, 0)
theorem str_one {args : Array Value} {s : State} {A : Nat → Prop} (hA : ∀ a : Nat, a < s.heap.size → ¬ A a) {own tx : String} {k : Nat} {byt : List Int32} (hN : byt.length < 2 ^ 31) (hsr : (Cond.stringRef own k tx).before args s = true) (hex : Cond.before (Jvm.Cond.exactly (Jvm.Term.string own k) "java/lang/String") args s = true) (hco : Cond.before (Jvm.Cond.eq (Jvm.Term.field (Jvm.Term.string own k) "java/lang/String" "coder" "B") (Jvm.Term.int 0)) args s = true) (har : Cond.before (Jvm.Cond.arrayOf (Jvm.Term.field (Jvm.Term.string own k) "java/lang/String" "value" "[B") .byte) args s = true) (hle : Cond.before (Jvm.Cond.eq (Jvm.Term.length (Jvm.Term.field (Jvm.Term.string own k) "java/lang/String" "value" "[B")) (Jvm.Term.int (Int32.ofNat byt.length))) args s = true)
    (hel : ∀ j, j < byt.length → Cond.before (Jvm.Cond.eq (Jvm.Term.elem (Jvm.Term.field (Jvm.Term.string own k) "java/lang/String" "value" "[B") (Jvm.Term.int (Int32.ofNat j))) (Jvm.Term.int (byt.getD j 0))) args s = true) :
    ∃ q : Nat × Nat, vk_R own k tx q.1 s ∧ va_O "java/lang/String" q.1 A s s.heap ∧ va_OF "java/lang/String" "coder" "B" (.int 0) q.1 A s s.heap ∧ va_OF "java/lang/String" "value" "[B" (.ref q.2) q.1 A s s.heap ∧ va_T .byte q.2 byt.length (fun j => .int (byt.getD j 0)) A s s.heap := by
  obtain ⟨adK, adV, hS, he⟩ := vk_Sof (args := args) (s := s) (N := 1) (tm := fun _ => Jvm.Term.string own k) (len := [byt.length]) (byt := [byt]) (A := A)
    (fun i hi => by rw [show i = 0 by omega]; exact hN) (fun _ _ => hex) (fun _ _ => hco) (fun _ _ => har) (fun i hi => by rw [show i = 0 by omega]; exact hle) (fun i hi j hj => by rw [show i = 0 by omega] at hj ⊢; exact hel j hj) (fun i j hi hj hij => absurd (show i = j by omega) hij) hA
  obtain ⟨h1, h2, h3, h4⟩ := hS.1 0 (by decide)
  exact ⟨(adK 0, adV 0), vk_R.of hsr (he 0 (by decide)), h1, h2, h3, h4⟩
theorem str_ok {args : Array Value} {s : State} {A : Nat → Prop} (hA : ∀ a : Nat, a < s.heap.size → ¬ A a) (hts : ∀ w ∈ lw_tbl, w.before args s = true) (hg : gN.before args s = true) : ∀ z, z < 35 → ∃ q : Nat × Nat, vk_R (zOwn.getD z "") (zIdx.getD z 0) (zTx.getD z "") q.1 s ∧ va_O "java/lang/String" q.1 A s s.heap ∧ va_OF "java/lang/String" "coder" "B" (.int 0) q.1 A s s.heap ∧ va_OF "java/lang/String" "value" "[B" (.ref q.2) q.1 A s s.heap ∧ va_T .byte q.2 (zByt.getD z []).length (fun j => .int ((zByt.getD z []).getD j 0)) A s s.heap
  | 0, _ => str_one hA (byt := zByt.getD 0 []) (by decide +kernel) (hts _ sr_0) (nze_0 hg) (nzc_0 hg) (nza_0 hg) (nzl_0 hg) (nzq_0 hg)
  | 1, _ => str_one hA (byt := zByt.getD 1 []) (by decide +kernel) (hts _ sr_1) (nze_1 hg) (nzc_1 hg) (nza_1 hg) (nzl_1 hg) (nzq_1 hg)
  | 2, _ => str_one hA (byt := zByt.getD 2 []) (by decide +kernel) (hts _ sr_2) (nze_2 hg) (nzc_2 hg) (nza_2 hg) (nzl_2 hg) (nzq_2 hg)
  | 3, _ => str_one hA (byt := zByt.getD 3 []) (by decide +kernel) (hts _ sr_3) (nze_3 hg) (nzc_3 hg) (nza_3 hg) (nzl_3 hg) (nzq_3 hg)
  | 4, _ => str_one hA (byt := zByt.getD 4 []) (by decide +kernel) (hts _ sr_4) (nze_4 hg) (nzc_4 hg) (nza_4 hg) (nzl_4 hg) (nzq_4 hg)
  | 5, _ => str_one hA (byt := zByt.getD 5 []) (by decide +kernel) (hts _ sr_5) (nze_5 hg) (nzc_5 hg) (nza_5 hg) (nzl_5 hg) (nzq_5 hg)
  | 6, _ => str_one hA (byt := zByt.getD 6 []) (by decide +kernel) (hts _ sr_6) (nze_6 hg) (nzc_6 hg) (nza_6 hg) (nzl_6 hg) (nzq_6 hg)
  | 7, _ => str_one hA (byt := zByt.getD 7 []) (by decide +kernel) (hts _ sr_7) (nze_7 hg) (nzc_7 hg) (nza_7 hg) (nzl_7 hg) (nzq_7 hg)
  | 8, _ => str_one hA (byt := zByt.getD 8 []) (by decide +kernel) (hts _ sr_8) (nze_8 hg) (nzc_8 hg) (nza_8 hg) (nzl_8 hg) (nzq_8 hg)
  | 9, _ => str_one hA (byt := zByt.getD 9 []) (by decide +kernel) (hts _ sr_9) (nze_9 hg) (nzc_9 hg) (nza_9 hg) (nzl_9 hg) (nzq_9 hg)
  | 10, _ => str_one hA (byt := zByt.getD 10 []) (by decide +kernel) (hts _ sr_10) (nze_10 hg) (nzc_10 hg) (nza_10 hg) (nzl_10 hg) (nzq_10 hg)
  | 11, _ => str_one hA (byt := zByt.getD 11 []) (by decide +kernel) (hts _ sr_11) (nze_11 hg) (nzc_11 hg) (nza_11 hg) (nzl_11 hg) (nzq_11 hg)
  | 12, _ => str_one hA (byt := zByt.getD 12 []) (by decide +kernel) (hts _ sr_12) (nze_12 hg) (nzc_12 hg) (nza_12 hg) (nzl_12 hg) (nzq_12 hg)
  | 13, _ => str_one hA (byt := zByt.getD 13 []) (by decide +kernel) (hts _ sr_13) (nze_13 hg) (nzc_13 hg) (nza_13 hg) (nzl_13 hg) (nzq_13 hg)
  | 14, _ => str_one hA (byt := zByt.getD 14 []) (by decide +kernel) (hts _ sr_14) (nze_14 hg) (nzc_14 hg) (nza_14 hg) (nzl_14 hg) (nzq_14 hg)
  | 15, _ => str_one hA (byt := zByt.getD 15 []) (by decide +kernel) (hts _ sr_15) (nze_15 hg) (nzc_15 hg) (nza_15 hg) (nzl_15 hg) (nzq_15 hg)
  | 16, _ => str_one hA (byt := zByt.getD 16 []) (by decide +kernel) (hts _ sr_16) (nze_16 hg) (nzc_16 hg) (nza_16 hg) (nzl_16 hg) (nzq_16 hg)
  | 17, _ => str_one hA (byt := zByt.getD 17 []) (by decide +kernel) (hts _ sr_17) (nze_17 hg) (nzc_17 hg) (nza_17 hg) (nzl_17 hg) (nzq_17 hg)
  | 18, _ => str_one hA (byt := zByt.getD 18 []) (by decide +kernel) (hts _ sr_18) (nze_18 hg) (nzc_18 hg) (nza_18 hg) (nzl_18 hg) (nzq_18 hg)
  | 19, _ => str_one hA (byt := zByt.getD 19 []) (by decide +kernel) (hts _ sr_19) (nze_19 hg) (nzc_19 hg) (nza_19 hg) (nzl_19 hg) (nzq_19 hg)
  | 20, _ => str_one hA (byt := zByt.getD 20 []) (by decide +kernel) (hts _ sr_20) (nze_20 hg) (nzc_20 hg) (nza_20 hg) (nzl_20 hg) (nzq_20 hg)
  | 21, _ => str_one hA (byt := zByt.getD 21 []) (by decide +kernel) (hts _ sr_21) (nze_21 hg) (nzc_21 hg) (nza_21 hg) (nzl_21 hg) (nzq_21 hg)
  | 22, _ => str_one hA (byt := zByt.getD 22 []) (by decide +kernel) (hts _ sr_22) (nze_22 hg) (nzc_22 hg) (nza_22 hg) (nzl_22 hg) (nzq_22 hg)
  | 23, _ => str_one hA (byt := zByt.getD 23 []) (by decide +kernel) (hts _ sr_23) (nze_23 hg) (nzc_23 hg) (nza_23 hg) (nzl_23 hg) (nzq_23 hg)
  | 24, _ => str_one hA (byt := zByt.getD 24 []) (by decide +kernel) (hts _ sr_24) (nze_24 hg) (nzc_24 hg) (nza_24 hg) (nzl_24 hg) (nzq_24 hg)
  | 25, _ => str_one hA (byt := zByt.getD 25 []) (by decide +kernel) (hts _ sr_25) (nze_25 hg) (nzc_25 hg) (nza_25 hg) (nzl_25 hg) (nzq_25 hg)
  | 26, _ => str_one hA (byt := zByt.getD 26 []) (by decide +kernel) (hts _ sr_26) (nze_26 hg) (nzc_26 hg) (nza_26 hg) (nzl_26 hg) (nzq_26 hg)
  | 27, _ => str_one hA (byt := zByt.getD 27 []) (by decide +kernel) (hts _ sr_27) (nze_27 hg) (nzc_27 hg) (nza_27 hg) (nzl_27 hg) (nzq_27 hg)
  | 28, _ => str_one hA (byt := zByt.getD 28 []) (by decide +kernel) (hts _ sr_28) (nze_28 hg) (nzc_28 hg) (nza_28 hg) (nzl_28 hg) (nzq_28 hg)
  | 29, _ => str_one hA (byt := zByt.getD 29 []) (by decide +kernel) (hts _ sr_29) (nze_29 hg) (nzc_29 hg) (nza_29 hg) (nzl_29 hg) (nzq_29 hg)
  | 30, _ => str_one hA (byt := zByt.getD 30 []) (by decide +kernel) (hts _ sr_30) (nze_30 hg) (nzc_30 hg) (nza_30 hg) (nzl_30 hg) (nzq_30 hg)
  | 31, _ => str_one hA (byt := zByt.getD 31 []) (by decide +kernel) (hts _ sr_31) (nze_31 hg) (nzc_31 hg) (nza_31 hg) (nzl_31 hg) (nzq_31 hg)
  | 32, _ => str_one hA (byt := zByt.getD 32 []) (by decide +kernel) (hts _ sr_32) (nze_32 hg) (nzc_32 hg) (nza_32 hg) (nzl_32 hg) (nzq_32 hg)
  | 33, _ => str_one hA (byt := zByt.getD 33 []) (by decide +kernel) (hts _ sr_33) (nze_33 hg) (nzc_33 hg) (nza_33 hg) (nzl_33 hg) (nzq_33 hg)
  | 34, _ => str_one hA (byt := zByt.getD 34 []) (by decide +kernel) (hts _ sr_34) (nze_34 hg) (nzc_34 hg) (nza_34 hg) (nzl_34 hg) (nzq_34 hg)
  | z + 35, h => absurd h (by omega)
theorem arr_p {args : Array Value} {s : State} {ty : FieldType} (h : (Cond.arrayClass ty).before args s = true) : ∃ cA : ClassId, ArrOfT s cA ty ∧ s.vm.findClass ("[" ++ ty.toString) = some cA := by
  obtain ⟨c, k, comp, h1, h2, h3⟩ := Cond.arrayClass_spec h
  exact ⟨c, fun n z => ⟨fun k h => (by cases h), k, h2, comp, h3⟩, h1⟩
theorem arr_o {args : Array Value} {s : State} {C : String} (h : (Cond.arrayOver (.object C)).before args s = true) : ∃ cA : ClassId, ArrOfT s cA (.object C) ∧ va_RA s cA (.object C) := by
  obtain ⟨comp, c, k, h1, h2, h3, h4, h5⟩ := Cond.arrayOver_spec h
  exact ⟨c, fun n z => ⟨fun k h => (by cases h), k, h3, comp, h4⟩, k, comp, h3, h4, h1, h5⟩
set_option maxRecDepth 20000 in
theorem start_K {args : Array Value} {s : State} (l : Launch) (hts : ∀ w ∈ lw_tbl, w.before args s = true) (hg : gN.before args s = true) {b L : Nat} {xs : Nat → Int32} (hX : va_X b L xs s s.heap) (hb : b < s.heap.size) : ∃ v : mE, eLn v = l ∧ eN v = L ∧ eS v = xs ∧ eK v 35 = b ∧ eB v + 1 = s.heap.size ∧ mK v s := by
  have hT := tb_hts hts
  have hA : ∀ a : Nat, a < s.heap.size → ¬ s.heap.size - 1 < a := fun a h => by omega
  have hcl : ∀ k, ∃ q : ClassId × (Nat → Nat), k < 10 → u_Kn s (mRn k) (mTt k) (mN k) q.1 q.2 := by
    intro k
    by_cases hk : k < 10
    · have hi : (Cond.instantiable (mRn k) (mN k)).before args s = true := by
        match k, hk with
        | 0, _ => exact hT _ it_X0
        | 1, _ => exact hT _ it_X1
        | 2, _ => exact hT _ it_X2
        | 3, _ => exact hT _ it_X3
        | 4, _ => exact hT _ it_X4
        | 5, _ => exact hT _ it_X5
        | 6, _ => exact hT _ it_X6
        | 7, _ => exact hT _ it_X7
        | 8, _ => exact hT _ it_X8
        | 9, _ => exact hT _ it_X9
        | k + 10, h => omega
      obtain ⟨c0, iS0, hKn⟩ := u_known (C := mRn k) (T := mTt k) (N := mN k) (n := mN k) hT (m_in k hk) hi
      exact ⟨(c0, iS0), fun _ => hKn⟩
    · exact ⟨(0, fun _ => 0), fun h => absurd h hk⟩
  obtain ⟨dcl, hdcl⟩ := Classical.axiomOfChoice hcl
  obtain ⟨c10, g10⟩ := arr_p (hT _ ac_byte)
  obtain ⟨c11, g11⟩ := arr_p (hT _ ac_int)
  obtain ⟨c12, g12⟩ := arr_p (hT _ ac_long)
  obtain ⟨c13, g13⟩ := arr_p (hT _ ac_boolean)
  obtain ⟨c14, g14⟩ := arr_o (hts _ ov_X3)
  obtain ⟨c15, g15⟩ := arr_o (hts _ ov_X5)
  obtain ⟨c16, g16⟩ := arr_o (hts _ ov_X7)
  have hst : ∀ z, ∃ q : Nat × Nat, z < 35 → vk_R (zOwn.getD z "") (zIdx.getD z 0) (zTx.getD z "") q.1 s ∧ va_O "java/lang/String" q.1 (fun q => s.heap.size - 1 < q) s s.heap ∧ va_OF "java/lang/String" "coder" "B" (.int 0) q.1 (fun q => s.heap.size - 1 < q) s s.heap ∧ va_OF "java/lang/String" "value" "[B" (.ref q.2) q.1 (fun q => s.heap.size - 1 < q) s s.heap ∧ va_T .byte q.2 (zByt.getD z []).length (fun j => .int ((zByt.getD z []).getD j 0)) (fun q => s.heap.size - 1 < q) s s.heap := by
    intro z
    by_cases hz : z < 35
    · obtain ⟨q, h⟩ := str_ok hA hts hg z hz
      exact ⟨q, fun _ => h⟩
    · exact ⟨(0, 0), fun h => absurd h hz⟩
  obtain ⟨aS, hS⟩ := Classical.axiomOfChoice hst
  have hcs : va_Z "java/lang/String" "COMPACT_STRINGS" "Z" (.int 1) (fun q => s.heap.size - 1 < q) s s.heap := va_Zof (hts _ ls_COMPACT_STRINGS) (hT _ in_J0) (va_eqt (nz_cs hg)) hA
  have hsf := va_Zqof (A := fun q => s.heap.size - 1 < q) (hts _ ls_SIOOBE_FORMATTER) (hT _ in_J3) (nz_sf hg) hA
  obtain ⟨tF, fl, hF⟩ : ∃ tF fl : Nat, va_Z "jdk/internal/util/Preconditions" "SIOOBE_FORMATTER" "Ljava/util/function/BiFunction;" (if fl = 0 then .null else .ref tF) (fun q => s.heap.size - 1 < q) s s.heap := by
    rcases hsf with h | ⟨t, h⟩
    · exact ⟨0, 0, h⟩
    · exact ⟨t, 1, h⟩
  refine ⟨(l, s.heap.size - 1, (fun k => (dcl k).1, fun k => (dcl k).2), fun k => if k = 10 then c10 else if k = 11 then c11 else if k = 12 then c12 else if k = 13 then c13 else if k = 14 then c14 else if k = 15 then c15 else c16, fun i => if i < 35 then (aS i).1 else if i = 35 then b else if i < 71 then (aS (i - 36)).2 else if i = 80 then tF else if i = 81 then fl else 0, fun z => (aS z).2, L, xs), rfl, rfl, rfl, rfl, by show s.heap.size - 1 + 1 = _; omega, ⟨?_, ?_⟩, by show s.heap.size - 1 < _; omega, ?_, hcs, hX, by show b ≤ s.heap.size - 1; omega, ⟨va_Nw.of rfl (hts _ nl_X8_42), va_Nw.of rfl (hts _ nl_X8_67), va_Nw.of rfl (hts _ nl_X7_68), va_AO.of (hts _ ov_X3), va_AO.of (hts _ ov_X5), va_AO.of (hts _ ov_X7)⟩, hF⟩
  · intro k q hq
    have hk : k < 10 := (List.getElem?_eq_some_iff.mp hq).1
    rw [m_cl k hk] at hq
    cases hq
    exact hdcl k hk
  · intro k q hq
    have hk : k < 7 := (List.getElem?_eq_some_iff.mp hq).1
    match k, hk, hq with
    | 0, _, hq => cases hq; exact ⟨g10.1, g10.2⟩
    | 1, _, hq => cases hq; exact ⟨g11.1, g11.2⟩
    | 2, _, hq => cases hq; exact ⟨g12.1, g12.2⟩
    | 3, _, hq => cases hq; exact ⟨g13.1, g13.2⟩
    | 4, _, hq => cases hq; exact g14
    | 5, _, hq => cases hq; exact g15
    | 6, _, hq => cases hq; exact g16
    | k + 7, h, _ => omega
  · intro z hz
    obtain ⟨h1, h2, h3, h4, h5⟩ := hS z hz
    simp only [eK, eU, if_pos hz]
    refine ⟨h1, h2, h3, h4, h5, ?_⟩
    rw [if_neg (by omega), if_neg (by omega), if_pos (by omega), show 36 + z - 36 = z by omega]

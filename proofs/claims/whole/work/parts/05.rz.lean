/-! HOW A METHOD'S BODY IS TOLD. 'Rz .. pc lv st mm': from pc, with these locals and this stack, the machine does what the small program mm says. -/
abbrev mM (α : Type) : Type := mS → Option (α × mS)
def mX (v : mE) (own : String) (cc : ByteArray) (nL : Nat) (ret : Option FieldType) (ini : Bool) (p : Program) (s : State) (m : MethodId) (args : Array Value) (meth : Method) (c : Code) : Prop :=
  p.tables.exec = Jvm.exec ∧ c.code = cc ∧ c.maxLocals = nL ∧ s.vm.findClass own = some m.cls ∧ (∀ w ∈ TB, w.before args s = true) ∧ meth.sig.returnType = ret ∧ meth.locks = false ∧ (ini = true → meth.name = "<init>") ∧ mK v s
def mQ (v : mE) (r : Option mV) (t' : mS) : Array Value → State → Outcome → State → Prop := fun _ st o t => o = .returned (r.map (tv v)) ∧ mR v t' t.heap ∧ va_F (mA v) st t
abbrev mLv (v : mE) (lv : List (Nat × mV)) : List (Nat × Value) := lv.map (fun q => (q.1, tv v q.2))
def Rz (v : mE) (own : String) (cc : ByteArray) (nL : Nat) (ret : Option FieldType) (ini : Bool) {α : Type} (emb : α → Option mV) (d pc : Nat) (lv : List (Nat × mV)) (st : List mV) (mm : mM α) : Prop :=
  ∀ (σ σ' : mS) (r : α), mm σ = some (r, σ') → (sZ σ ≤ sZ σ' ∧ sW σ ≤ sW σ') ∧
    ∀ (p : Program) (e : Env) (R : Room) (s : State) (m : MethodId) (args : Array Value) (below : List Frame) (meth : Method) (c : Code) (H : Heap) (locs : List Loc) (cells slots : Nat) (ls : Array Slot),
      mX v own cc nL ret ini p s m args meth c → mR v σ H → va_S (mA v) s.heap H locs → d ≤ R.frames → 100 * d ≤ R.locals → cells + sZ σ' = R.cells + sZ σ → slots + sW σ' = R.slots + sW σ → lv_has ls nL (mLv v lv) →
      W p (eLn v) e R s m args below meth c H locs cells slots (MQ below (mQ v (emb r) σ') args s R.cells R.slots (mA v)) (F0 m pc ls (st.map (tv v)))
section RZ
variable {v : mE} {own : String} {cc : ByteArray} {nL : Nat} {ret : Option FieldType} {ini : Bool} {α : Type} {emb : α → Option mV} {d pc : Nat} {lv lv' : List (Nat × mV)} {st st' : List mV} {mm : mM α}
theorem rz_go {q : Nat} (h : ∀ (p : Program) (e : Env) (R : Room) (s : State) (m : MethodId) (args : Array Value) (below : List Frame) (meth : Method) (c : Code) (H : Heap) (locs : List Loc) (cells slots : Nat) (ls : Array Slot) (Q : State → Prop), mX v own cc nL ret ini p s m args meth c → lv_has ls nL (mLv v lv) → W p (eLn v) e R s m args below meth c H locs cells slots Q (F0 m q ls (st'.map (tv v))) → W p (eLn v) e R s m args below meth c H locs cells slots Q (F0 m pc ls (st.map (tv v)))) (k : Rz v own cc nL ret ini emb d q lv st' mm) : Rz v own cc nL ret ini emb d pc lv st mm := by
  intro σ σ' r hm
  obtain ⟨h0, hk⟩ := k σ σ' r hm
  exact ⟨h0, fun p e R s m args below meth c H locs cells slots ls X hR hS hf hl hc hs hv => h p e R s m args below meth c H locs cells slots ls _ X hv (hk p e R s m args below meth c H locs cells slots ls X hR hS hf hl hc hs hv)⟩
/-- a step that changes the locals -/
theorem rz_goL {q : Nat} (h : ∀ (p : Program) (e : Env) (R : Room) (s : State) (m : MethodId) (args : Array Value) (below : List Frame) (meth : Method) (c : Code) (H : Heap) (locs : List Loc) (cells slots : Nat) (ls : Array Slot) (Q : State → Prop), mX v own cc nL ret ini p s m args meth c → lv_has ls nL (mLv v lv) → (∀ ls' : Array Slot, lv_has ls' nL (mLv v lv') → W p (eLn v) e R s m args below meth c H locs cells slots Q (F0 m q ls' (st'.map (tv v)))) → W p (eLn v) e R s m args below meth c H locs cells slots Q (F0 m pc ls (st.map (tv v)))) (k : Rz v own cc nL ret ini emb d q lv' st' mm) : Rz v own cc nL ret ini emb d pc lv st mm := by
  intro σ σ' r hm
  obtain ⟨h0, hk⟩ := k σ σ' r hm
  exact ⟨h0, fun p e R s m args below meth c H locs cells slots ls X hR hS hf hl hc hs hv => h p e R s m args below meth c H locs cells slots ls _ X hv (fun ls' hv' => hk p e R s m args below meth c H locs cells slots ls' X hR hS hf hl hc hs hv')⟩
/-- a fork: one of two ways, by a condition on the values -/
def bIf (c : Prop) [Decidable c] {α : Type} (a b : mM α) : mM α := fun s => if c then a s else b s
theorem rz_fork {q1 q2 : Nat} {cnd : Prop} {dc : Decidable cnd} {m1 m2 : mM α} (h : ∀ (p : Program) (e : Env) (R : Room) (s : State) (m : MethodId) (args : Array Value) (below : List Frame) (meth : Method) (c : Code) (H : Heap) (locs : List Loc) (cells slots : Nat) (ls : Array Slot) (Q : State → Prop), mX v own cc nL ret ini p s m args meth c → (cnd → W p (eLn v) e R s m args below meth c H locs cells slots Q (F0 m q1 ls (st'.map (tv v)))) → (¬ cnd → W p (eLn v) e R s m args below meth c H locs cells slots Q (F0 m q2 ls (st'.map (tv v)))) → W p (eLn v) e R s m args below meth c H locs cells slots Q (F0 m pc ls (st.map (tv v)))) (k1 : Rz v own cc nL ret ini emb d q1 lv st' m1) (k2 : Rz v own cc nL ret ini emb d q2 lv st' m2) : Rz v own cc nL ret ini emb d pc lv st (bIf cnd m1 m2) := by
  intro σ σ' r hm
  unfold bIf at hm
  by_cases hc : cnd
  · rw [if_pos hc] at hm
    obtain ⟨h0, hk⟩ := k1 σ σ' r hm
    exact ⟨h0, fun p e R s m args below meth c H locs cells slots ls X hR hS hf hl hcc hs hv => h p e R s m args below meth c H locs cells slots ls _ X (fun _ => hk p e R s m args below meth c H locs cells slots ls X hR hS hf hl hcc hs hv) (fun hn => absurd hc hn)⟩
  · rw [if_neg hc] at hm
    obtain ⟨h0, hk⟩ := k2 σ σ' r hm
    exact ⟨h0, fun p e R s m args below meth c H locs cells slots ls X hR hS hf hl hcc hs hv => h p e R s m args below meth c H locs cells slots ls _ X (fun hn => absurd hn hc) (fun _ => hk p e R s m args below meth c H locs cells slots ls X hR hS hf hl hcc hs hv)⟩
theorem mLv_at {ls : Array Slot} (h : lv_has ls nL (mLv v lv)) {j i : Nat} {x : mV} (hj : lv[j]? = some (i, x)) : ls[i]? = some (.val (tv v x)) := lv_at h j (by rw [List.getElem?_map, hj]; rfl)
def lvS (lv : List (Nat × mV)) (i : Nat) (x : mV) : List (Nat × mV) := (i, x) :: lv.filter (fun q => !(q.1 == i) && !(q.1 + 1 == i && mcat q.2 == 2))
def lvD (lv : List (Nat × mV)) (i : Nat) (x : mV) : List (Nat × mV) := (i, x) :: lv.filter (fun q => !(q.1 == i) && (!(q.1 == i + 1) && !(q.1 + 1 == i && mcat q.2 == 2)))
theorem mLv_S (v : mE) (lv : List (Nat × mV)) (i : Nat) (x : mV) : (i, tv v x) :: (mLv v lv).filter (fun q => !(q.1 == i) && !(q.1 + 1 == i && q.2.category == 2)) = mLv v (lvS lv i x) := by
  unfold lvS mLv
  rw [List.map_cons, List.filter_map]
  simp only [Function.comp_def, tv_cat]
theorem mLv_D (v : mE) (lv : List (Nat × mV)) (i : Nat) (x : mV) : (i, tv v x) :: (mLv v lv).filter (fun q => !(q.1 == i) && (!(q.1 == i + 1) && !(q.1 + 1 == i && q.2.category == 2))) = mLv v (lvD lv i x) := by
  unfold lvD mLv
  rw [List.map_cons, List.filter_map]
  simp only [Function.comp_def, tv_cat]
theorem rz_iconst {n : Int} (q : Nat) (hd : decode cc pc = .ok (.iconst n, 1)) (hq : pc + 1 = q) {x : Int32} (hx : Int32.ofInt n = x) (k : Rz v own cc nL ret ini emb d q lv (vI x :: st) mm) : Rz v own cc nL ret ini emb d pc lv st mm := by
  subst hq
  exact rz_go (fun p e R s m args below meth c H locs cells slots ls Q X hv w => lv_iconst X.1 X.2.1 hd hx w) k
theorem rz_bipush {n : Int} (q : Nat) (hd : decode cc pc = .ok (.bipush n, 2)) (hq : pc + 2 = q) {x : Int32} (hx : (Int8.ofInt n).toInt32 = x) (k : Rz v own cc nL ret ini emb d q lv (vI x :: st) mm) : Rz v own cc nL ret ini emb d pc lv st mm := by
  subst hq
  exact rz_go (fun p e R s m args below meth c H locs cells slots ls Q X hv w => lv_bipush X.1 X.2.1 hd hx w) k
theorem rz_sipush {n : Int} (q : Nat) (hd : decode cc pc = .ok (.sipush n, 3)) (hq : pc + 3 = q) {x : Int32} (hx : (Int16.ofInt n).toInt32 = x) (k : Rz v own cc nL ret ini emb d q lv (vI x :: st) mm) : Rz v own cc nL ret ini emb d pc lv st mm := by
  subst hq
  exact rz_go (fun p e R s m args below meth c H locs cells slots ls Q X hv w => lv_sipush X.1 X.2.1 hd hx w) k
theorem rz_lconst {n : Fin 2} (q : Nat) (hd : decode cc pc = .ok (.lconst n, 1)) (hq : pc + 1 = q) {x : Int64} (hx : Int64.ofNat (n : Nat) = x) (k : Rz v own cc nL ret ini emb d q lv (vL x :: st) mm) : Rz v own cc nL ret ini emb d pc lv st mm := by
  subst hq
  exact rz_go (fun p e R s m args below meth c H locs cells slots ls Q X hv w => lv_lconst X.1 X.2.1 hd hx w) k
theorem rz_ldc {i : Nat} {x : Int32} (q : Nat) (hd : decode cc pc = .ok (.ldc i, 2)) (hq : pc + 2 = q) (hw : Cond.constant own i x ∈ TB) (k : Rz v own cc nL ret ini emb d q lv (vI x :: st) mm) : Rz v own cc nL ret ini emb d pc lv st mm := by
  subst hq
  exact rz_go (fun p e R s m args below meth c H locs cells slots ls Q X hv w => lv_ldc X.1 X.2.1 X.2.2.2.1 (X.2.2.2.2.1 _ hw) hd w) k
theorem rz_ldcw {i : Nat} {x : Int32} (q : Nat) (hd : decode cc pc = .ok (.ldc_w i, 3)) (hq : pc + 3 = q) (hw : Cond.constant own i x ∈ TB) (k : Rz v own cc nL ret ini emb d q lv (vI x :: st) mm) : Rz v own cc nL ret ini emb d pc lv st mm := by
  subst hq
  exact rz_go (fun p e R s m args below meth c H locs cells slots ls Q X hv w => lv_ldcw X.1 X.2.1 X.2.2.2.1 (X.2.2.2.2.1 _ hw) hd w) k
theorem rz_ldc2 {i : Nat} {x : Int64} (q : Nat) (hd : decode cc pc = .ok (.ldc2_w i, 3)) (hq : pc + 3 = q) (hw : Cond.constantLong own i x ∈ TB) (k : Rz v own cc nL ret ini emb d q lv (vL x :: st) mm) : Rz v own cc nL ret ini emb d pc lv st mm := by
  subst hq
  exact rz_go (fun p e R s m args below meth c H locs cells slots ls Q X hv w => lv_ldc2 X.1 X.2.1 X.2.2.2.1 (X.2.2.2.2.1 _ hw) hd w) k
theorem rz_null  (q : Nat) (hd : decode cc pc = .ok (.aconst_null, 1)) (hq : pc + 1 = q) (k : Rz v own cc nL ret ini emb d q lv (vR 0 :: st) mm) : Rz v own cc nL ret ini emb d pc lv st mm := by
  subst hq
  exact rz_go (fun p e R s m args below meth c H locs cells slots ls Q X hv w => lv_null X.1 X.2.1 hd w) k
theorem rz_ldcS {i : Nat} (q z : Nat) (hd : decode cc pc = .ok (.ldc i, 2)) (hq : pc + 2 = q) (hz : z < 35) (ho : zOwn.getD z "" = own) (hi : zIdx.getD z 0 = i) (k : Rz v own cc nL ret ini emb d q lv (vX z :: st) mm) : Rz v own cc nL ret ini emb d pc lv st mm := by
  subst hq
  subst ho
  subst hi
  exact rz_go (fun p e R s m args below meth c H locs cells slots ls Q X hv w => va_ldcS X.1 X.2.1 X.2.2.2.1 (X.2.2.2.2.2.2.2.2.2.2.1 z hz).1 hd w) k
theorem rz_iload_n {n : Fin 4} {x : Int32} (q j : Nat) (hd : decode cc pc = .ok (.iload_n n, 1)) (hq : pc + 1 = q) (hj : lv[j]? = some ((n : Nat), vI x)) (k : Rz v own cc nL ret ini emb d q lv (vI x :: st) mm) : Rz v own cc nL ret ini emb d pc lv st mm := by
  subst hq
  exact rz_go (fun p e R s m args below meth c H locs cells slots ls Q X hv w => lv_iload_n X.1 X.2.1 hd rfl (mLv_at hv hj) w) k
theorem rz_iload {i : Nat} {x : Int32} (q j : Nat) (hd : decode cc pc = .ok (.iload i, 2)) (hq : pc + 2 = q) (hj : lv[j]? = some (i, vI x)) (k : Rz v own cc nL ret ini emb d q lv (vI x :: st) mm) : Rz v own cc nL ret ini emb d pc lv st mm := by
  subst hq
  exact rz_go (fun p e R s m args below meth c H locs cells slots ls Q X hv w => lv_iload X.1 X.2.1 hd (mLv_at hv hj) w) k
theorem rz_lload_n {n : Fin 4} {x : Int64} (q j : Nat) (hd : decode cc pc = .ok (.lload_n n, 1)) (hq : pc + 1 = q) (hj : lv[j]? = some ((n : Nat), vL x)) (k : Rz v own cc nL ret ini emb d q lv (vL x :: st) mm) : Rz v own cc nL ret ini emb d pc lv st mm := by
  subst hq
  exact rz_go (fun p e R s m args below meth c H locs cells slots ls Q X hv w => lv_lload_n X.1 X.2.1 hd rfl (mLv_at hv hj) w) k
theorem rz_lload {i : Nat} {x : Int64} (q j : Nat) (hd : decode cc pc = .ok (.lload i, 2)) (hq : pc + 2 = q) (hj : lv[j]? = some (i, vL x)) (k : Rz v own cc nL ret ini emb d q lv (vL x :: st) mm) : Rz v own cc nL ret ini emb d pc lv st mm := by
  subst hq
  exact rz_go (fun p e R s m args below meth c H locs cells slots ls Q X hv w => lv_lload X.1 X.2.1 hd (mLv_at hv hj) w) k
theorem tv_ref (v : mE) (a : Nat) : (∃ x, tv v (vR a) = .ref x) ∨ tv v (vR a) = .null := by
  rcases Nat.eq_zero_or_pos a with h | h
  · subst h; exact Or.inr rfl
  · exact Or.inl ⟨_, tv_R h⟩
theorem rz_aload_n {n : Fin 4} {a : Nat} (q j : Nat) (hd : decode cc pc = .ok (.aload_n n, 1)) (hq : pc + 1 = q) (hj : lv[j]? = some ((n : Nat), vR a)) (k : Rz v own cc nL ret ini emb d q lv (vR a :: st) mm) : Rz v own cc nL ret ini emb d pc lv st mm := by
  subst hq
  refine rz_go (fun p e R s m args below meth c H locs cells slots ls Q X hv w => ?_) k
  have h1 := mLv_at hv hj
  rw [List.map_cons] at w
  rcases tv_ref v a with ⟨x, hx⟩ | hx <;> rw [hx] at h1 w
  · exact lv_aload_n X.1 X.2.1 hd rfl h1 w
  · exact lv_aload_nN X.1 X.2.1 hd rfl h1 w
theorem rz_aload {i a : Nat} (q j : Nat) (hd : decode cc pc = .ok (.aload i, 2)) (hq : pc + 2 = q) (hj : lv[j]? = some (i, vR a)) (k : Rz v own cc nL ret ini emb d q lv (vR a :: st) mm) : Rz v own cc nL ret ini emb d pc lv st mm := by
  subst hq
  refine rz_go (fun p e R s m args below meth c H locs cells slots ls Q X hv w => ?_) k
  have h1 := mLv_at hv hj
  rw [List.map_cons] at w
  rcases tv_ref v a with ⟨x, hx⟩ | hx <;> rw [hx] at h1 w
  · exact lv_aload X.1 X.2.1 hd h1 w
  · exact lv_aloadN X.1 X.2.1 hd h1 w
theorem rz_xload_n {n : Fin 4} {z : Nat} (q j : Nat) (hd : decode cc pc = .ok (.aload_n n, 1)) (hq : pc + 1 = q) (hj : lv[j]? = some ((n : Nat), vX z)) (k : Rz v own cc nL ret ini emb d q lv (vX z :: st) mm) : Rz v own cc nL ret ini emb d pc lv st mm := by
  subst hq
  exact rz_go (fun p e R s m args below meth c H locs cells slots ls Q X hv w => lv_aload_n X.1 X.2.1 hd rfl (mLv_at hv hj) w) k
theorem rz_istore_n {n : Fin 4} {x : Int32} (q : Nat) (hd : decode cc pc = .ok (.istore_n n, 1)) (hq : pc + 1 = q) (hn : Nat.blt ((n : Nat)) nL = true) (hl : lvS lv (n : Nat) (vI x) = lv') (k : Rz v own cc nL ret ini emb d q lv' st mm) : Rz v own cc nL ret ini emb d pc lv (vI x :: st) mm := by
  subst hq
  subst hl
  exact rz_goL (fun p e R s m args below meth c H locs cells slots ls Q X hv w => lv_istore_n X.1 X.2.1 hd rfl hv (Nat.le_of_ble_eq_true hn) (mLv_S v lv _ (vI x)) w) k
theorem rz_istore {i : Nat} {x : Int32} (q : Nat) (hd : decode cc pc = .ok (.istore i, 2)) (hq : pc + 2 = q) (hn : Nat.blt (i) nL = true) (hl : lvS lv i (vI x) = lv') (k : Rz v own cc nL ret ini emb d q lv' st mm) : Rz v own cc nL ret ini emb d pc lv (vI x :: st) mm := by
  subst hq
  subst hl
  exact rz_goL (fun p e R s m args below meth c H locs cells slots ls Q X hv w => lv_istore X.1 X.2.1 hd hv (Nat.le_of_ble_eq_true hn) (mLv_S v lv _ (vI x)) w) k
theorem rz_lstore_n {n : Fin 4} {x : Int64} (q : Nat) (hd : decode cc pc = .ok (.lstore_n n, 1)) (hq : pc + 1 = q) (hn : Nat.blt ((n : Nat) + 1) nL = true) (hl : lvD lv (n : Nat) (vL x) = lv') (k : Rz v own cc nL ret ini emb d q lv' st mm) : Rz v own cc nL ret ini emb d pc lv (vL x :: st) mm := by
  subst hq
  subst hl
  exact rz_goL (fun p e R s m args below meth c H locs cells slots ls Q X hv w => lv_lstore_n X.1 X.2.1 hd rfl hv (Nat.le_of_ble_eq_true hn) (mLv_D v lv _ (vL x)) w) k
theorem rz_lstore {i : Nat} {x : Int64} (q : Nat) (hd : decode cc pc = .ok (.lstore i, 2)) (hq : pc + 2 = q) (hn : Nat.blt (i + 1) nL = true) (hl : lvD lv i (vL x) = lv') (k : Rz v own cc nL ret ini emb d q lv' st mm) : Rz v own cc nL ret ini emb d pc lv (vL x :: st) mm := by
  subst hq
  subst hl
  exact rz_goL (fun p e R s m args below meth c H locs cells slots ls Q X hv w => lv_lstore X.1 X.2.1 hd hv (Nat.le_of_ble_eq_true hn) (mLv_D v lv _ (vL x)) w) k
theorem rz_astore_n {n : Fin 4} {a : Nat} (q : Nat) (hd : decode cc pc = .ok (.astore_n n, 1)) (hq : pc + 1 = q) (hn : Nat.blt (n : Nat) nL = true) (hl : lvS lv (n : Nat) (vR a) = lv') (k : Rz v own cc nL ret ini emb d q lv' st mm) : Rz v own cc nL ret ini emb d pc lv (vR a :: st) mm := by
  subst hq
  subst hl
  refine rz_goL (fun p e R s m args below meth c H locs cells slots ls Q X hv w => ?_) k
  have h1 := mLv_S v lv (n : Nat) (vR a)
  rw [List.map_cons]
  rcases tv_ref v a with ⟨x, hx⟩ | hx <;> rw [hx] at h1 ⊢
  · exact lv_astore_n X.1 X.2.1 hd rfl hv (Nat.le_of_ble_eq_true hn) h1 w
  · exact lv_astore_nN X.1 X.2.1 hd rfl hv (Nat.le_of_ble_eq_true hn) h1 w
theorem rz_astore {i : Nat} {a : Nat} (q : Nat) (hd : decode cc pc = .ok (.astore i, 2)) (hq : pc + 2 = q) (hn : Nat.blt i nL = true) (hl : lvS lv i (vR a) = lv') (k : Rz v own cc nL ret ini emb d q lv' st mm) : Rz v own cc nL ret ini emb d pc lv (vR a :: st) mm := by
  subst hq
  subst hl
  refine rz_goL (fun p e R s m args below meth c H locs cells slots ls Q X hv w => ?_) k
  have h1 := mLv_S v lv i (vR a)
  rw [List.map_cons]
  rcases tv_ref v a with ⟨x, hx⟩ | hx <;> rw [hx] at h1 ⊢
  · exact lv_astore X.1 X.2.1 hd hv (Nat.le_of_ble_eq_true hn) h1 w
  · exact lv_astoreN X.1 X.2.1 hd hv (Nat.le_of_ble_eq_true hn) h1 w
theorem rz_iinc {i : Nat} {n : Int} {x y : Int32} (q j : Nat) (hd : decode cc pc = .ok (.iinc i n, 3)) (hq : pc + 3 = q) (hj : lv[j]? = some (i, vI x)) (hy : x + Int32.ofInt n = y) (hn : Nat.blt i nL = true) (hl : lvS lv i (vI y) = lv') (k : Rz v own cc nL ret ini emb d q lv' st mm) : Rz v own cc nL ret ini emb d pc lv st mm := by
  subst hq
  subst hl
  exact rz_goL (fun p e R s m args below meth c H locs cells slots ls Q X hv w => lv_iinc X.1 X.2.1 hd hv (k := j) (by rw [List.getElem?_map, hj]; rfl) hy (Nat.le_of_ble_eq_true hn) (mLv_S v lv _ (vI y)) w) k
theorem rz_iadd {x y : Int32} (q : Nat) (hd : decode cc pc = .ok (.iadd, 1)) (hq : pc + 1 = q) (k : Rz v own cc nL ret ini emb d q lv (vI (x + y) :: st) mm) : Rz v own cc nL ret ini emb d pc lv (vI y :: vI x :: st) mm := by
  subst hq
  exact rz_go (fun p e R s m args below meth c H locs cells slots ls Q X hv w => lv_iadd X.1 X.2.1 hd w) k
theorem rz_isub {x y : Int32} (q : Nat) (hd : decode cc pc = .ok (.isub, 1)) (hq : pc + 1 = q) (k : Rz v own cc nL ret ini emb d q lv (vI (x - y) :: st) mm) : Rz v own cc nL ret ini emb d pc lv (vI y :: vI x :: st) mm := by
  subst hq
  exact rz_go (fun p e R s m args below meth c H locs cells slots ls Q X hv w => lv_isub X.1 X.2.1 hd w) k
theorem rz_imul {x y : Int32} (q : Nat) (hd : decode cc pc = .ok (.imul, 1)) (hq : pc + 1 = q) (k : Rz v own cc nL ret ini emb d q lv (vI (x * y) :: st) mm) : Rz v own cc nL ret ini emb d pc lv (vI y :: vI x :: st) mm := by
  subst hq
  exact rz_go (fun p e R s m args below meth c H locs cells slots ls Q X hv w => lv_imul X.1 X.2.1 hd w) k
theorem rz_iand {x y : Int32} (q : Nat) (hd : decode cc pc = .ok (.iand, 1)) (hq : pc + 1 = q) (k : Rz v own cc nL ret ini emb d q lv (vI (x &&& y) :: st) mm) : Rz v own cc nL ret ini emb d pc lv (vI y :: vI x :: st) mm := by
  subst hq
  exact rz_go (fun p e R s m args below meth c H locs cells slots ls Q X hv w => lv_iand X.1 X.2.1 hd w) k
theorem rz_ior {x y : Int32} (q : Nat) (hd : decode cc pc = .ok (.ior, 1)) (hq : pc + 1 = q) (k : Rz v own cc nL ret ini emb d q lv (vI (x ||| y) :: st) mm) : Rz v own cc nL ret ini emb d pc lv (vI y :: vI x :: st) mm := by
  subst hq
  exact rz_go (fun p e R s m args below meth c H locs cells slots ls Q X hv w => lv_ior X.1 X.2.1 hd w) k
theorem rz_ixor {x y : Int32} (q : Nat) (hd : decode cc pc = .ok (.ixor, 1)) (hq : pc + 1 = q) (k : Rz v own cc nL ret ini emb d q lv (vI (x ^^^ y) :: st) mm) : Rz v own cc nL ret ini emb d pc lv (vI y :: vI x :: st) mm := by
  subst hq
  exact rz_go (fun p e R s m args below meth c H locs cells slots ls Q X hv w => lv_ixor X.1 X.2.1 hd w) k
theorem rz_ladd {x y : Int64} (q : Nat) (hd : decode cc pc = .ok (.ladd, 1)) (hq : pc + 1 = q) (k : Rz v own cc nL ret ini emb d q lv (vL (x + y) :: st) mm) : Rz v own cc nL ret ini emb d pc lv (vL y :: vL x :: st) mm := by
  subst hq
  exact rz_go (fun p e R s m args below meth c H locs cells slots ls Q X hv w => lv_ladd X.1 X.2.1 hd w) k
theorem rz_lsub {x y : Int64} (q : Nat) (hd : decode cc pc = .ok (.lsub, 1)) (hq : pc + 1 = q) (k : Rz v own cc nL ret ini emb d q lv (vL (x - y) :: st) mm) : Rz v own cc nL ret ini emb d pc lv (vL y :: vL x :: st) mm := by
  subst hq
  exact rz_go (fun p e R s m args below meth c H locs cells slots ls Q X hv w => lv_lsub X.1 X.2.1 hd w) k
theorem rz_lmul {x y : Int64} (q : Nat) (hd : decode cc pc = .ok (.lmul, 1)) (hq : pc + 1 = q) (k : Rz v own cc nL ret ini emb d q lv (vL (x * y) :: st) mm) : Rz v own cc nL ret ini emb d pc lv (vL y :: vL x :: st) mm := by
  subst hq
  exact rz_go (fun p e R s m args below meth c H locs cells slots ls Q X hv w => lv_lmul X.1 X.2.1 hd w) k
theorem rz_land {x y : Int64} (q : Nat) (hd : decode cc pc = .ok (.land, 1)) (hq : pc + 1 = q) (k : Rz v own cc nL ret ini emb d q lv (vL (x &&& y) :: st) mm) : Rz v own cc nL ret ini emb d pc lv (vL y :: vL x :: st) mm := by
  subst hq
  exact rz_go (fun p e R s m args below meth c H locs cells slots ls Q X hv w => lv_land X.1 X.2.1 hd w) k
theorem rz_lor {x y : Int64} (q : Nat) (hd : decode cc pc = .ok (.lor, 1)) (hq : pc + 1 = q) (k : Rz v own cc nL ret ini emb d q lv (vL (x ||| y) :: st) mm) : Rz v own cc nL ret ini emb d pc lv (vL y :: vL x :: st) mm := by
  subst hq
  exact rz_go (fun p e R s m args below meth c H locs cells slots ls Q X hv w => lv_lor X.1 X.2.1 hd w) k
theorem rz_ishl {x y : Int32} (q : Nat) (hd : decode cc pc = .ok (.ishl, 1)) (hq : pc + 1 = q) (k : Rz v own cc nL ret ini emb d q lv (vI (x <<< (y &&& 31)) :: st) mm) : Rz v own cc nL ret ini emb d pc lv (vI y :: vI x :: st) mm := by
  subst hq
  exact rz_go (fun p e R s m args below meth c H locs cells slots ls Q X hv w => lv_ishl X.1 X.2.1 hd w) k
theorem rz_ishr {x y : Int32} (q : Nat) (hd : decode cc pc = .ok (.ishr, 1)) (hq : pc + 1 = q) (k : Rz v own cc nL ret ini emb d q lv (vI (x >>> (y &&& 31)) :: st) mm) : Rz v own cc nL ret ini emb d pc lv (vI y :: vI x :: st) mm := by
  subst hq
  exact rz_go (fun p e R s m args below meth c H locs cells slots ls Q X hv w => lv_ishr X.1 X.2.1 hd w) k
theorem rz_iushr {x y : Int32} (q : Nat) (hd : decode cc pc = .ok (.iushr, 1)) (hq : pc + 1 = q) (k : Rz v own cc nL ret ini emb d q lv (vI ((x.toUInt32 >>> (y.toUInt32 &&& Int32.toUInt32 31)).toInt32) :: st) mm) : Rz v own cc nL ret ini emb d pc lv (vI y :: vI x :: st) mm := by
  subst hq
  exact rz_go (fun p e R s m args below meth c H locs cells slots ls Q X hv w => lv_iushr X.1 X.2.1 hd rfl w) k
theorem rz_lshl {x : Int64} {y : Int32} (q : Nat) (hd : decode cc pc = .ok (.lshl, 1)) (hq : pc + 1 = q) (k : Rz v own cc nL ret ini emb d q lv (vL (x <<< (y.toInt64 &&& 63)) :: st) mm) : Rz v own cc nL ret ini emb d pc lv (vI y :: vL x :: st) mm := by
  subst hq
  exact rz_go (fun p e R s m args below meth c H locs cells slots ls Q X hv w => lv_lshl X.1 X.2.1 hd rfl w) k
theorem rz_i2l {x : Int32} (q : Nat) (hd : decode cc pc = .ok (.i2l, 1)) (hq : pc + 1 = q) (k : Rz v own cc nL ret ini emb d q lv (vL x.toInt64 :: st) mm) : Rz v own cc nL ret ini emb d pc lv (vI x :: st) mm := by
  subst hq
  exact rz_go (fun p e R s m args below meth c H locs cells slots ls Q X hv w => lv_i2l X.1 X.2.1 hd rfl w) k
theorem rz_l2i {x : Int64} (q : Nat) (hd : decode cc pc = .ok (.l2i, 1)) (hq : pc + 1 = q) (k : Rz v own cc nL ret ini emb d q lv (vI x.toInt32 :: st) mm) : Rz v own cc nL ret ini emb d pc lv (vL x :: st) mm := by
  subst hq
  exact rz_go (fun p e R s m args below meth c H locs cells slots ls Q X hv w => lv_l2i X.1 X.2.1 hd rfl w) k
theorem rz_i2b {x : Int32} (q : Nat) (hd : decode cc pc = .ok (.i2b, 1)) (hq : pc + 1 = q) (k : Rz v own cc nL ret ini emb d q lv (vI x.toInt8.toInt32 :: st) mm) : Rz v own cc nL ret ini emb d pc lv (vI x :: st) mm := by
  subst hq
  exact rz_go (fun p e R s m args below meth c H locs cells slots ls Q X hv w => lv_i2b X.1 X.2.1 hd rfl w) k
theorem rz_i2s {x : Int32} (q : Nat) (hd : decode cc pc = .ok (.i2s, 1)) (hq : pc + 1 = q) (k : Rz v own cc nL ret ini emb d q lv (vI x.toInt16.toInt32 :: st) mm) : Rz v own cc nL ret ini emb d pc lv (vI x :: st) mm := by
  subst hq
  exact rz_go (fun p e R s m args below meth c H locs cells slots ls Q X hv w => lv_i2s X.1 X.2.1 hd rfl w) k
theorem rz_i2c {x : Int32} (q : Nat) (hd : decode cc pc = .ok (.i2c, 1)) (hq : pc + 1 = q) (k : Rz v own cc nL ret ini emb d q lv (vI (x.toUInt32 % 65536).toInt32 :: st) mm) : Rz v own cc nL ret ini emb d pc lv (vI x :: st) mm := by
  subst hq
  exact rz_go (fun p e R s m args below meth c H locs cells slots ls Q X hv w => lv_i2c X.1 X.2.1 hd rfl w) k
theorem rz_lcmp {x y : Int64} (q : Nat) (hd : decode cc pc = .ok (.lcmp, 1)) (hq : pc + 1 = q) (k : Rz v own cc nL ret ini emb d q lv (vI (lg_cmp x y) :: st) mm) : Rz v own cc nL ret ini emb d pc lv (vL y :: vL x :: st) mm := by
  subst hq
  exact rz_go (fun p e R s m args below meth c H locs cells slots ls Q X hv w => W.lcmp X.1 X.2.1 hd w) k
/-- a divisor that is not 0 -/
def bNz (y : Int32) {α : Type} (m : mM α) : mM α := fun s => if y = 0 then none else m s
def bNl (y : Int64) {α : Type} (m : mM α) : mM α := fun s => if y = 0 then none else m s
theorem rz_idiv {x y : Int32} (q : Nat) (hd : decode cc pc = .ok (.idiv, 1)) (hq : pc + 1 = q) (k : Rz v own cc nL ret ini emb d q lv (vI (x / y) :: st) mm) : Rz v own cc nL ret ini emb d pc lv (vI y :: vI x :: st) (bNz y mm) := by
  subst hq
  intro σ σ' r hm
  unfold bNz at hm
  by_cases hy : y = 0
  · rw [if_pos hy] at hm; cases hm
  · rw [if_neg hy] at hm
    exact rz_go (st := vI y :: vI x :: st) (pc := pc) (fun p e R s m args below meth c H locs cells slots ls Q X hv w => lv_idiv X.1 X.2.1 hd hy w) k σ σ' r hm
theorem rz_irem {x y : Int32} (q : Nat) (hd : decode cc pc = .ok (.irem, 1)) (hq : pc + 1 = q) (k : Rz v own cc nL ret ini emb d q lv (vI (x - x / y * y) :: st) mm) : Rz v own cc nL ret ini emb d pc lv (vI y :: vI x :: st) (bNz y mm) := by
  subst hq
  intro σ σ' r hm
  unfold bNz at hm
  by_cases hy : y = 0
  · rw [if_pos hy] at hm; cases hm
  · rw [if_neg hy] at hm
    exact rz_go (st := vI y :: vI x :: st) (pc := pc) (fun p e R s m args below meth c H locs cells slots ls Q X hv w => lv_irem X.1 X.2.1 hd hy w) k σ σ' r hm
theorem rz_ldiv {x y : Int64} (q : Nat) (hd : decode cc pc = .ok (.ldiv, 1)) (hq : pc + 1 = q) (k : Rz v own cc nL ret ini emb d q lv (vL (x / y) :: st) mm) : Rz v own cc nL ret ini emb d pc lv (vL y :: vL x :: st) (bNl y mm) := by
  subst hq
  intro σ σ' r hm
  unfold bNl at hm
  by_cases hy : y = 0
  · rw [if_pos hy] at hm; cases hm
  · rw [if_neg hy] at hm
    exact rz_go (st := vL y :: vL x :: st) (pc := pc) (fun p e R s m args below meth c H locs cells slots ls Q X hv w => lv_ldiv X.1 X.2.1 hd hy w) k σ σ' r hm
theorem rz_lrem {x y : Int64} (q : Nat) (hd : decode cc pc = .ok (.lrem, 1)) (hq : pc + 1 = q) (k : Rz v own cc nL ret ini emb d q lv (vL (x - x / y * y) :: st) mm) : Rz v own cc nL ret ini emb d pc lv (vL y :: vL x :: st) (bNl y mm) := by
  subst hq
  intro σ σ' r hm
  unfold bNl at hm
  by_cases hy : y = 0
  · rw [if_pos hy] at hm; cases hm
  · rw [if_neg hy] at hm
    exact rz_go (st := vL y :: vL x :: st) (pc := pc) (fun p e R s m args below meth c H locs cells slots ls Q X hv w => lv_lrem X.1 X.2.1 hd hy w) k σ σ' r hm
theorem rz_dup {x : mV} (q : Nat) (hd : decode cc pc = .ok (.dup, 1)) (hq : pc + 1 = q) (hx : mcat x = 1) (k : Rz v own cc nL ret ini emb d q lv (x :: x :: st) mm) : Rz v own cc nL ret ini emb d pc lv (x :: st) mm := by
  subst hq
  exact rz_go (fun p e R s m args below meth c H locs cells slots ls Q X hv w => lv_dup X.1 X.2.1 hd ((tv_cat v x).trans hx) w) k
theorem rz_dup2 {x y : mV} (q : Nat) (hd : decode cc pc = .ok (.dup2, 1)) (hq : pc + 1 = q) (hx : mcat x = 1) (hy : mcat y = 1) (k : Rz v own cc nL ret ini emb d q lv (x :: y :: x :: y :: st) mm) : Rz v own cc nL ret ini emb d pc lv (x :: y :: st) mm := by
  subst hq
  exact rz_go (fun p e R s m args below meth c H locs cells slots ls Q X hv w => lv_dup2_11 X.1 X.2.1 hd ((tv_cat v x).trans hx) ((tv_cat v y).trans hy) w) k
theorem rz_goto {off : Int} (q : Nat) (hd : decode cc pc = .ok (.goto off, 3)) (hq : (pc : Int) + off = (q : Int)) (k : Rz v own cc nL ret ini emb d q lv st mm) : Rz v own cc nL ret ini emb d pc lv st mm :=
  rz_go (fun p e R s m args below meth c H locs cells slots ls Q X hv w => lv_goto X.1 X.2.1 hd hq w) k
theorem rz_if_ne {x : Int32} {off : Int} {m1 m2 : mM α} (q1 q2 : Nat) (hd : decode cc pc = .ok (.ifCond .ne off, 3)) (h1 : (pc : Int) + off = (q1 : Int)) (h2 : pc + 3 = q2) (k1 : Rz v own cc nL ret ini emb d q1 lv st m1) (k2 : Rz v own cc nL ret ini emb d q2 lv st m2) : Rz v own cc nL ret ini emb d pc lv (vI x :: st) (bIf (x = 0) m2 m1) := by
  subst h2
  exact rz_fork (fun p e R s m args below meth c H locs cells slots ls Q X k1 k2 => lv_if_ne X.1 X.2.1 hd h1 k2 k1) k2 k1
theorem rz_icmp_ne {x y : Int32} {off : Int} {m1 m2 : mM α} (q1 q2 : Nat) (hd : decode cc pc = .ok (.if_icmp .ne off, 3)) (h1 : (pc : Int) + off = (q1 : Int)) (h2 : pc + 3 = q2) (k1 : Rz v own cc nL ret ini emb d q1 lv st m1) (k2 : Rz v own cc nL ret ini emb d q2 lv st m2) : Rz v own cc nL ret ini emb d pc lv (vI y :: vI x :: st) (bIf (x = y) m2 m1) := by
  subst h2
  exact rz_fork (fun p e R s m args below meth c H locs cells slots ls Q X k1 k2 => lv_icmp_ne X.1 X.2.1 hd h1 k2 k1) k2 k1
theorem rz_if_eq {x : Int32} {off : Int} {m1 m2 : mM α} (q1 q2 : Nat) (hd : decode cc pc = .ok (.ifCond .eq off, 3)) (h1 : (pc : Int) + off = (q1 : Int)) (h2 : pc + 3 = q2) (k1 : Rz v own cc nL ret ini emb d q1 lv st m1) (k2 : Rz v own cc nL ret ini emb d q2 lv st m2) : Rz v own cc nL ret ini emb d pc lv (vI x :: st) (bIf (x = 0) m1 m2) := by
  subst h2
  exact rz_fork (fun p e R s m args below meth c H locs cells slots ls Q X k1 k2 => lv_if_eq X.1 X.2.1 hd h1 k1 k2) k1 k2
theorem rz_if_lt {x : Int32} {off : Int} {m1 m2 : mM α} (q1 q2 : Nat) (hd : decode cc pc = .ok (.ifCond .lt off, 3)) (h1 : (pc : Int) + off = (q1 : Int)) (h2 : pc + 3 = q2) (k1 : Rz v own cc nL ret ini emb d q1 lv st m1) (k2 : Rz v own cc nL ret ini emb d q2 lv st m2) : Rz v own cc nL ret ini emb d pc lv (vI x :: st) (bIf (x < 0) m1 m2) := by
  subst h2
  exact rz_fork (fun p e R s m args below meth c H locs cells slots ls Q X k1 k2 => lv_if_lt X.1 X.2.1 hd h1 k1 k2) k1 k2
theorem rz_if_ge {x : Int32} {off : Int} {m1 m2 : mM α} (q1 q2 : Nat) (hd : decode cc pc = .ok (.ifCond .ge off, 3)) (h1 : (pc : Int) + off = (q1 : Int)) (h2 : pc + 3 = q2) (k1 : Rz v own cc nL ret ini emb d q1 lv st m1) (k2 : Rz v own cc nL ret ini emb d q2 lv st m2) : Rz v own cc nL ret ini emb d pc lv (vI x :: st) (bIf (0 ≤ x) m1 m2) := by
  subst h2
  exact rz_fork (fun p e R s m args below meth c H locs cells slots ls Q X k1 k2 => lv_if_ge X.1 X.2.1 hd h1 k1 k2) k1 k2
theorem rz_if_gt {x : Int32} {off : Int} {m1 m2 : mM α} (q1 q2 : Nat) (hd : decode cc pc = .ok (.ifCond .gt off, 3)) (h1 : (pc : Int) + off = (q1 : Int)) (h2 : pc + 3 = q2) (k1 : Rz v own cc nL ret ini emb d q1 lv st m1) (k2 : Rz v own cc nL ret ini emb d q2 lv st m2) : Rz v own cc nL ret ini emb d pc lv (vI x :: st) (bIf (0 < x) m1 m2) := by
  subst h2
  exact rz_fork (fun p e R s m args below meth c H locs cells slots ls Q X k1 k2 => lv_if_gt X.1 X.2.1 hd h1 k1 k2) k1 k2
theorem rz_if_le {x : Int32} {off : Int} {m1 m2 : mM α} (q1 q2 : Nat) (hd : decode cc pc = .ok (.ifCond .le off, 3)) (h1 : (pc : Int) + off = (q1 : Int)) (h2 : pc + 3 = q2) (k1 : Rz v own cc nL ret ini emb d q1 lv st m1) (k2 : Rz v own cc nL ret ini emb d q2 lv st m2) : Rz v own cc nL ret ini emb d pc lv (vI x :: st) (bIf (x ≤ 0) m1 m2) := by
  subst h2
  exact rz_fork (fun p e R s m args below meth c H locs cells slots ls Q X k1 k2 => lv_if_le X.1 X.2.1 hd h1 k1 k2) k1 k2
theorem rz_icmp_eq {x y : Int32} {off : Int} {m1 m2 : mM α} (q1 q2 : Nat) (hd : decode cc pc = .ok (.if_icmp .eq off, 3)) (h1 : (pc : Int) + off = (q1 : Int)) (h2 : pc + 3 = q2) (k1 : Rz v own cc nL ret ini emb d q1 lv st m1) (k2 : Rz v own cc nL ret ini emb d q2 lv st m2) : Rz v own cc nL ret ini emb d pc lv (vI y :: vI x :: st) (bIf (x = y) m1 m2) := by
  subst h2
  exact rz_fork (fun p e R s m args below meth c H locs cells slots ls Q X k1 k2 => lv_icmp_eq X.1 X.2.1 hd h1 k1 k2) k1 k2
theorem rz_icmp_lt {x y : Int32} {off : Int} {m1 m2 : mM α} (q1 q2 : Nat) (hd : decode cc pc = .ok (.if_icmp .lt off, 3)) (h1 : (pc : Int) + off = (q1 : Int)) (h2 : pc + 3 = q2) (k1 : Rz v own cc nL ret ini emb d q1 lv st m1) (k2 : Rz v own cc nL ret ini emb d q2 lv st m2) : Rz v own cc nL ret ini emb d pc lv (vI y :: vI x :: st) (bIf (x < y) m1 m2) := by
  subst h2
  exact rz_fork (fun p e R s m args below meth c H locs cells slots ls Q X k1 k2 => lv_icmp_lt X.1 X.2.1 hd h1 k1 k2) k1 k2
theorem rz_icmp_ge {x y : Int32} {off : Int} {m1 m2 : mM α} (q1 q2 : Nat) (hd : decode cc pc = .ok (.if_icmp .ge off, 3)) (h1 : (pc : Int) + off = (q1 : Int)) (h2 : pc + 3 = q2) (k1 : Rz v own cc nL ret ini emb d q1 lv st m1) (k2 : Rz v own cc nL ret ini emb d q2 lv st m2) : Rz v own cc nL ret ini emb d pc lv (vI y :: vI x :: st) (bIf (y ≤ x) m1 m2) := by
  subst h2
  exact rz_fork (fun p e R s m args below meth c H locs cells slots ls Q X k1 k2 => lv_icmp_ge X.1 X.2.1 hd h1 k1 k2) k1 k2
theorem rz_icmp_gt {x y : Int32} {off : Int} {m1 m2 : mM α} (q1 q2 : Nat) (hd : decode cc pc = .ok (.if_icmp .gt off, 3)) (h1 : (pc : Int) + off = (q1 : Int)) (h2 : pc + 3 = q2) (k1 : Rz v own cc nL ret ini emb d q1 lv st m1) (k2 : Rz v own cc nL ret ini emb d q2 lv st m2) : Rz v own cc nL ret ini emb d pc lv (vI y :: vI x :: st) (bIf (y < x) m1 m2) := by
  subst h2
  exact rz_fork (fun p e R s m args below meth c H locs cells slots ls Q X k1 k2 => lv_icmp_gt X.1 X.2.1 hd h1 k1 k2) k1 k2
theorem rz_icmp_le {x y : Int32} {off : Int} {m1 m2 : mM α} (q1 q2 : Nat) (hd : decode cc pc = .ok (.if_icmp .le off, 3)) (h1 : (pc : Int) + off = (q1 : Int)) (h2 : pc + 3 = q2) (k1 : Rz v own cc nL ret ini emb d q1 lv st m1) (k2 : Rz v own cc nL ret ini emb d q2 lv st m2) : Rz v own cc nL ret ini emb d pc lv (vI y :: vI x :: st) (bIf (x ≤ y) m1 m2) := by
  subst h2
  exact rz_fork (fun p e R s m args below meth c H locs cells slots ls Q X k1 k2 => lv_icmp_le X.1 X.2.1 hd h1 k1 k2) k1 k2
theorem rz_ifnonnull {a : Nat} {off : Int} {m1 m2 : mM α} (q1 q2 : Nat) (hd : decode cc pc = .ok (.ifnonnull off, 3)) (h1 : (pc : Int) + off = (q1 : Int)) (h2 : pc + 3 = q2) (k1 : Rz v own cc nL ret ini emb d q1 lv st m1) (k2 : Rz v own cc nL ret ini emb d q2 lv st m2) : Rz v own cc nL ret ini emb d pc lv (vR a :: st) (bIf (¬ a = 0) m1 m2) := by
  subst h2
  refine rz_fork (fun p e R s m args below meth c H locs cells slots ls Q X k1 k2 => ?_) k1 k2
  rw [List.map_cons]
  rcases Nat.eq_zero_or_pos a with h | h
  · subst h
    exact lv_ifnonnullN X.1 X.2.1 hd (k2 (fun q => q rfl))
  · rw [tv_R h]
    exact lv_ifnonnull X.1 X.2.1 hd h1 (k1 (by omega))
theorem rz_ifnull {a : Nat} {off : Int} {m1 m2 : mM α} (q1 q2 : Nat) (hd : decode cc pc = .ok (.ifnull off, 3)) (h1 : (pc : Int) + off = (q1 : Int)) (h2 : pc + 3 = q2) (k1 : Rz v own cc nL ret ini emb d q1 lv st m1) (k2 : Rz v own cc nL ret ini emb d q2 lv st m2) : Rz v own cc nL ret ini emb d pc lv (vR a :: st) (bIf (a = 0) m1 m2) := by
  subst h2
  refine rz_fork (fun p e R s m args below meth c H locs cells slots ls Q X k1 k2 => ?_) k1 k2
  rw [List.map_cons]
  rcases Nat.eq_zero_or_pos a with h | h
  · subst h
    exact lv_ifnullN X.1 X.2.1 hd h1 (k1 rfl)
  · rw [tv_R h]
    exact lv_ifnull X.1 X.2.1 hd (k2 (by omega))
def bRet {α : Type} (x : α) : mM α := fun s => some (x, s)
/-- a truth value goes back as 0 or 1 -/
def bRetZ (x : Int32) : mM Int32 := fun s => if x = 0 ∨ x = 1 then some (x, s) else none
abbrev emI : Int32 → Option mV := fun x => some (vI x)
abbrev emL : Int64 → Option mV := fun x => some (vL x)
abbrev emR : Nat → Option mV := fun x => some (vR x)
abbrev emU : Unit → Option mV := fun _ => none
theorem rz_ireturn {x : Int32} {st : List mV} (hr : ret = some .int) (hs : st = []) (hd : decode cc pc = .ok (.ireturn, 1)) : Rz v own cc nL ret ini emI d pc lv (vI x :: st) (bRet x) := by
  intro σ σ' r hm
  cases hm
  subst hs
  subst hr
  refine ⟨⟨Nat.le_refl _, Nat.le_refl _⟩, fun p e R s m args below meth c H locs cells slots ls X hR hS hf hl hc hs hv => ?_⟩
  have e1 : cells = R.cells := by omega
  have e2 : slots = R.slots := by omega
  subst e1 e2
  have hlk := X.2.2.2.2.2.2.1
  exact W.iret (v := x) X.1 X.2.1 X.2.2.2.2.2.1 (fun t ht _ => ⟨rfl, by rw [ht]; exact hR, hS.F ht⟩) hS.2.2 hd hlk
theorem rz_zreturn {x : Int32} {st : List mV} (hr : ret = some .boolean) (hs : st = []) (hd : decode cc pc = .ok (.ireturn, 1)) : Rz v own cc nL ret ini emI d pc lv (vI x :: st) (bRetZ x) := by
  intro σ σ' r hm
  unfold bRetZ at hm
  by_cases hz : x = 0 ∨ x = 1
  · rw [if_pos hz] at hm
    cases hm
    subst hs
    subst hr
    refine ⟨⟨Nat.le_refl _, Nat.le_refl _⟩, fun p e R s m args below meth c H locs cells slots ls X hR hS hf hl hc hs hv => ?_⟩
    have e1 : cells = R.cells := by omega
    have e2 : slots = R.slots := by omega
    subst e1 e2
    have hlk := X.2.2.2.2.2.2.1
    exact W.zret (v := x) X.1 X.2.1 X.2.2.2.2.2.1 (by rcases hz with h | h <;> subst h <;> rfl) (fun t ht _ => ⟨rfl, by rw [ht]; exact hR, hS.F ht⟩) hS.2.2 hd hlk
  · rw [if_neg hz] at hm; cases hm
theorem rz_lreturn {x : Int64} {st : List mV} (hr : ret = some .long) (hs : st = []) (hd : decode cc pc = .ok (.lreturn, 1)) : Rz v own cc nL ret ini emL d pc lv (vL x :: st) (bRet x) := by
  intro σ σ' r hm
  cases hm
  subst hs
  subst hr
  refine ⟨⟨Nat.le_refl _, Nat.le_refl _⟩, fun p e R s m args below meth c H locs cells slots ls X hR hS hf hl hc hs hv => ?_⟩
  have e1 : cells = R.cells := by omega
  have e2 : slots = R.slots := by omega
  subst e1 e2
  have hlk := X.2.2.2.2.2.2.1
  exact W.lret (v := x) X.1 X.2.1 X.2.2.2.2.2.1 (fun t ht _ => ⟨rfl, by rw [ht]; exact hR, hS.F ht⟩) hS.2.2 hd hlk
theorem rz_areturn {a : Nat} {st : List mV} {rt : FieldType} (hr : ret = some rt) (hrt : (∃ n, rt = .object n) ∨ ∃ t, rt = .array t) (hs : st = []) (hd : decode cc pc = .ok (.areturn, 1)) : Rz v own cc nL ret ini emR d pc lv (vR a :: st) (bRet a) := by
  intro σ σ' r hm
  cases hm
  subst hs
  subst hr
  refine ⟨⟨Nat.le_refl _, Nat.le_refl _⟩, fun p e R s m args below meth c H locs cells slots ls X hR hS hf hl hc hs hv => ?_⟩
  have e1 : cells = R.cells := by omega
  have e2 : slots = R.slots := by omega
  subst e1 e2
  have hlk := X.2.2.2.2.2.2.1
  exact W.aret (v := tv v (vR a)) X.1 X.2.1 X.2.2.2.2.2.1 hrt (by rcases tv_ref v a with ⟨x, hx⟩ | hx; exact Or.inr ⟨x, hx⟩; exact Or.inl hx) (fun t ht _ => ⟨rfl, by rw [ht]; exact hR, hS.F ht⟩) hS.2.2 hd hlk
theorem rz_return {st : List mV} (hr : ret = none) (hs : st = []) (hd : decode cc pc = .ok (.return_, 1)) : Rz v own cc nL ret ini emU d pc lv st (bRet ()) := by
  intro σ σ' r hm
  cases hm
  subst hs
  subst hr
  refine ⟨⟨Nat.le_refl _, Nat.le_refl _⟩, fun p e R s m args below meth c H locs cells slots ls X hR hS hf hl hc hs hv => ?_⟩
  have e1 : cells = R.cells := by omega
  have e2 : slots = R.slots := by omega
  subst e1 e2
  have hlk := X.2.2.2.2.2.2.1
  exact W.vret X.1 X.2.1 X.2.2.2.2.2.1 (fun t ht _ => ⟨rfl, by rw [ht]; exact hR, hS.F ht⟩) hS.2.2 hd hlk
end RZ

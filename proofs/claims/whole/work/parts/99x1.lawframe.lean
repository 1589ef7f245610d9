/-! FRAMES OF A LAW'S READERS -/
abbrev a11 : Nat → Prop := fun b => b = 106 ∨ b = 111 ∨ b = 112
def FWL (t v : mS) : Prop := sP v = sP t ∧ sH v = sH t ∧ sZ v = sZ t ∧ sW v = sW t ∧ (∀ b, b ≠ 113 → b ≠ 118 → sI v b = sI t b) ∧ (∀ j, ¬ (12 ≤ j ∧ j ≤ 25) → j ≠ 31 → sI v 113 j = sI t 113 j) ∧ (∀ i, i < 3440 → sI v 118 i = sI t 118 i) ∧ (∀ b, b ≠ 113 → b ≠ 120 → sL v b = sL t b) ∧ ∀ j, j ≠ 22 → sL v 113 j = sL t 113 j
theorem FWL.rf {t : mS} : FWL t t := ⟨rfl, rfl, rfl, rfl, fun _ _ _ => rfl, fun _ _ _ => rfl, fun _ _ => rfl, fun _ _ _ => rfl, fun _ _ => rfl⟩
theorem FWL.tr {t u v : mS} (h1 : FWL t u) (h2 : FWL u v) : FWL t v := by
  obtain ⟨a1, a2, a3, a4, a5, a6, a7, a8, a9⟩ := h1
  obtain ⟨b1, b2, b3, b4, b5, b6, b7, b8, b9⟩ := h2
  exact ⟨b1.trans a1, b2.trans a2, b3.trans a3, b4.trans a4, fun b h h' => (b5 b h h').trans (a5 b h h'), fun j h h' => (b6 j h h').trans (a6 j h h'), fun i h => (b7 i h).trans (a7 i h), fun b h h' => (b8 b h h').trans (a8 b h h'), fun j h => (b9 j h).trans (a9 j h)⟩
theorem FW.l2 {t v : mS} (h : FW t v) : FWL t v := ⟨h.1, h.2.1, h.2.2.1, h.2.2.2.1, h.2.2.2.2.1, fun j hj _ => h.2.2.2.2.2.1 j hj, h.2.2.2.2.2.2⟩
theorem FWL.i31 {t : mS} {x : Int32} : FWL t (wI t 113 31 x) := ⟨rfl, rfl, rfl, rfl, fun b h _ => by funext i; exact sI_wI_ne (Or.inl h), fun i _ h => sI_wI_ne (Or.inr h), fun i _ => sI_wI_ne (Or.inl (by decide)), fun _ _ _ => rfl, fun _ _ => rfl⟩
theorem F6.f11 {A : Nat → Prop} {v v' : mS} (h : F6 A v v') : FI a11 v v' := h.1.mo (fun b hb => Or.inl hb)
theorem st_f11 {v : mS} {j : Nat} {x : Int32} : FI a11 v (stS v j x) := (FI.w (A := a11) j x (Or.inr (Or.inr rfl))).tr (FI.w (A := a11) 3 _ (Or.inr (Or.inl rfl)))
/-- both frames of a law -/
def KFL (v v' t t' : mS) : Prop := FI a11 v v' ∧ FWL t t' ∧ ∀ i, i < 3766 → sI t' 118 i = sI t 118 i
theorem KFL.tr {v v' v'' t t' t'' : mS} (h1 : KFL v v' t t') (h2 : KFL v' v'' t' t'') : KFL v v'' t t'' := ⟨h1.1.tr h2.1, h1.2.1.tr h2.2.1, fun i hi => (h2.2.2 i hi).trans (h1.2.2 i hi)⟩
theorem KFL.cl {v v' t : mS} (h : FI a11 v v') : KFL v v' t t := ⟨h, FWL.rf, fun _ _ => rfl⟩
theorem KFL.rf {v t : mS} : KFL v v t t := KFL.cl ⟨fun _ _ => rfl, rfl⟩
theorem KFL.f {v v' t t' : mS} {A : Nat → Prop} (h1 : F6 A v v') (h2 : F9 i12 l22 t t') : KFL v v' t t' := ⟨h1.f11, h2.fw.l2, fun i _ => by rw [(h2.1 118 (by decide)).1]⟩
theorem CG.st2 {v : mS} {C : Nat → Nat} {N a j : Nat} {x : Int32} (h : CG v C N a) : CG (stS v j x) C N a := by
  unfold stS
  exact (h.w (by decide) (by decide)).w (by decide) (by decide)

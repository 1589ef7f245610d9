/-! NEW NAMES, NAMES OF PEOPLE: both readers -/
/-- of the reader's cell only the new name's place was written -/
def G7 (v v' : mS) : Prop := FI (fun b => b = 106 ∨ b = 107) v v' ∧ ∀ j, j ≠ 8 → j ≠ 9 → sI v' 107 j = sI v 107 j
theorem G7.tr {u v w : mS} (h1 : G7 u v) (h2 : G7 v w) : G7 u w := ⟨h1.1.tr h2.1, fun j a b => (h2.2 j a b).trans (h1.2 j a b)⟩
theorem F6.g7 {A : Nat → Prop} {v v' : mS} (h : F6 A v v') : G7 v v' := ⟨h.1.mo (fun _ hb => Or.inl hb), fun j _ _ => by rw [h.1.1 107 (by decide)]⟩
theorem G7.kf {v v' : mS} (h : G7 v v') : FI a48 v v' := h.1.mo (fun b hb => Or.inl (by rcases hb with h | h <;> omega))
/-- of the reference tokens and one word were written -/
def G9 (i : Nat) (t t' : mS) : Prop := FW t t' ∧ sI t' 118 = sI t 118 ∧ (∀ j, ¬ (12 ≤ j ∧ j ≤ 18) → sI t' 113 j = sI t 113 j) ∧ ∀ j, j ≠ i → sL t' 120 j = sL t 120 j
theorem F9.g9 {t t' : mS} (h : F9 i12 l22 t t') (i : Nat) : G9 i t t' := ⟨h.fw, (h.1 118 (by decide)).1, fun j hj => h.I hj, fun j _ => by rw [(h.1 120 (by decide)).2]⟩
theorem G9.tr {i : Nat} {t u v : mS} (h1 : G9 i t u) (h2 : G9 i u v) : G9 i t v := ⟨h1.1.tr h2.1, h2.2.1.trans h1.2.1, fun j hj => (h2.2.2.1 j hj).trans (h1.2.2.1 j hj), fun j hj => (h2.2.2.2 j hj).trans (h1.2.2.2 j hj)⟩
section PNAME
variable {v t : mS} {C : Nat → Nat} {N a n np nr : Nat} {nt : tN}
theorem RG.lg (h : RG t C N a) {j : Nat} {x : Int64} : RG (wL t 120 j x) C N a := h.o h.1.1 (fun _ _ _ => rfl) (sL_ne (Or.inl (by decide))) rfl
theorem xf_none (hx : xf C N a n nt = none) : ¬ fs (mP C N a nt) n < n := fun hl => by
  unfold xf at hx
  rw [if_pos hl] at hx
  cases hx
theorem x_new60E (h : BD t) (x y : Int32) : fX9_readNew_60 113 x y t = some ((), t) := by
  unfold fX9_readNew_60
  rw [xGI h.1.k, e_if, if_neg h.ne.1]
  rfl
theorem x_new15E (h : BD t) (x y : Int32) : fX9_readNew_15 113 x y t = some ((), t) := by
  unfold fX9_readNew_15
  rw [xGI h.1.k, e_if, if_neg h.ne.2, x_new60E h]
theorem j_newName (h : CG v C N a) (g : RG t C N a) (hN : NI C N n np nr nt) (hC : CNT v n nt) (hR : RNT t C n nt) (h47 : sI t 118 3447 = nI np) (h21 : sI t 113 21 = nI nr) {first many : Nat} (hfm : first + many < 14) : ∃ v' t', (bCallV 9 113 (fX9_isName 113) (fun x1 => bIf (x1 = 0) (bCallV 9 113 (fX9_wrong 113) (fun _ => fX9_readNew_15 113 (nI first) (nI many))) (fX9_readNew_15 113 (nI first) (nI many)))) t = some ((), t') ∧ G7 v v' ∧ G9 (56 + first + many) t t' ∧ ((fX6_takeNewName 107 v = some (nI 1, v') ∧ nmq C N a = true ∧ xf C N a n nt = none ∧ sI v' 107 8 = nI a ∧ sI v' 107 9 = nI (ed C N a) ∧ sL t' 120 (56 + first + many) = lN (wd C a (ed C N a - a)) ∧ CG v' C N (nx C N a) ∧ RG t' C N (nx C N a)) ∨ (fX6_takeNewName 107 v = some (nI 0, v') ∧ JE v' t')) := by
  have hS := h.1.1
  have hT := g.1.1
  have hN0 := hN
  obtain ⟨n1, n2, n3, -⟩ := hN
  unfold fX6_takeNewName
  rw [e_callV hS.k107, x_call (c_isName h), e_if, g.1.cv, x_call (x_isName g), e_if]
  cases hq : nmq C N a with
  | false =>
    obtain ⟨v', t', e1, e2, e3, e4, je⟩ := j_wrong h g
    rw [if_pos (by decide), if_pos (by decide), w_tk hS, e_callV hS.k106, li_2, x_call e1, g.1.cv, x_call e2, x_new15E je.bd]
    exact ⟨v', t', rfl, e3.g7, e4.g9 _, Or.inr ⟨rfl, je⟩⟩
  | true =>
    obtain ⟨hk, h8⟩ := nm_i hq
    have hk4 : kd C N a ≠ 4 := by omega
    obtain ⟨hl1, hl2⟩ := g.L22 hk h8
    rw [if_neg (by decide), if_neg (by decide), e_callV hS.k107, x_call (c_findName h hN0 hC hk), e_if]
    have hR15 : fX9_readNew_15 113 (nI first) (nI many) t = if fs (nmP t 0) np < np ∨ fs (nmP t 8) nr < nr then fX9_readNew_51 113 (nI first) (nI many) t else fX9_readNew_60 113 (nI first) (nI many) t := by
      unfold fX9_readNew_15
      rw [g.1.gi g.2.2.2, e_if, if_pos (by decide), rt_c hT, li_3447, rt_n hT (by decide), h47, g.1.cv, li_0, x_call (x_named hT (by omega)), e_if]
      by_cases h1 : fs (nmP t 0) np < np
      · rw [if_pos h1, if_pos (by rw [le_i (by omega) (by omega)]; omega), if_pos (Or.inl h1)]
      · rw [if_neg h1, if_neg (by decide), xGIe hT.k h21, g.1.cv, li_8, x_call (x_named hT (by omega)), e_if]
        by_cases h2 : fs (nmP t 8) nr < nr
        · rw [if_pos h2, if_neg (by rw [lt_i (by omega) (by omega)]; omega), if_pos (Or.inr h2)]
        · rw [if_neg h2, if_pos (by decide), if_neg (by omega)]
    rw [hR15]
    have htk := x_taken g hN0 hR hk h8
    cases hx : xf C N a n nt with
    | some x =>
      have hlt : fs (mP C N a nt) n < n := by
        rcases Nat.lt_or_ge (fs (mP C N a nt) n) n with h1 | h1
        · exact h1
        · unfold xf at hx
          rw [if_neg (by omega)] at hx
          cases hx
      obtain ⟨v', t', e1, e2, e3, e4, je⟩ := j_fail h g (w := 3) (by decide) (by decide) hk4
      rw [if_pos hlt, if_pos (htk.mpr (by rw [hx]; exact fun e => by cases e)), if_neg (by rw [li_1, ne_m1, m1_i (by omega)]; exact id), w_tk hS, e_callV hS.k106, li_3, x_call e1]
      unfold fX9_readNew_51
      rw [g.1.gi g.2.1.1, g.1.cv, li_3, x_call e2, x_new60E je.bd]
      exact ⟨v', t', rfl, e3.g7, e4.g9 _, Or.inr ⟨rfl, je⟩⟩
    | none =>
      have hnl := xf_none hx
      have hno : ¬ (fs (nmP t 0) np < np ∨ fs (nmP t 8) nr < nr) := fun hh => htk.mp hh hx
      obtain ⟨k3, k2, k4, -, -⟩ := h.2.1
      have cA : CG (wI (wI v 107 8 (nI a)) 107 9 (nI (ed C N a))) C N a := (h.w (by decide) (by decide)).w (by decide) (by decide)
      have rA : RG (wL t 120 (56 + first + many) (lN (wd C a (ed C N a - a)))) C N a := g.lg
      have hS1 : CS (wI v 107 8 (nI a)) := hS.w
      have hSA := cA.1.1
      obtain ⟨v', t', e1, e2, e3, e4, e5, e6⟩ := j_next cA rA
      have h31 : sI (wI v 107 8 (nI a)) 106 4 = nI (ed C N a) := by rw [sI_wI_ne (Or.inl (by decide))]; exact k4
      rw [if_neg hnl, if_neg hno, if_pos (show mI = (-1 : Int32) from rfl), w_tk hS, xGIe hS.k106 k3, xPI hS.k107, w_tk hS1, xGIe hS1.k106 h31, xPI hS1.k107, w_tk hSA, e_callV hSA.k106, x_call e1]
      unfold fX9_readNew_60
      rw [g.1.gi g.2.2.2, e_if, if_pos (by decide), rt_26 hT, xGL hT.k, hl1, li_56, nI_add, nI_add, xSL hT.h120 (by omega) (by decide), rA.1.cv, x_call e2]
      refine ⟨v', t', rfl, ?_, ?_, Or.inl ⟨rfl, rfl, rfl, ?_, ?_, ?_, e5, e6⟩⟩
      · refine G7.tr ⟨(FI.w (A := fun b => b = 106 ∨ b = 107) 8 (nI a) (Or.inr rfl)).tr (FI.w 9 _ (Or.inr rfl)), fun j h1 h2 => ?_⟩ e3.g7
        rw [sI_wI_ne (Or.inr h2), sI_wI_ne (Or.inr h1)]
      · refine G9.tr ⟨FW.l, rfl, fun _ _ => rfl, fun j hj => sL_ne (Or.inr hj)⟩ (e4.g9 _)
      · rw [e3.1.1 107 (by decide), sI_wI_ne (Or.inr (by decide)), sI_wI_eq]
      · rw [e3.1.1 107 (by decide), sI_wI_eq]
      · rw [(e4.1 120 (by decide)).2, sL_eq]
theorem x_pn63E (h : BD t) (x : Int32) : fX9_readPersonName_63 113 x t = some (x, t) := by
  unfold fX9_readPersonName_63
  rw [e_callV h.1.k, x_call (x_mustE h _)]
  rfl
theorem x_pn42E (h : BD t) (x : Int32) : fX9_readPersonName_42 113 x t = some (x, t) := by
  unfold fX9_readPersonName_42
  rw [xGI h.1.k, e_if, if_neg h.ne.2, x_pn63E h]
theorem x_pn18E (h : BD t) : fX9_readPersonName_18 113 t = some (nI 0, t) := by
  unfold fX9_readPersonName_18
  rw [xGI h.1.k, e_if, if_neg h.ne.2, x_pn42E h]
  rfl
theorem x_pnE (h : BD t) : fX9_readPersonName 113 t = some (nI 0, t) := by
  unfold fX9_readPersonName
  rw [xGI h.1.k, e_if, if_neg h.ne.2, x_pn18E h]
theorem j_person (h : CG v C N a) (g : RG t C N a) (hN : NI C N n np nr nt) (hC : CNT v n nt) (hR : RNT t C n nt) (h47 : sI t 118 3447 = nI np) : ∃ v' t' y, fX9_readPersonName 113 t = some (y, t') ∧ F6 j28 v v' ∧ F9 i12 l22 t t' ∧ ((∃ x, fX6_takePerson 107 v = some (nI 1, v') ∧ y = nI x ∧ x < np ∧ sI v' 106 6 = nI x ∧ CG v' C N (nx C N a) ∧ RG t' C N (nx C N a)) ∨ (fX6_takePerson 107 v = some (nI 0, v') ∧ JE v' t')) := by
  have hS := h.1.1
  have hT := g.1.1
  have hN0 := hN
  obtain ⟨n1, n2, n3, h4, -⟩ := hN
  cases hq : nmq C N a with
  | false =>
    obtain ⟨v', t', e1, e2, e3, e4, je⟩ := j_wrong h g
    refine ⟨v', t', nI 0, ?_, e3, e4, Or.inr ⟨?_, je⟩⟩
    · unfold fX9_readPersonName
      rw [g.1.gi g.2.2.2, e_if, if_pos (by decide), g.1.cv, x_call (x_isName g), hq, e_if, if_pos (by decide), g.1.cv, x_call e2, x_pn18E je.bd]
    · unfold fX6_takePerson
      rw [e_callV hS.k107, x_call (c_isName h), hq, e_if, if_pos (by decide), w_tk hS, e_callV hS.k106, li_2, x_call e1]
      rfl
  | true =>
    obtain ⟨hk, h8⟩ := nm_i hq
    have hk4 : kd C N a ≠ 4 := by omega
    obtain ⟨r5, r6, r7, r8, r9, r10⟩ := hS.r107
    have hr0 : fX9_readPersonName 113 t = fX9_readPersonName_42 113 (oI (pOf (xf C N a n nt))) t := by
      unfold fX9_readPersonName
      rw [g.1.gi g.2.2.2, e_if, if_pos (by decide), g.1.cv, x_call (x_isName g), hq, e_if, if_neg (by decide)]
      unfold fX9_readPersonName_18
      rw [g.1.gi g.2.2.2, e_if, if_pos (by decide), rt_c hT, li_3447, rt_n hT (by decide), h47, g.1.cv, li_0, x_call (x_person g hN0 hR hk h8)]
    obtain ⟨v', t', e1, e2, e3, e4, je⟩ := j_fail h g (w := 3) (by decide) (by decide) hk4
    have h36 : fX6_takePerson_36 107 v = some (nI 0, v') := by
      unfold fX6_takePerson_36
      rw [w_tk hS, e_callV hS.k106, li_3, x_call e1]
      rfl
    have hrno : pOf (xf C N a n nt) = none → fX9_readPersonName 113 t = some (mI, t') := fun hp => by
      rw [hr0, hp, oI_n]
      unfold fX9_readPersonName_42
      rw [g.1.gi g.2.2.2, e_if, if_pos (by decide), e_if, if_neg (by decide), g.1.gi g.2.1.1, g.1.cv, li_3, x_call e2, x_pn63E je.bd]
    by_cases hlt : fs (mP C N a nt) n < n
    · have hxf : xf C N a n nt = some (nt (fs (mP C N a nt) n)).2.2 := by unfold xf; rw [if_pos hlt]
      obtain ⟨i, hi⟩ : ∃ i, i = fs (mP C N a nt) n := ⟨_, rfl⟩
      have hcf : fX6_findName 107 v = some (nI i, v) := by rw [c_findName h hN0 hC hk, if_pos hlt, hi]
      rw [← hi] at hlt hxf
      obtain ⟨c1, c2, c3⟩ := hC.2 i hlt
      obtain ⟨-, -, -, -, q5⟩ := h4 i hlt
      by_cases hx8 : (nt i).2.2 < 8
      · have hxn : (nt i).2.2 < np := by omega
        have hpo : pOf (some (nt i).2.2) = some (nt i).2.2 := if_pos hx8
        rw [if_pos hx8, oI_s] at c3
        have cA : CG (wI v 106 6 (nI (nt i).2.2)) C N a := by
          obtain ⟨hTc, ⟨q3, q2, q4, q5', q6⟩, haN, f7, f8⟩ := h
          refine ⟨hTc.w (by decide), ⟨?_, ?_, ?_, fun hh => ?_, fun hh => ?_⟩, haN, ?_, ?_⟩
          · rw [sI_wI_ne (Or.inr (by decide))]; exact q3
          · rw [sI_wI_ne (Or.inr (by decide))]; exact q2
          · rw [sI_wI_ne (Or.inr (by decide))]; exact q4
          · rw [sI_wI_ne (Or.inr (by decide))]; exact q5' hh
          · rw [sI_wI_ne (Or.inr (by decide))]; exact q6 hh
          · rw [sI_wI_ne (Or.inr (by decide))]; exact f7
          · rw [sI_wI_ne (Or.inr (by decide))]; exact f8
        have hSA := cA.1.1
        obtain ⟨w1, u1, z1, z2, z3, z4, z5, z6⟩ := j_next cA g
        have hmu : fX9_must 113 (1 : Int32) t = some ((), u1) := by
          unfold fX9_must
          rw [g.1.gi g.2.2.2, e_if, if_pos (by decide), e_if, if_neg (by decide), g.1.cv, x_call z2]
          rfl
        refine ⟨w1, u1, nI (nt i).2.2, ?_, (F6.w _ ⟨by decide, by decide⟩).tr z3, z4, Or.inl ⟨_, ?_, rfl, hxn, ?_, z5, z6⟩⟩
        · rw [hr0, hxf, hpo, oI_s]
          unfold fX9_readPersonName_42
          rw [g.1.gi g.2.2.2, e_if, if_pos (by decide), e_if, if_pos (by rw [li_0, le_i (by omega) (by omega)]; omega)]
          unfold fX9_readPersonName_63
          rw [g.1.cv, x_call hmu]
          rfl
        · unfold fX6_takePerson
          rw [e_callV hS.k107, x_call (c_isName h), hq, e_if, if_neg (by decide), e_callV hS.k107, x_call hcf, e_if, if_neg (by rw [li_1, ne_m1, m1_i (by omega)]; exact id), xGR hS.k107 r7, xAIe r10 (by omega) (by decide) c3, e_if, if_neg (by rw [li_1, ne_m1, m1_i (by omega)]; exact id), w_tk hS, xGR hS.k107 r7, xAIe r10 (by omega) (by decide) c3, xPI hS.k106, w_tk hSA, e_callV hSA.k106, x_call z1]
          rfl
        · have hz : F6 j25 (wI v 106 6 (nI (nt i).2.2)) w1 := by
            obtain ⟨w2, y1, y2, y3⟩ := c_adv cA
            rw [z1] at y1
            have : w1 = w2 := by cases y1; rfl
            rw [this]; exact y2
          rw [hz.2 6 (by decide), sI_wI_eq]
      · have hpo : pOf (some (nt i).2.2) = none := if_neg hx8
        rw [if_neg hx8, oI_n] at c3
        refine ⟨v', t', mI, hrno (by rw [hxf, hpo]), e3, e4, Or.inr ⟨?_, je⟩⟩
        unfold fX6_takePerson
        rw [e_callV hS.k107, x_call (c_isName h), hq, e_if, if_neg (by decide), e_callV hS.k107, x_call hcf, e_if, if_neg (by rw [li_1, ne_m1, m1_i (by omega)]; exact id), xGR hS.k107 r7, xAIe r10 (by omega) (by decide) c3, e_if, if_pos (show mI = (-1 : Int32) from rfl), h36]
    · have hxf : xf C N a n nt = none := by unfold xf; rw [if_neg hlt]
      have hcf : fX6_findName 107 v = some (mI, v) := by rw [c_findName h hN0 hC hk, if_neg hlt]
      refine ⟨v', t', mI, hrno (by rw [hxf]; rfl), e3, e4, Or.inr ⟨?_, je⟩⟩
      unfold fX6_takePerson
      rw [e_callV hS.k107, x_call (c_isName h), hq, e_if, if_neg (by decide), e_callV hS.k107, x_call hcf, e_if, if_pos (show mI = (-1 : Int32) from rfl), h36]
end PNAME

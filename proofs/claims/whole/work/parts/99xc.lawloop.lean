/-! ALL RULES OF A LAW, both readers -/
section LLOOP
variable {v t : mS} {C : Nat → Nat} {N a m : Nat} {L : List (List qS3 × Nat)} {cur : List qS3}
theorem lOk_end {w : Nat} (h : lOk L) (hL : L.length < 12) (hS : (lAll L ++ cur).length ≤ 108) (hw : w ≤ 4) (hf : sWf 0 cur) (ho : ∀ x ∈ cur, sOk x) : lOk (L ++ [(cur, w)]) := by
  obtain ⟨h1, h2, h3⟩ := h
  refine ⟨by rw [List.length_append]; show L.length + 1 ≤ 12; omega, by rw [lAll_end]; omega, fun q hq => ?_⟩
  rw [List.mem_append, List.mem_singleton] at hq
  rcases hq with hq | hq
  · exact h3 q hq
  · subst hq
    exact ⟨hw, hf, ho⟩
/-- what reading all rules does -/
def JF (C : Nat → Nat) (N : Nat) (v t v' t' : mS) (r : Int32) : Prop := FI a11 v v' ∧ FWL t t' ∧ ((r = nI 1 ∧ ∃ L a m, CG v' C N a ∧ RG t' C N a ∧ JL v' t' L [] m ∧ lOk L) ∨ (r = nI 0 ∧ JE v' t'))
theorem j_laws (hN : N ≤ 300) : ∀ (n : Nat) (v t : mS) (L : List (List qS3 × Nat)) (a m k n2 : Nat), CG v C N a → RG t C N a → JL v t L [] m → lOk L → m ≤ 24 → 3 * (lAll L ++ ([] : List qS3)).length ≤ a + m → k ≤ a → N - a + 1 < n → N - a + 1 < n2 → ∃ v' t' r, fX1_readLaw_27 n 111 (nI 1) (nI k) v = some (r, v') ∧ fX9_law_38 n2 113 t = fX9_law_59 113 t' ∧ JF C N v t v' t' r := by
  intro n
  induction n with
  | zero => intro v t L a m k n2 _ _ _ _ _ _ _ h; omega
  | succ n ih =>
    intro v t L a m k n2 h g hJ hok hm hS hk hn hn2
    have hS1 := h.1.1
    have haN := h.2.2.1
    obtain ⟨p2, rfl⟩ : ∃ p2, n2 = p2 + 1 := ⟨n2 - 1, by omega⟩
    have hk2 : sI v 106 2 = nI (kd C N a) := h.2.1.2.1
    have hr2 : sI t 113 14 = nI (kd C N a) := g.2.1.2.1
    have hkb : kd C N a < 5 := by
      unfold kd
      repeat (first | split | omega)
    have hk0 : kd C N a = 0 ↔ a = N := by
      constructor
      · intro h0
        unfold kd at h0
        by_cases hh : N ≤ a
        · omega
        · rw [if_neg hh] at h0
          exfalso
          revert h0
          repeat (first | split | (intro h0; omega))
      · intro h0
        unfold kd
        rw [if_pos (by omega)]
    have r0 : fX9_law_38 (p2 + 1) 113 t = (if nI (kd C N a) = 0 then fX9_law_59 113 t else bCallV 9 113 (fX9_readRule 113) (fun _ => fX9_law_38 p2 113) t) := by
      rw [qX9_law_38, g.1.gi g.2.2.2, e_if, if_pos (by decide), g.1.gi hr2, e_if]
    by_cases hend : kd C N a = 0
    · rw [if_pos (by rw [hend]; decide)] at r0
      refine ⟨v, t, nI 1, ?_, r0, ⟨fun _ _ => rfl, rfl⟩, FWL.rf, Or.inl ⟨rfl, L, a, m, h, g, hJ, hok⟩⟩
      rw [qX1_readLaw_27, e_if]
      by_cases h3 : (300 : Int32) ≤ nI k
      · rw [if_pos h3]
        rfl
      · rw [if_neg h3, e_if, if_neg (by decide), xGR hS1.k111 hS1.p111, xGIe hS1.k106 hk2, e_if, if_pos (by rw [hend]; decide)]
        rfl
    · have haN' : a < N := by
        have : ¬ a = N := fun e => hend (hk0.mpr e)
        omega
      rw [if_neg (by rw [li_0, eq_i (by omega) (by omega)]; omega)] at r0
      obtain ⟨v1, t1, r, o1, o2, o3, o4, o5⟩ := j_rule h g hJ hok.1 hm hS hN
      have hSv1 : CS v1 := hS1.fi o3
      have c0 : fX1_readLaw_27 (n + 1) 111 (nI 1) (nI k) v = fX1_readLaw_27 n 111 r (nI (k + 1)) v1 := by
        rw [qX1_readLaw_27, e_if, if_neg (by rw [li_300, le_i (by omega) (by omega)]; omega), e_if, if_neg (by decide), xGR hS1.k111 hS1.p111, xGIe hS1.k106 hk2, e_if, if_neg (by rw [li_0, eq_i (by omega) (by omega)]; omega), e_callV hS1.k111, x_call o1, nI_succ1]
      rw [g.1.cv, x_call o2] at r0
      rcases o5 with ⟨s0, new, w, a', m', s1, s2, s3, s4, s5, s6, s7, s8, s9, s10⟩ | ⟨s0, je⟩
      · subst s0
        have haN2 := s1.2.2.1
        have hb : (lAll L ++ new).length ≤ 108 := (j_bd (b := a') (cur := new) hok.1 s9 s10 haN2 hN).1
        have hl : (lAll (L ++ [(new, w)]) ++ ([] : List qS3)).length = (lAll L ++ new).length := by rw [lAll_end, List.append_nil]
        obtain ⟨v', t', r', z1, z2, z3, z4, z5⟩ := ih v1 t1 (L ++ [(new, w)]) a' m' (k + 1) p2 s1 s2 s3 (lOk_end hok s8 hb s4 s5 s6) s9 (by omega) (by omega) (by omega) (by omega)
        exact ⟨v', t', r', c0.trans z1, r0.trans z2, o3.tr z3, o4.tr z4, z5⟩
      · subst s0
        obtain ⟨n', rfl⟩ : ∃ n', n = n' + 1 := ⟨n - 1, by omega⟩
        obtain ⟨p2', rfl⟩ : ∃ p2', p2 = p2' + 1 := ⟨p2 - 1, by omega⟩
        rw [x_law38E je.bd] at r0
        refine ⟨v1, t1, nI 0, c0.trans ?_, r0, o3, o4, Or.inr ⟨rfl, je⟩⟩
        rw [qX1_readLaw_27, e_if]
        by_cases h3 : (300 : Int32) ≤ nI (k + 1)
        · rw [if_pos h3]
          rfl
        · rw [if_neg h3, e_if, if_pos (by decide)]
          rfl
/-- the text of a law opened, the reference: at most 300 bytes -/
theorem x_opens3 (hT : RT t) (hN : N ≤ 300) {m : Nat} (h8 : sI t 113 8 = nI m) (hm : m ≤ 900) (hNm : N ≤ m) (hC : ∀ k, k < N → sI t 117 k = xb (C k) ∧ C k < 256) : ∃ t', fX9_opens 113 (nI N) (300 : Int32) t = some (nI 1, t') ∧ F9 i14 l22 (opX t N) t' ∧ RG t' C N (sk C N 0) := by
  have key := x_opens hT (by omega) h8 hm hNm hC
  obtain ⟨t', e1, -, e2, e3⟩ := key
  refine ⟨t', ?_, e2, e3⟩
  have e4 : ∀ x : Int32, nI N ≤ x → fX9_opens 113 (nI N) x t = (bPI 9 113 9 (nI N) (bPI 9 113 8 (0 : Int32) (bPI 9 113 16 (0 : Int32) (bPI 9 113 12 (0 : Int32) (bCallV 9 113 (fX9_next 113) (fun _ => bRetZ (1 : Int32))))))) t := fun x hx => by
    unfold fX9_opens
    rw [e_if, if_neg (by rw [li_0, lt_i (by omega) (by omega)]; omega), xGIe hT.k h8, e_if, if_neg (by rw [lt_i (by omega) (by omega)]; omega), e_if, if_pos hx]
  rw [e4 _ (by rw [li_300, le_i (by omega) (by omega)]; omega), ← e4 (900 : Int32) (by rw [li_900, le_i (by omega) (by omega)]; omega)]
  exact e1
end LLOOP

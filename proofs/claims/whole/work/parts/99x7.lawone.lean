/-! WHAT READING A PART OF A RULE DOES, both readers -/
/-- e more questions leave one answer more on the stack -/
def sPu (e : Nat) (new : List qS3) : Prop := ∀ d l, d + e ≤ 24 → sWf (d + 1) l → sWf d (new ++ l)
def JO (C : Nat → Nat) (N : Nat) (L : List (List qS3 × Nat)) (v t v' t' : mS) (cur : List qS3) (m a : Nat) (r : Int32) : Prop := KFL v v' t t' ∧ ((r = nI 1 ∧ ∃ new a' m', CG v' C N a' ∧ RG t' C N a' ∧ JL v' t' L (cur ++ new) m' ∧ (∀ x ∈ new, sOk x) ∧ sPu (m' - m) new ∧ m < m' ∧ m' ≤ 24 ∧ a ≤ a' ∧ 3 * new.length + a + m + 1 ≤ a' + m') ∨ (r = nI 0 ∧ JE v' t' ∧ ∃ j, j ≤ 300 ∧ sI v' 111 3 = nI j))
def JK (lev : Nat) (f1 : Nat → Int32 → mM Int32) (f9 : Nat → Int32 → mM Unit) : Prop := ∀ (v t : mS) (C : Nat → Nat) (N a m : Nat) (L : List (List qS3 × Nat)) (cur : List qS3), CG v C N a → RG t C N a → JL v t L cur m → L.length ≤ 12 → m ≤ 24 → 3 * (lAll L ++ cur).length ≤ a + m → N ≤ 300 → ∃ v' t' r, f1 111 (nI lev) v = some (r, v') ∧ f9 113 (nI lev) t = some ((), t') ∧ JO C N L v t v' t' cur m a r
section LONE7
variable {v t : mS} {C : Nat → Nat} {N a m : Nat} {L : List (List qS3 × Nat)} {cur : List qS3}
theorem sPu_q {q : qS3} (h : q.1 < 8) : sPu 1 [q] := fun d l hd hw => by
  show sWf d (q :: l)
  unfold sWf
  rw [if_pos h]
  exact ⟨by omega, hw⟩
theorem sPu_not {e : Nat} {new : List qS3} (h : sPu e new) : sPu e (new ++ [(8, 0, 0)]) := fun d l hd hw => by
  rw [List.append_assoc]
  refine h d _ hd ?_
  show sWf (d + 1) ((8, 0, 0) :: l)
  unfold sWf
  rw [if_neg (by show ¬ 8 < 8; decide), if_pos rfl]
  exact ⟨by omega, hw⟩
theorem sPu_two {e f k : Nat} {X Y : List qS3} (hk : 8 < k) (h : sPu e X) (g : sPu f Y) (he : 1 ≤ e) : sPu (e + f) (X ++ (Y ++ [(k, 0, 0)])) := fun d l hd hw => by
  rw [List.append_assoc, List.append_assoc]
  refine h d _ (by omega) (g (d + 1) _ (by omega) ?_)
  show sWf (d + 1 + 1) ((k, 0, 0) :: l)
  unfold sWf
  rw [if_neg (by show ¬ k < 8; omega), if_neg (by show ¬ k = 8; omega)]
  exact ⟨by omega, hw⟩
theorem j_bd {b : Nat} (hL : L.length ≤ 12) (hm : m ≤ 24) (hS : 3 * (lAll L ++ cur).length ≤ b + m) (hb : b ≤ N) (hN : N ≤ 300) : (lAll L ++ cur).length ≤ 108 ∧ (lEnc L ++ cur.map lCode).length ≤ 120 := by
  have h1 := lEnc_len L
  have h2 : (lAll L ++ cur).length = (lAll L).length + cur.length := List.length_append
  have h3 : (lEnc L ++ cur.map lCode).length = (lEnc L).length + cur.length := by rw [List.length_append, List.length_map]
  exact ⟨by omega, by omega⟩
theorem JO.pre {v1 t1 v' t' : mS} {b : Nat} {r : Int32} (h : JO C N L v1 t1 v' t' cur m b r) (hF : KFL v v1 t t1) (hb : a ≤ b) : JO C N L v t v' t' cur m a r := by
  obtain ⟨h1, h2⟩ := h
  refine ⟨hF.tr h1, ?_⟩
  rcases h2 with ⟨q, new, a', m', q1, q2, q3, q4, q5, q6, q7, q8, q9⟩ | q
  · exact Or.inl ⟨q, new, a', m', q1, q2, q3, q4, q5, q6, q7, by omega, by omega⟩
  · exact Or.inr q
theorem bz {r : Int32} (h : r = nI 1 ∨ r = nI 0) : bRetZ r v = some (r, v) := by
  rcases h with h | h <;> subst h <;> rfl
theorem JO.rz {v' t' : mS} {r : Int32} (h : JO C N L v t v' t' cur m a r) : r = nI 1 ∨ r = nI 0 := by
  rcases h.2 with h | h
  · exact Or.inl h.1
  · exact Or.inr h.1
/-- a step kept behind a fault -/
theorem c_keepF (hS : CS v) {j : Nat} (h3 : sI v 111 3 = nI j) (hj : j ≤ 300) (x : Int32) : ∃ v' i, fX1_keepStep 111 x v = some ((), v') ∧ FI a11 v v' ∧ sI v' 106 = sI v 106 ∧ i ≤ 300 ∧ sI v' 111 3 = nI i := by
  by_cases h : j < 300
  · refine ⟨_, j + 1, c_keepStep hS h3 h x, st_f11, ?_, by omega, ?_⟩
    · funext i
      unfold stS
      rw [sI_wI_ne (Or.inl (by decide)), sI_wI_ne (Or.inl (by decide))]
    · unfold stS
      rw [sI_wI_eq]
  · refine ⟨v, j, ?_, ⟨fun _ _ => rfl, rfl⟩, rfl, hj, h3⟩
    unfold fX1_keepStep
    rw [xGIe hS.k111 h3, e_if, if_pos (by rw [li_300, le_i (by omega) (by omega)]; omega)]
    rfl
theorem wq_nx {z : Nat} (h : wq C N a z = true) : a + zl z ≤ nx C N a := by
  obtain ⟨-, h1, -⟩ := wq_iff.mp h
  have h2 := sk_ge C N (ed C N a)
  have h3 := ed_ge C N a
  show a + zl z ≤ sk C N (ed C N a)
  omega
theorem wq_3 {z : Nat} (hz : z < 13) (h2 : 3 < z) (h : wq C N a z = true) : a + 3 ≤ nx C N a := by
  have h1 := wq_nx h
  have h3 : ∀ z, z < 13 → 3 < z → 3 ≤ zl z := by decide
  have := h3 z hz h2
  omega
theorem zw_ne : ∀ k, k < 8 → ¬ (zl (5 + k) = zl 4 ∧ ∀ i, i < zl 4 → zc (5 + k) i = zc 4 i) := by decide +kernel
theorem wq_not {k : Nat} (hk : k < 8) (h : wq C N a (5 + k) = true) : wq C N a 4 = false := by
  cases h4 : wq C N a 4 with
  | false => rfl
  | true =>
    obtain ⟨-, p1, p2⟩ := wq_iff.mp h
    obtain ⟨-, q1, q2⟩ := wq_iff.mp h4
    exact absurd ⟨p1.symm.trans q1, fun i hi => (p2 i (by omega)).symm.trans (q2 i hi)⟩ (zw_ne k hk)
theorem wq_sq {z c : Nat} (h : wq C N a z = true) : sq C N a c = false := by
  obtain ⟨h1, -⟩ := wq_iff.mp h
  unfold sq
  rw [h1]
  rfl
theorem wq_k4 {z : Nat} (h : wq C N a z = true) : kd C N a ≠ 4 := by
  obtain ⟨h1, -⟩ := wq_iff.mp h
  rw [h1]
  decide
theorem sq_k4 {c : Nat} (h : sq C N a c = true) : kd C N a ≠ 4 := by
  obtain ⟨h1, -⟩ := sq_i h
  rw [h1]
  decide
end LONE7

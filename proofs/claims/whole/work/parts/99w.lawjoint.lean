/-! A LAW HALF READ, both readers -/
abbrev qS3 : Type := Nat × Nat × Nat
/-- the class's reader of laws at 111, 112; the reference's counters and cells -/
def JL (v t : mS) (L : List (List qS3 × Nat)) (cur : List qS3) (m : Nat) : Prop := (sI v 111 1 = nI L.length ∧ sI v 111 2 = nI m ∧ sI v 111 3 = nI (lEnc L ++ cur.map lCode).length ∧ ∀ i, i < (lEnc L ++ cur.map lCode).length → sI v 112 i = (lEnc L ++ cur.map lCode).getD i 0) ∧ (sI t 113 31 = nI L.length ∧ sI t 113 19 = nI (lAll L ++ cur).length ∧ sI t 113 20 = nI m ∧ (∀ j, j < (lAll L ++ cur).length → sI t 118 (3766 + 4 * j) = nI ((lAll L ++ cur).getD j (0, 0, 0)).1 ∧ sI t 118 (3766 + 4 * j + 1) = nI ((lAll L ++ cur).getD j (0, 0, 0)).2.1 ∧ sI t 118 (3766 + 4 * j + 2) = nI ((lAll L ++ cur).getD j (0, 0, 0)).2.2) ∧ ∀ k, k < L.length → sI t 118 (3730 + k) = nI (lS L k) ∧ sI t 118 (3742 + k) = nI (lS L (k + 1)) ∧ sI t 118 (3754 + k) = nI (L.getD k ([], 0)).2)
section LJ
variable {v t : mS} {C : Nat → Nat} {N a m : Nat} {L : List (List qS3 × Nat)} {cur : List qS3}
theorem JL.f {v' t' : mS} {A : Nat → Prop} (h : JL v t L cur m) (h1 : F6 A v v') (h2 : F9 i12 l22 t t') : JL v' t' L cur m := by
  obtain ⟨⟨a1, a2, a3, a4⟩, b1, b2, b3, b4, b5⟩ := h
  have q := (h2.1 118 (by decide)).1
  refine ⟨⟨?_, ?_, ?_, ?_⟩, ?_, ?_, ?_, ?_, ?_⟩
  · rw [h1.1.1 111 (by decide)]; exact a1
  · rw [h1.1.1 111 (by decide)]; exact a2
  · rw [h1.1.1 111 (by decide)]; exact a3
  · rw [h1.1.1 112 (by decide)]; exact a4
  · rw [h2.I (by decide)]; exact b1
  · rw [h2.I (by decide)]; exact b2
  · rw [h2.I (by decide)]; exact b3
  · rw [q]; exact b4
  · rw [q]; exact b5
/-- a step is added on both sides -/
theorem JL.step (h : JL v t L cur m) (p q r : Nat) (hL : L.length ≤ 12) (hS : (lAll L ++ cur).length < 130) : JL (stS v (lEnc L ++ cur.map lCode).length (lCode (p, q, r))) (rsS t (lAll L ++ cur).length p q r) L (cur ++ [(p, q, r)]) m := by
  obtain ⟨⟨a1, a2, a3, a4⟩, b1, b2, b3, b4, b5⟩ := h
  have e1 : lEnc L ++ (cur ++ [(p, q, r)]).map lCode = (lEnc L ++ cur.map lCode) ++ [lCode (p, q, r)] := by rw [List.map_append, List.append_assoc]; rfl
  have e2 : lAll L ++ (cur ++ [(p, q, r)]) = (lAll L ++ cur) ++ [(p, q, r)] := by rw [List.append_assoc]
  obtain ⟨E, hE⟩ : ∃ E, E = lEnc L ++ cur.map lCode := ⟨_, rfl⟩
  obtain ⟨G, hG⟩ : ∃ G, G = lAll L ++ cur := ⟨_, rfl⟩
  unfold JL
  rw [e1, e2, ← hE, ← hG]
  rw [← hE] at a3 a4
  rw [← hG] at b2 b4 hS
  have hl1 : (E ++ [lCode (p, q, r)]).length = E.length + 1 := by rw [List.length_append]; rfl
  have hl2 : (G ++ [(p, q, r)]).length = G.length + 1 := by rw [List.length_append]; rfl
  have hg1 : ∀ i, i < E.length → (E ++ [lCode (p, q, r)]).getD i 0 = E.getD i 0 := fun i hi => by
    rw [List.getD_eq_getElem?_getD, List.getD_eq_getElem?_getD, List.getElem?_append_left hi]
  have hg2 : ∀ i, i < G.length → (G ++ [(p, q, r)]).getD i (0, 0, 0) = G.getD i (0, 0, 0) := fun i hi => by
    rw [List.getD_eq_getElem?_getD, List.getD_eq_getElem?_getD, List.getElem?_append_left hi]
  have hn1 : (E ++ [lCode (p, q, r)]).getD E.length 0 = lCode (p, q, r) := by
    rw [List.getD_eq_getElem?_getD, List.getElem?_append_right (Nat.le_refl _), Nat.sub_self]
    rfl
  have hn2 : (G ++ [(p, q, r)]).getD G.length (0, 0, 0) = (p, q, r) := by
    rw [List.getD_eq_getElem?_getD, List.getElem?_append_right (Nat.le_refl _), Nat.sub_self]
    rfl
  obtain ⟨x1, x2, x3, x4⟩ := rsS_x (t := t) (S := G.length) (p := p) (q := q) (r := r)
  have h3 : ∀ j, j ≠ 19 → sI (rsS t G.length p q r) 113 j = sI t 113 j := fun j hj => by
    unfold rsS
    rw [sI_wI_ne (Or.inr hj), sI_wI_ne (Or.inl (by decide)), sI_wI_ne (Or.inl (by decide)), sI_wI_ne (Or.inl (by decide))]
  have h11 : ∀ j, j ≠ 3 → sI (stS v E.length (lCode (p, q, r))) 111 j = sI v 111 j := fun j hj => by
    unfold stS
    rw [sI_wI_ne (Or.inr hj), sI_wI_ne (Or.inl (by decide))]
  refine ⟨⟨?_, ?_, ?_, fun i hi => ?_⟩, ?_, ?_, ?_, fun j hj => ?_, fun k hk => ?_⟩
  · rw [h11 1 (by decide)]; exact a1
  · rw [h11 2 (by decide)]; exact a2
  · rw [hl1]
    unfold stS
    rw [sI_wI_eq]
  · rw [hl1] at hi
    unfold stS
    rw [sI_wI_ne (Or.inl (by decide))]
    by_cases h0 : i = E.length
    · rw [h0, sI_wI_eq, hn1]
    · rw [sI_wI_ne (Or.inr h0), hg1 i (by omega)]; exact a4 i (by omega)
  · rw [h3 31 (by decide)]; exact b1
  · rw [hl2]; exact x4
  · rw [h3 20 (by decide)]; exact b3
  · rw [hl2] at hj
    by_cases h0 : j = G.length
    · rw [h0, hn2]; exact ⟨x1, x2, x3⟩
    · rw [hg2 j (by omega), rsS_n (by omega), rsS_n (by omega), rsS_n (by omega)]; exact b4 j (by omega)
  · rw [rsS_n (by omega), rsS_n (by omega), rsS_n (by omega)]
    exact b5 k hk
end LJ

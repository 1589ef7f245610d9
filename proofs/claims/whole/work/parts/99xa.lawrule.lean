/-! A RULE, both readers -/
def JLc (v : mS) (L : List (List qS3 × Nat)) (cur : List qS3) (m : Nat) : Prop := sI v 111 1 = nI L.length ∧ sI v 111 2 = nI m ∧ sI v 111 3 = nI (lEnc L ++ cur.map lCode).length ∧ ∀ i, i < (lEnc L ++ cur.map lCode).length → sI v 112 i = (lEnc L ++ cur.map lCode).getD i 0
def JLr (t : mS) (L : List (List qS3 × Nat)) (cur : List qS3) (m : Nat) : Prop := sI t 113 31 = nI L.length ∧ sI t 113 19 = nI (lAll L ++ cur).length ∧ sI t 113 20 = nI m ∧ (∀ j, j < (lAll L ++ cur).length → sI t 118 (3766 + 4 * j) = nI ((lAll L ++ cur).getD j (0, 0, 0)).1 ∧ sI t 118 (3766 + 4 * j + 1) = nI ((lAll L ++ cur).getD j (0, 0, 0)).2.1 ∧ sI t 118 (3766 + 4 * j + 2) = nI ((lAll L ++ cur).getD j (0, 0, 0)).2.2) ∧ ∀ k, k < L.length → sI t 118 (3730 + k) = nI (lS L k) ∧ sI t 118 (3742 + k) = nI (lS L (k + 1)) ∧ sI t 118 (3754 + k) = nI (L.getD k ([], 0)).2
section LRUL
variable {v t : mS} {C : Nat → Nat} {N a m : Nat} {L : List (List qS3 × Nat)} {cur : List qS3}
theorem JLc.fw {v' : mS} {A : Nat → Prop} (h : JLc v L cur m) (h1 : F6 A v v') : JLc v' L cur m := by
  obtain ⟨a1, a2, a3, a4⟩ := h
  refine ⟨?_, ?_, ?_, ?_⟩
  · rw [h1.1.1 111 (by decide)]; exact a1
  · rw [h1.1.1 111 (by decide)]; exact a2
  · rw [h1.1.1 111 (by decide)]; exact a3
  · rw [h1.1.1 112 (by decide)]; exact a4
theorem JLr.fw {t' : mS} (h : JLr t L cur m) (h2 : F9 i12 l22 t t') : JLr t' L cur m := by
  obtain ⟨b1, b2, b3, b4, b5⟩ := h
  have q := (h2.1 118 (by decide)).1
  refine ⟨?_, ?_, ?_, ?_, ?_⟩
  · rw [h2.I (by decide)]; exact b1
  · rw [h2.I (by decide)]; exact b2
  · rw [h2.I (by decide)]; exact b3
  · rw [q]; exact b4
  · rw [q]; exact b5
theorem JLr.begin {x : Int32} (h : JLr t L cur m) (hL : L.length < 12) : JLr (wI t 118 (3730 + L.length) x) L cur m := by
  obtain ⟨b1, b2, b3, b4, b5⟩ := h
  refine ⟨?_, ?_, ?_, fun j hj => ?_, fun k hk => ?_⟩
  · rw [sI_wI_ne (Or.inl (by decide))]; exact b1
  · rw [sI_wI_ne (Or.inl (by decide))]; exact b2
  · rw [sI_wI_ne (Or.inl (by decide))]; exact b3
  · rw [sI_wI_ne (Or.inr (by omega)), sI_wI_ne (Or.inr (by omega)), sI_wI_ne (Or.inr (by omega))]; exact b4 j hj
  · rw [sI_wI_ne (Or.inr (by omega)), sI_wI_ne (Or.inr (by omega)), sI_wI_ne (Or.inr (by omega))]; exact b5 k hk
theorem lEnc_end (w : Nat) : lEnc (L ++ [(cur, w)]) ++ ([] : List qS3).map lCode = (lEnc L ++ cur.map lCode) ++ [nI (4 + w * 16)] := by
  unfold lEnc
  rw [List.flatMap_append]
  simp
theorem lAll_end (w : Nat) : lAll (L ++ [(cur, w)]) = lAll L ++ cur := by
  unfold lAll
  rw [List.flatMap_append]
  simp
theorem lS_end (w : Nat) {k : Nat} (hk : k ≤ L.length) : lS (L ++ [(cur, w)]) k = lS L k := by
  unfold lS
  rw [List.take_append_of_le_length hk]
theorem lS_all : lS L L.length = (lAll L).length := by
  unfold lS
  rw [List.take_length]
theorem lS_all2 (w : Nat) : lS (L ++ [(cur, w)]) (L.length + 1) = (lAll L ++ cur).length := by
  have h : L.length + 1 = (L ++ [(cur, w)]).length := by rw [List.length_append]; rfl
  rw [h, lS_all, lAll_end]
theorem JLc.rule (h : JLc v L cur m) (w : Nat) : JLc (wI (stS v (lEnc L ++ cur.map lCode).length (nI (4 + w * 16))) 111 1 (nI (L.length + 1))) (L ++ [(cur, w)]) [] m := by
  obtain ⟨a1, a2, a3, a4⟩ := h
  unfold JLc
  rw [lEnc_end]
  obtain ⟨E, hE⟩ : ∃ E, E = lEnc L ++ cur.map lCode := ⟨_, rfl⟩
  rw [← hE] at a3 a4 ⊢
  have hl1 : (E ++ [nI (4 + w * 16)]).length = E.length + 1 := by rw [List.length_append]; rfl
  have hl2 : (L ++ [(cur, w)]).length = L.length + 1 := by rw [List.length_append]; rfl
  have hg1 : ∀ i, i < E.length → (E ++ [nI (4 + w * 16)]).getD i 0 = E.getD i 0 := fun i hi => by
    rw [List.getD_eq_getElem?_getD, List.getD_eq_getElem?_getD, List.getElem?_append_left hi]
  have hn1 : (E ++ [nI (4 + w * 16)]).getD E.length 0 = nI (4 + w * 16) := by
    rw [List.getD_eq_getElem?_getD, List.getElem?_append_right (Nat.le_refl _), Nat.sub_self]
    rfl
  have h11 : ∀ j, j ≠ 3 → sI (stS v E.length (nI (4 + w * 16))) 111 j = sI v 111 j := fun j hj => by
    unfold stS
    rw [sI_wI_ne (Or.inr hj), sI_wI_ne (Or.inl (by decide))]
  refine ⟨?_, ?_, ?_, fun i hi => ?_⟩
  · rw [hl2]
    exact sI_wI_eq _ _ _ _
  · rw [sI_wI_ne (Or.inr (by decide)), h11 2 (by decide)]; exact a2
  · rw [hl1, sI_wI_ne (Or.inr (by decide))]
    unfold stS
    rw [sI_wI_eq]
  · rw [hl1] at hi
    rw [sI_wI_ne (Or.inl (by decide))]
    unfold stS
    rw [sI_wI_ne (Or.inl (by decide))]
    by_cases h0 : i = E.length
    · rw [h0, sI_wI_eq, hn1]
    · rw [sI_wI_ne (Or.inr h0), hg1 i (by omega)]; exact a4 i (by omega)
theorem JLr.rule (h : JLr t L cur m) (hs : sI t 118 (3730 + L.length) = nI (lAll L).length) (hL : L.length < 12) (w : Nat) : JLr (wI (wI (wI t 118 (3742 + L.length) (nI (lAll L ++ cur).length)) 118 (3754 + L.length) (nI w)) 113 31 (nI (L.length + 1))) (L ++ [(cur, w)]) [] m := by
  obtain ⟨b1, b2, b3, b4, b5⟩ := h
  unfold JLr
  rw [lAll_end, List.append_nil]
  have hl2 : (L ++ [(cur, w)]).length = L.length + 1 := by rw [List.length_append]; rfl
  refine ⟨?_, ?_, ?_, fun j hj => ?_, fun k hk => ?_⟩
  · rw [hl2]
    exact sI_wI_eq _ _ _ _
  · rw [sI_wI_ne (Or.inr (by decide)), sI_wI_ne (Or.inl (by decide)), sI_wI_ne (Or.inl (by decide))]; exact b2
  · rw [sI_wI_ne (Or.inr (by decide)), sI_wI_ne (Or.inl (by decide)), sI_wI_ne (Or.inl (by decide))]; exact b3
  · have g : ∀ i, 3766 ≤ i → sI (wI (wI (wI t 118 (3742 + L.length) (nI (lAll L ++ cur).length)) 118 (3754 + L.length) (nI w)) 113 31 (nI (L.length + 1))) 118 i = sI t 118 i := fun i hi => by
      rw [sI_wI_ne (Or.inl (by decide)), sI_wI_ne (Or.inr (by omega)), sI_wI_ne (Or.inr (by omega))]
    rw [g _ (by omega), g _ (by omega), g _ (by omega)]
    exact b4 j hj
  · rw [hl2] at hk
    by_cases h0 : k = L.length
    · subst h0
      rw [lS_end w (Nat.le_refl _), lS_all, lS_all2]
      refine ⟨?_, ?_, ?_⟩
      · rw [sI_wI_ne (Or.inl (by decide)), sI_wI_ne (Or.inr (by omega)), sI_wI_ne (Or.inr (by omega))]; exact hs
      · rw [sI_wI_ne (Or.inl (by decide)), sI_wI_ne (Or.inr (by omega)), sI_wI_eq]
      · rw [sI_wI_ne (Or.inl (by decide)), sI_wI_eq, List.getD_eq_getElem?_getD, List.getElem?_append_right (Nat.le_refl _), Nat.sub_self]
        rfl
    · have hk' : k < L.length := by omega
      rw [lS_end w (by omega), lS_end w (by omega), show (L ++ [(cur, w)]).getD k ([], 0) = L.getD k ([], 0) by rw [List.getD_eq_getElem?_getD, List.getD_eq_getElem?_getD, List.getElem?_append_left hk']]
      rw [sI_wI_ne (Or.inl (by decide)), sI_wI_ne (Or.inr (by omega)), sI_wI_ne (Or.inr (by omega)), sI_wI_ne (Or.inl (by decide)), sI_wI_ne (Or.inr (by omega)), sI_wI_ne (Or.inr (by omega)), sI_wI_ne (Or.inl (by decide)), sI_wI_ne (Or.inr (by omega)), sI_wI_ne (Or.inr (by omega))]
      exact b5 k hk'
end LRUL

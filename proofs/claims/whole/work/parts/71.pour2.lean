/-! POURED FROM TRAY TO TRAY -/
theorem sub_neg {a b : Nat} (h : a < b) (hb : b < 2147483648) : nI a - nI b < nI 0 := by
  rw [Int32.lt_iff_toInt_lt, Int32.toInt_sub, nI_toInt (by omega), nI_toInt hb]
  have e0 : (nI 0).toInt = 0 := by decide
  rw [e0, Int.bmod_eq_of_le (by omega) (by omega)]
  omega
theorem t_has {s : mS} {a len : Nat} (hk : (sH s a).1 = 5) (h2 : sI s a 2 = nI len) (hl : len ≤ 60) {i m : Nat} (hi : i < 2147483648) (hm : m < 2147483648) : fX5_has a (nI i) (nI m) s = some (nI (decide (i + m ≤ len)).toNat, s) := by
  unfold fX5_has
  rw [li_0, e_if, if_neg (by rw [lt_i hi (by decide)]; omega), xGIe hk h2, e_if]
  by_cases h : m ≤ len
  · rw [sub_i h]
    by_cases h3 : i + m ≤ len
    · rw [if_neg (by rw [lt_i (by omega) hi]; omega), decide_eq_true h3]; rfl
    · rw [if_pos (by rw [lt_i (by omega) hi]; omega), decide_eq_false h3]; rfl
  · have hn := sub_neg (a := len) (b := m) (by omega) hm
    rw [if_pos (by
      have h1 := Int32.lt_iff_toInt_lt.mp hn
      rw [Int32.lt_iff_toInt_lt, nI_toInt hi]
      have e0 : (nI 0).toInt = 0 := by decide
      omega), decide_eq_false (by omega)]
    rfl
theorem t_hasN {s : mS} {a : Nat} {x : Int32} {y : Int32} (hx : x < 0) : fX5_has a x y s = some (nI 0, s) := by
  unfold fX5_has
  rw [e_if, if_pos hx]
  rfl

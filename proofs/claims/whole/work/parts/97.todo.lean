theorem law_ok (v : mE) (h : eN v ≤ 3072) : ∃ t : mS, fL_law v mS0 = some (1, t) ∧ sZ t ≤ 600000 ∧ sW t ≤ 7302250 := sorry

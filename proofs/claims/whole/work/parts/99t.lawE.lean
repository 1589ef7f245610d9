/-! A LAW AFTER A FAULT: the reference does nothing more -/
section LAWE
variable {t : mS}
theorem x_stepE (h : BD t) (a b c : Int32) : fX9_ruleStep 113 a b c t = some ((), t) := by
  unfold fX9_ruleStep
  rw [xGI h.1.k, e_if, if_neg h.ne.1]
  rfl
theorem x_o241E (h : BD t) (k1 k2 : Nat → Int32 → mM Unit) (a b c : Int32) : fX9_readOne_241 k1 k2 113 a b c t = some ((), t) := by
  unfold fX9_readOne_241
  rw [e_callV h.1.k, x_call (x_stepE h _ _ _)]
  rfl
theorem x_o97E (h : BD t) (k1 k2 : Nat → Int32 → mM Unit) (a b c d : Int32) : fX9_readOne_97 k1 k2 113 a b c d t = some ((), t) := by
  unfold fX9_readOne_97
  rw [xGI h.1.k, e_if, if_neg h.ne.1]
  rfl
theorem x_o74E (h : BD t) (k1 k2 : Nat → Int32 → mM Unit) (a b c d : Int32) : fX9_readOne_74 k1 k2 113 a b c d t = some ((), t) := by
  unfold fX9_readOne_74
  rw [xGI h.1.k, e_if, if_neg h.ne.2, x_o97E h]
theorem x_o43E (h : BD t) (k1 k2 : Nat → Int32 → mM Unit) (a b c d : Int32) : fX9_readOne_43 k1 k2 113 a b c d t = some ((), t) := by
  unfold fX9_readOne_43
  rw [xGI h.1.k, e_if, if_neg h.ne.2, x_o74E h]
theorem x_oneE (h : BD t) (k1 k2 : Nat → Int32 → mM Unit) (a : Int32) : fX9_readOne k1 k2 113 a t = some ((), t) := by
  unfold fX9_readOne
  rw [xGI h.1.k, e_if, if_neg h.ne.1]
  rfl
theorem x_both5E (h : BD t) (k1 : Nat → Int32 → mM Unit) (n : Nat) (a : Int32) : fX9_readBoth_5 k1 (n + 1) 113 a t = some ((), t) := by
  rw [qX9_readBoth_5, xGI h.1.k, e_if, if_neg h.ne.2]
  rfl
theorem x_either5E (h : BD t) (k1 : Nat → Int32 → mM Unit) (n : Nat) (a : Int32) : fX9_readEither_5 k1 (n + 1) 113 a t = some ((), t) := by
  rw [qX9_readEither_5, xGI h.1.k, e_if, if_neg h.ne.2]
  rfl
theorem x_bothE (h : BD t) (k1 k2 : Nat → Int32 → mM Unit) (a : Int32) : fX9_readBoth (fX9_readOne k1 k2) 113 a t = some ((), t) := by
  unfold fX9_readBoth
  rw [e_callV h.1.k, x_call (x_oneE h k1 k2 a)]
  show fX9_readBoth_5 _ (4999 + 1) 113 a t = _
  rw [x_both5E h]
theorem x_eitherE (h : BD t) (k1 k2 : Nat → Int32 → mM Unit) (a : Int32) : fX9_readEither (fX9_readBoth (fX9_readOne k1 k2)) 113 a t = some ((), t) := by
  unfold fX9_readEither
  rw [e_callV h.1.k, x_call (x_bothE h k1 k2 a)]
  show fX9_readEither_5 _ (4999 + 1) 113 a t = _
  rw [x_either5E h]
theorem x_r37E (h : BD t) : fX9_readRule_37 113 t = some ((), t) := by
  unfold fX9_readRule_37
  rw [xGI h.1.k, e_if, if_neg h.ne.1]
  rfl
theorem x_r11E (h : BD t) : fX9_readRule_11 113 t = some ((), t) := by
  unfold fX9_readRule_11
  rw [xGI h.1.k, e_if, if_neg h.ne.2, x_r37E h]
theorem x_r105E (h : BD t) (a b : Int32) : fX9_readRule_105 113 a b 113 t = some ((), t) := by
  unfold fX9_readRule_105
  rw [e_callV h.1.k, x_call (x_mustE h _), e_callV h.1.k, li_59, x_call (x_isSign h.1 59), e_callV h.1.k, x_call (x_mustE h _), xGI h.1.k, e_if, if_neg h.ne.1]
  rfl
theorem x_r94E (h : BD t) (a : Int32) : fX9_readRule_94 113 a t = some ((), t) := by
  unfold fX9_readRule_94
  rw [e_if]
  by_cases h0 : a < 0
  · rw [if_pos h0, x_r105E h]
  · rw [if_neg h0, x_r105E h]
theorem x_law38E (h : BD t) (n : Nat) : fX9_law_38 (n + 1) 113 t = fX9_law_59 113 t := by
  rw [qX9_law_38, xGI h.1.k, e_if, if_neg h.ne.2]
end LAWE

def qAlive (c : Nat → Int32) (p : Nat) : Int32 := if c (17 + p) = 0 then 1 else if c (17 + p) ≤ c 5 then 0 else 1
theorem x9_isAlive {s : mS} (h : RT s) {p : Nat} (hp : p < 8) : fX9_isAlive 113 (nI p) s = some (qAlive (sI s 118) p, s) := by
  unfold fX9_isAlive qAlive
  rw [show (17 : Int32) = nI 17 from rfl, show (5 : Int32) = nI 5 from rfl, nI_add]
  simp (disch := omega) only [xC h]
  unfold bIf bRetZ
  split <;> [skip; split] <;> rfl
def qYards (c : Nat → Int32) (r : Nat) : Nat → Int32
  | 0 => 0
  | k + 1 => qYards c r k + c (97 + 8 * r + k)
theorem x9_yardsOfRope {s : mS} (h : RT s) {r n : Nat} (hr : r < 12) (hn : sI s 118 (85 + r) = nI n) (hn8 : n ≤ 8) : fX9_yardsOfRope 113 (nI r) s = some (qYards (sI s 118) r n, s) := by
  unfold fX9_yardsOfRope
  refine loop_n (fun m k => fX9_yardsOfRope_4 m 113 (nI r) (qYards (sI s 118) r k) (nI k) s) _ n ?_ ?_ fu 0 (by omega) (by unfold fu; omega)
  · intro m k hk
    show fX9_yardsOfRope_4 (m + 1) 113 (nI r) _ _ s = _
    unfold fX9_yardsOfRope_4
    rw [show (85 : Int32) = nI 85 from rfl, show (97 : Int32) = nI 97 from rfl, show (8 : Int32) = nI 8 from rfl]
    simp (disch := omega) only [xC h, nI_add, nI_mul, bIf, hn]
    rw [if_neg (nI_ge hk (by omega)), nI_1]
    rfl
  · intro m
    show fX9_yardsOfRope_4 (m + 1) 113 (nI r) _ _ s = _
    unfold fX9_yardsOfRope_4
    rw [show (85 : Int32) = nI 85 from rfl, show (97 : Int32) = nI 97 from rfl, show (8 : Int32) = nI 8 from rfl]
    simp (disch := omega) only [xC h, nI_add, nI_mul, bIf, hn]
    rw [if_pos (nI_le (Nat.le_refl n) (by omega))]
    rfl

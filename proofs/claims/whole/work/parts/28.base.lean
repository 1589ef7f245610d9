/-! NUMBERS OF THE SMALL PROGRAMS, AND HOW A PROGRAM IS EVALUATED -/
def mI : Int32 := -1
theorem li_0 : (0 : Int32) = nI 0 := rfl
theorem li_1 : (1 : Int32) = nI 1 := rfl
theorem li_2 : (2 : Int32) = nI 2 := rfl
theorem li_3 : (3 : Int32) = nI 3 := rfl
theorem li_4 : (4 : Int32) = nI 4 := rfl
theorem li_5 : (5 : Int32) = nI 5 := rfl
theorem li_6 : (6 : Int32) = nI 6 := rfl
theorem li_7 : (7 : Int32) = nI 7 := rfl
theorem li_8 : (8 : Int32) = nI 8 := rfl
theorem li_9 : (9 : Int32) = nI 9 := rfl
theorem li_10 : (10 : Int32) = nI 10 := rfl
theorem li_11 : (11 : Int32) = nI 11 := rfl
theorem li_12 : (12 : Int32) = nI 12 := rfl
theorem li_13 : (13 : Int32) = nI 13 := rfl
theorem li_14 : (14 : Int32) = nI 14 := rfl
theorem li_15 : (15 : Int32) = nI 15 := rfl
theorem li_16 : (16 : Int32) = nI 16 := rfl
theorem li_17 : (17 : Int32) = nI 17 := rfl
theorem li_20 : (20 : Int32) = nI 20 := rfl
theorem li_24 : (24 : Int32) = nI 24 := rfl
theorem li_25 : (25 : Int32) = nI 25 := rfl
theorem li_29 : (29 : Int32) = nI 29 := rfl
theorem li_31 : (31 : Int32) = nI 31 := rfl
theorem li_32 : (32 : Int32) = nI 32 := rfl
theorem li_33 : (33 : Int32) = nI 33 := rfl
theorem li_37 : (37 : Int32) = nI 37 := rfl
theorem li_40 : (40 : Int32) = nI 40 := rfl
theorem li_41 : (41 : Int32) = nI 41 := rfl
theorem li_48 : (48 : Int32) = nI 48 := rfl
theorem li_49 : (49 : Int32) = nI 49 := rfl
theorem li_50 : (50 : Int32) = nI 50 := rfl
theorem li_56 : (56 : Int32) = nI 56 := rfl
theorem li_57 : (57 : Int32) = nI 57 := rfl
theorem li_59 : (59 : Int32) = nI 59 := rfl
theorem li_60 : (60 : Int32) = nI 60 := rfl
theorem li_61 : (61 : Int32) = nI 61 := rfl
theorem li_62 : (62 : Int32) = nI 62 := rfl
theorem li_63 : (63 : Int32) = nI 63 := rfl
theorem li_70 : (70 : Int32) = nI 70 := rfl
theorem li_73 : (73 : Int32) = nI 73 := rfl
theorem li_85 : (85 : Int32) = nI 85 := rfl
theorem li_97 : (97 : Int32) = nI 97 := rfl
theorem li_98 : (98 : Int32) = nI 98 := rfl
theorem li_99 : (99 : Int32) = nI 99 := rfl
theorem li_100 : (100 : Int32) = nI 100 := rfl
theorem li_101 : (101 : Int32) = nI 101 := rfl
theorem li_102 : (102 : Int32) = nI 102 := rfl
theorem li_103 : (103 : Int32) = nI 103 := rfl
theorem li_104 : (104 : Int32) = nI 104 := rfl
theorem li_105 : (105 : Int32) = nI 105 := rfl
theorem li_107 : (107 : Int32) = nI 107 := rfl
theorem li_108 : (108 : Int32) = nI 108 := rfl
theorem li_109 : (109 : Int32) = nI 109 := rfl
theorem li_110 : (110 : Int32) = nI 110 := rfl
theorem li_111 : (111 : Int32) = nI 111 := rfl
theorem li_112 : (112 : Int32) = nI 112 := rfl
theorem li_114 : (114 : Int32) = nI 114 := rfl
theorem li_115 : (115 : Int32) = nI 115 := rfl
theorem li_116 : (116 : Int32) = nI 116 := rfl
theorem li_117 : (117 : Int32) = nI 117 := rfl
theorem li_118 : (118 : Int32) = nI 118 := rfl
theorem li_119 : (119 : Int32) = nI 119 := rfl
theorem li_121 : (121 : Int32) = nI 121 := rfl
theorem li_122 : (122 : Int32) = nI 122 := rfl
theorem li_140 : (140 : Int32) = nI 140 := rfl
theorem li_193 : (193 : Int32) = nI 193 := rfl
theorem li_200 : (200 : Int32) = nI 200 := rfl
theorem li_240 : (240 : Int32) = nI 240 := rfl
theorem li_255 : (255 : Int32) = nI 255 := rfl
theorem li_289 : (289 : Int32) = nI 289 := rfl
theorem li_290 : (290 : Int32) = nI 290 := rfl
theorem li_300 : (300 : Int32) = nI 300 := rfl
theorem li_302 : (302 : Int32) = nI 302 := rfl
theorem li_314 : (314 : Int32) = nI 314 := rfl
theorem li_326 : (326 : Int32) = nI 326 := rfl
theorem li_860 : (860 : Int32) = nI 860 := rfl
theorem li_880 : (880 : Int32) = nI 880 := rfl
theorem li_900 : (900 : Int32) = nI 900 := rfl
theorem li_999 : (999 : Int32) = nI 999 := rfl
theorem li_1024 : (1024 : Int32) = nI 1024 := rfl
theorem li_2801 : (2801 : Int32) = nI 2801 := rfl
theorem li_3440 : (3440 : Int32) = nI 3440 := rfl
theorem li_3441 : (3441 : Int32) = nI 3441 := rfl
theorem li_3442 : (3442 : Int32) = nI 3442 := rfl
theorem li_3443 : (3443 : Int32) = nI 3443 := rfl
theorem li_3444 : (3444 : Int32) = nI 3444 := rfl
theorem li_3447 : (3447 : Int32) = nI 3447 := rfl
theorem li_3448 : (3448 : Int32) = nI 3448 := rfl
theorem li_3449 : (3449 : Int32) = nI 3449 := rfl
theorem li_3457 : (3457 : Int32) = nI 3457 := rfl
theorem li_3465 : (3465 : Int32) = nI 3465 := rfl
theorem li_3469 : (3469 : Int32) = nI 3469 := rfl
theorem li_3473 : (3473 : Int32) = nI 3473 := rfl
theorem li_3477 : (3477 : Int32) = nI 3477 := rfl
theorem li_3501 : (3501 : Int32) = nI 3501 := rfl
theorem li_3513 : (3513 : Int32) = nI 3513 := rfl
theorem li_3525 : (3525 : Int32) = nI 3525 := rfl
theorem li_3537 : (3537 : Int32) = nI 3537 := rfl
theorem li_3633 : (3633 : Int32) = nI 3633 := rfl
theorem li_3730 : (3730 : Int32) = nI 3730 := rfl
theorem li_3742 : (3742 : Int32) = nI 3742 := rfl
theorem li_3754 : (3754 : Int32) = nI 3754 := rfl
theorem li_3766 : (3766 : Int32) = nI 3766 := rfl
theorem li_4095 : (4095 : Int32) = nI 4095 := rfl
theorem li_4096 : (4096 : Int32) = nI 4096 := rfl
theorem li_4300 : (4300 : Int32) = nI 4300 := rfl
theorem li_9011 : (9011 : Int32) = nI 9011 := rfl
theorem li_9999 : (9999 : Int32) = nI 9999 := rfl
theorem li_10000 : (10000 : Int32) = nI 10000 := rfl
theorem li_36864 : (36864 : Int32) = nI 36864 := rfl
theorem li_65536 : (65536 : Int32) = nI 65536 := rfl
theorem li_1000000 : (1000000 : Int32) = nI 1000000 := rfl
theorem ll_0 : (0 : Int64) = lN 0 := rfl
theorem ll_1 : (1 : Int64) = lN 1 := rfl
theorem ll_100 : (100 : Int64) = lN 100 := rfl
theorem ll_11 : (11 : Int64) = lN 11 := rfl
theorem ll_16 : (16 : Int64) = lN 16 := rfl
theorem ll_20 : (20 : Int64) = lN 20 := rfl
theorem ll_3 : (3 : Int64) = lN 3 := rfl
theorem ll_32 : (32 : Int64) = lN 32 := rfl
theorem ll_50 : (50 : Int64) = lN 50 := rfl
theorem ll_8 : (8 : Int64) = lN 8 := rfl
theorem ll_96 : (96 : Int64) = lN 96 := rfl
theorem ll_99 : (99 : Int64) = lN 99 := rfl
theorem ll_9999 : (9999 : Int64) = lN 9999 := rfl
theorem ne_m1 : -(nI 1) = mI := rfl
theorem nI_succ1 (n : Nat) : nI n + 1 = nI (n + 1) := nI_1 n
theorem le_i {a b : Nat} (ha : a < 2147483648) (hb : b < 2147483648) : (nI a ≤ nI b) = (a ≤ b) := propext (nI_leI ha hb)
theorem lt_i {a b : Nat} (ha : a < 2147483648) (hb : b < 2147483648) : (nI a < nI b) = (a < b) := propext (nI_ltI ha hb)
theorem eq_i {a b : Nat} (ha : a < 2147483648) (hb : b < 2147483648) : (nI a = nI b) = (a = b) := propext (nI_eq ha hb)
theorem mI_toInt : mI.toInt = -1 := by decide
theorem m1_i {a : Nat} (ha : a < 2147483648) : (nI a = mI) = False := by
  apply propext
  rw [← Int32.toInt_inj, nI_toInt ha, mI_toInt]
  constructor
  · intro h; omega
  · intro h; exact h.elim
theorem m1_eq : (mI = mI) = True := by simp
theorem m1_lt {a : Nat} (ha : a < 2147483648) : (mI < nI a) = True := by
  apply propext
  rw [Int32.lt_iff_toInt_lt, nI_toInt ha, mI_toInt]
  constructor
  · intro _; trivial
  · intro _; omega
theorem m1_le {a : Nat} (ha : a < 2147483648) : (nI a ≤ mI) = False := by
  apply propext
  rw [Int32.le_iff_toInt_le, nI_toInt ha, mI_toInt]
  constructor
  · intro h; omega
  · intro h; exact h.elim
theorem m1_ge {a : Nat} (ha : a < 2147483648) : (nI a < mI) = False := by
  apply propext
  rw [Int32.lt_iff_toInt_lt, nI_toInt ha, mI_toInt]
  constructor
  · intro h; omega
  · intro h; exact h.elim
theorem m1_le0 {a : Nat} (ha : a < 2147483648) : (mI ≤ nI a) = True := by
  apply propext
  rw [Int32.le_iff_toInt_le, nI_toInt ha, mI_toInt]
  constructor
  · intro _; trivial
  · intro _; omega
theorem nI_mul (a b : Nat) : nI a * nI b = nI (a * b) := pk_mul a b
theorem e_if (c : Prop) [Decidable c] {α : Type} (a b : mM α) (s : mS) : bIf c a b s = if c then a s else b s := rfl
theorem e_ret {α : Type} (x : α) (s : mS) : bRet x s = some (x, s) := rfl
theorem e_rz0 (s : mS) : bRetZ (nI 0) s = some (nI 0, s) := rfl
theorem e_rz1 (s : mS) : bRetZ (nI 1) s = some (nI 1, s) := rfl
theorem e_rzb (b : Bool) (s : mS) : bRetZ (nI b.toNat) s = some (nI b.toNat, s) := by cases b <;> rfl
theorem e_call {β : Type} (F : mM β) {α : Type} (k : β → mM α) (s : mS) : bCall F k s = (match F s with | some (x, t) => k x t | none => none) := rfl
theorem bCallX_eq {z : Nat} {β : Type} (F : mM β) {α : Type} (k : β → mM α) (s : mS) (h : z < 35) : bCallX z F k s = bCall F k s := if_pos h
theorem e_callV {kc a : Nat} {β : Type} {F : mM β} {α : Type} {k : β → mM α} {s : mS} (h : (sH s a).1 = kc) : bCallV kc a F k s = bCall F k s := if_pos h
/-- a call that is known to answer -/
theorem x_call {β : Type} {F : mM β} {α : Type} {k : β → mM α} {s t : mS} {x : β} (h : F s = some (x, t)) : bCall F k s = k x t := by rw [e_call, h]
theorem x_callV {kc a : Nat} {β : Type} {F : mM β} {α : Type} {k : β → mM α} {s t : mS} {x : β} (hk : (sH s a).1 = kc) (h : F s = some (x, t)) : bCallV kc a F k s = k x t := by rw [e_callV hk, x_call h]
theorem sI_wI (s : mS) (a j : Nat) (x : Int32) (b i : Nat) : sI (wI s a j x) b i = if b = a ∧ i = j then x else sI s b i := rfl
theorem sL_wI (s : mS) (a j : Nat) (x : Int32) : sL (wI s a j x) = sL s := rfl
theorem sP_wI (s : mS) (a j : Nat) (x : Int32) : sP (wI s a j x) = sP s := rfl
theorem sH_wI (s : mS) (a j : Nat) (x : Int32) : sH (wI s a j x) = sH s := rfl
theorem sZ_wI (s : mS) (a j : Nat) (x : Int32) : sZ (wI s a j x) = sZ s := rfl
theorem sW_wI (s : mS) (a j : Nat) (x : Int32) : sW (wI s a j x) = sW s := rfl
theorem sI_wL (s : mS) (a j : Nat) (x : Int64) : sI (wL s a j x) = sI s := rfl
theorem sL_wL (s : mS) (a j : Nat) (x : Int64) (b i : Nat) : sL (wL s a j x) b i = if b = a ∧ i = j then x else sL s b i := rfl
theorem sP_wL (s : mS) (a j : Nat) (x : Int64) : sP (wL s a j x) = sP s := rfl
theorem sH_wL (s : mS) (a j : Nat) (x : Int64) : sH (wL s a j x) = sH s := rfl
theorem sZ_wL (s : mS) (a j : Nat) (x : Int64) : sZ (wL s a j x) = sZ s := rfl
theorem sW_wL (s : mS) (a j : Nat) (x : Int64) : sW (wL s a j x) = sW s := rfl
theorem sI_wP (s : mS) (a j x : Nat) : sI (wP s a j x) = sI s := rfl
theorem sL_wP (s : mS) (a j x : Nat) : sL (wP s a j x) = sL s := rfl
theorem sP_wP (s : mS) (a j x : Nat) (b i : Nat) : sP (wP s a j x) b i = if b = a ∧ i = j then x else sP s b i := rfl
theorem sH_wP (s : mS) (a j x : Nat) : sH (wP s a j x) = sH s := rfl
theorem sZ_wP (s : mS) (a j x : Nat) : sZ (wP s a j x) = sZ s := rfl
theorem sW_wP (s : mS) (a j x : Nat) : sW (wP s a j x) = sW s := rfl
/-- reads and writes where they are allowed -/
theorem xGI {k a j : Nat} {α : Type} {f : Int32 → mM α} {s : mS} (h : (sH s a).1 = k) : bGI k a j f s = f (sI s a j) s := if_pos h
theorem xGIe {k a j : Nat} {α : Type} {f : Int32 → mM α} {s : mS} {x : Int32} (h : (sH s a).1 = k) (hx : sI s a j = x) : bGI k a j f s = f x s := by rw [← hx]; exact if_pos h
theorem xGL {k a j : Nat} {α : Type} {f : Int64 → mM α} {s : mS} (h : (sH s a).1 = k) : bGL k a j f s = f (sL s a j) s := if_pos h
theorem xGR {k a j b : Nat} {α : Type} {f : Nat → mM α} {s : mS} (h : (sH s a).1 = k) (hb : sP s a j = b) : bGR k a j f s = f b s := by rw [← hb]; exact if_pos h
theorem xPI {k a j : Nat} {x : Int32} {α : Type} {m : mM α} {s : mS} (h : (sH s a).1 = k) : bPI k a j x m s = m (wI s a j x) := if_pos h
theorem xPZ {k a j : Nat} {x : Int32} {α : Type} {m : mM α} {s : mS} (h : (sH s a).1 = k) (hx : x = 0 ∨ x = 1) : bPZ k a j x m s = m (wI s a j x) := if_pos ⟨h, hx⟩
theorem xPL {k a j : Nat} {x : Int64} {α : Type} {m : mM α} {s : mS} (h : (sH s a).1 = k) : bPL k a j x m s = m (wL s a j x) := if_pos h
theorem xPR {k a j x : Nat} {α : Type} {m : mM α} {s : mS} (h : (sH s a).1 = k) : bPR k a j x m s = m (wP s a j x) := if_pos h
theorem inB_nI {i n : Nat} (h : i < n) (hn : n < 2147483648) : inB (nI i) n := vp_in_nI h hn
theorem xAI {k a i n : Nat} {α : Type} {f : Int32 → mM α} {s : mS} (h : sH s a = (k, n)) (hi : i < n) (hn : n < 2147483648) : bAI k a (nI i) f s = f (sI s a i) s := by
  unfold bAI
  rw [h, if_pos ⟨rfl, inB_nI hi hn⟩, nI_clamp (by omega)]
theorem xAIe {k a i n : Nat} {α : Type} {f : Int32 → mM α} {s : mS} {x : Int32} (h : sH s a = (k, n)) (hi : i < n) (hn : n < 2147483648) (hx : sI s a i = x) : bAI k a (nI i) f s = f x s := by rw [xAI h hi hn, hx]
theorem xAL {a i n : Nat} {α : Type} {f : Int64 → mM α} {s : mS} (h : sH s a = (12, n)) (hi : i < n) (hn : n < 2147483648) : bAL a (nI i) f s = f (sL s a i) s := by
  unfold bAL
  rw [h, if_pos ⟨rfl, inB_nI hi hn⟩, nI_clamp (by omega)]
theorem xAR {k a i n b : Nat} {α : Type} {f : Nat → mM α} {s : mS} (h : sH s a = (k, n)) (hi : i < n) (hn : n < 2147483648) (hb : sP s a i = b) : bAR k a (nI i) f s = f b s := by
  unfold bAR
  rw [h, if_pos ⟨rfl, inB_nI hi hn⟩, nI_clamp (by omega), hb]
theorem xLen {k a n : Nat} {α : Type} {f : Int32 → mM α} {s : mS} (h : sH s a = (k, n)) : bLen k a f s = f (nI n) s := by
  unfold bLen
  rw [h, if_pos rfl]; rfl
theorem xSI {a i n : Nat} {x : Int32} {α : Type} {m : mM α} {s : mS} (h : sH s a = (11, n)) (hi : i < n) (hn : n < 2147483648) : bSI a (nI i) x m s = m (wI s a i x) := by
  unfold bSI
  rw [h, if_pos ⟨rfl, inB_nI hi hn⟩, nI_clamp (by omega)]
theorem xSL {a i n : Nat} {x : Int64} {α : Type} {m : mM α} {s : mS} (h : sH s a = (12, n)) (hi : i < n) (hn : n < 2147483648) : bSL a (nI i) x m s = m (wL s a i x) := by
  unfold bSL
  rw [h, if_pos ⟨rfl, inB_nI hi hn⟩, nI_clamp (by omega)]
/-- a loop that counts up -/
theorem loop_n {β : Type} (f : Nat → Nat → β) (r : β) (N : Nat) (hs : ∀ n k, k < N → f (n + 1) k = f n (k + 1)) (he : ∀ n, f (n + 1) N = r) : ∀ n k, k ≤ N → N < n + k → f n k = r := by
  intro n
  induction n with
  | zero => intro k h1 h2; omega
  | succ n ih =>
    intro k h1 h2
    by_cases hk : k = N
    · subst hk; exact he n
    · rw [hs n k (by omega)]; exact ih (k + 1) (by omega) (by omega)
def it {β : Type} (f : Nat → β → β) (b : β) : Nat → β
  | 0 => b
  | k + 1 => f k (it f b k)
theorem it_s {β : Type} (f : Nat → β → β) (b : β) (k : Nat) : it f b (k + 1) = f k (it f b k) := rfl
theorem it_0 {β : Type} (f : Nat → β → β) (b : β) : it f b 0 = b := rfl
theorem it_congr {β : Type} {f g : Nat → β → β} {b : β} : ∀ (n : Nat), (∀ k x, k < n → f k x = g k x) → it f b n = it g b n
  | 0, _ => rfl
  | n + 1, h => by rw [it_s, it_s, it_congr n (fun k x hk => h k x (by omega)), h n _ (by omega)]
/-- the first k below N with P k, else N -/
def fs (P : Nat → Bool) : Nat → Nat
  | 0 => 0
  | n + 1 => if fs P n < n then fs P n else if P n then n else n + 1
theorem fs_le (P : Nat → Bool) : ∀ n, fs P n ≤ n
  | 0 => Nat.le_refl 0
  | n + 1 => by
    unfold fs
    have := fs_le P n
    split
    · omega
    · split <;> omega
theorem fs_no (P : Nat → Bool) : ∀ n k, k < fs P n → P k = false
  | 0, k, h => by unfold fs at h; omega
  | n + 1, k, h => by
    unfold fs at h
    have h0 := fs_le P n
    have h1 := fs_no P n k
    split at h
    · exact h1 h
    · split at h
      · exact h1 (by omega)
      · by_cases hk : k < fs P n
        · exact h1 hk
        · rw [show k = n by omega]
          rename_i h2
          simpa using h2
theorem fs_yes (P : Nat → Bool) : ∀ n, fs P n < n → P (fs P n) = true
  | 0, h => by omega
  | n + 1, h => by
    unfold fs at h ⊢
    have h0 := fs_le P n
    have h1 := fs_yes P n
    split
    · exact h1 ‹_›
    · split
      · assumption
      · rename_i h2 h3
        rw [if_neg h2, if_neg h3] at h
        omega
theorem fs_uniq (P : Nat → Bool) {n m : Nat} (h1 : m ≤ n) (h2 : ∀ k, k < m → P k = false) (h3 : m < n → P m = true) : fs P n = m := by
  have a1 := fs_le P n
  rcases Nat.lt_trichotomy (fs P n) m with h | h | h
  · have b1 := fs_yes P n (by omega)
    rw [h2 _ h] at b1
    cases b1
  · exact h
  · have b1 := fs_no P n m h
    rw [h3 (by omega)] at b1
    cases b1
/-- a loop that counts up until P holds -/
theorem loop_x {β : Type} (f : Nat → Nat → β) (P : Nat → Bool) (out : Nat → β) (N : Nat) (hx : ∀ n k, k < N → P k = true → f (n + 1) k = out k) (hs : ∀ n k, k < N → P k = false → f (n + 1) k = f n (k + 1)) (he : ∀ n, f (n + 1) N = out N) : ∀ n, N < n → f n 0 = out (fs P N) := by
  have key : ∀ n k, k ≤ fs P N → N < n + k → f n k = out (fs P N) := by
    intro n
    induction n with
    | zero => intro k h1 h2; have := fs_le P N; omega
    | succ n ih =>
      intro k h1 h2
      have h3 := fs_le P N
      by_cases hk : k = fs P N
      · subst hk
        by_cases h4 : fs P N < N
        · exact hx n _ h4 (fs_yes P N h4)
        · have : fs P N = N := by omega
          rw [this]; exact he n
      · rw [hs n k (by omega) (fs_no P N k (by omega))]
        exact ih (k + 1) (by omega) (by omega)
  intro n hn
  exact key n 0 (by omega) (by omega)
/-- numbers, perhaps none -/
def oI : Option Nat → Int32
  | none => mI
  | some n => nI n
theorem oI_n : oI none = mI := rfl
theorem oI_s (n : Nat) : oI (some n) = nI n := rfl
theorem oI_m {o : Option Nat} (h : ∀ n, o = some n → n < 2147483648) : (oI o = mI) = (o = none) := by
  cases o with
  | none => simp [oI]
  | some n => rw [oI_s, m1_i (h n rfl)]; simp
theorem oI_e {o : Option Nat} {p : Nat} (h : ∀ n, o = some n → n < 2147483648) (hp : p < 2147483648) : (oI o = nI p) = (o = some p) := by
  cases o with
  | none =>
    rw [oI_n]
    apply propext
    constructor
    · intro h; rw [eq_comm, m1_i hp] at h; exact h.elim
    · intro h; cases h
  | some n => rw [oI_s, eq_i (h n rfl) hp]; simp
theorem oI_ee {o q : Option Nat} (h : ∀ n, o = some n → n < 2147483648) (hq : ∀ n, q = some n → n < 2147483648) : (oI o = oI q) = (o = q) := by
  cases q with
  | none => rw [oI_n, oI_m h]
  | some n => rw [oI_s, oI_e h (hq n rfl)]
theorem oI_lt {o : Option Nat} (h : ∀ n, o = some n → n < 2147483648) : (oI o < nI 0) = (o = none) := by
  cases o with
  | none => apply propext; constructor
            · intro _; rfl
            · intro _; decide
  | some n => rw [oI_s, lt_i (h n rfl) (by decide)]; simp
theorem oI_ge {o : Option Nat} (h : ∀ n, o = some n → n < 2147483648) : (nI 0 ≤ oI o) = (o ≠ none) := by
  cases o with
  | none => apply propext; constructor
            · intro h; exact absurd h (by decide)
            · intro h; exact absurd rfl h
  | some n => rw [oI_s, le_i (by decide) (h n rfl)]; simp
/-- 0 for none -/
def zI : Option Nat → Int32
  | none => nI 0
  | some n => nI n
theorem jMax_i {a b : Nat} (ha : a < 2147483648) (hb : b < 2147483648) : jMax (nI a) (nI b) = nI (max a b) := by
  show (if nI a < nI b then nI b else nI a) = _
  simp only [lt_i ha hb]
  split
  · rw [Nat.max_eq_right (by omega)]
  · rw [Nat.max_eq_left (by omega)]
theorem jMin_i {a b : Nat} (ha : a < 2147483648) (hb : b < 2147483648) : jMin (nI a) (nI b) = nI (min a b) := by
  show (if nI b < nI a then nI b else nI a) = _
  simp only [lt_i hb ha]
  split
  · rw [Nat.min_eq_right (by omega)]
  · rw [Nat.min_eq_left (by omega)]
theorem tn_i {n : Nat} (h : n < 2147483648) : (nI n).toBitVec.toNat = n := pk_tn (by omega)
theorem i_ext {x : Int32} {n : Nat} (h : x.toBitVec.toNat = n) : x = nI n := by
  have h2 : n < 2 ^ 32 := by rw [← h]; exact x.toBitVec.isLt
  apply Int32.toBitVec_inj.mp
  apply BitVec.eq_of_toNat_eq
  rw [h, pk_tn h2]
theorem and_i {a b : Nat} (ha : a < 2147483648) (hb : b < 2147483648) : nI a &&& nI b = nI (a &&& b) := by
  apply i_ext
  rw [Int32.toBitVec_and, BitVec.toNat_and, tn_i ha, tn_i hb]
theorem or_i {a b : Nat} (ha : a < 2147483648) (hb : b < 2147483648) : nI a ||| nI b = nI (a ||| b) := by
  apply i_ext
  rw [Int32.toBitVec_or, BitVec.toNat_or, tn_i ha, tn_i hb]
theorem xor_i {a b : Nat} (ha : a < 2147483648) (hb : b < 2147483648) : nI a ^^^ nI b = nI (a ^^^ b) := by
  apply i_ext
  rw [Int32.toBitVec_xor, BitVec.toNat_xor, tn_i ha, tn_i hb]
theorem and31 {p : Nat} (hp : p < 32) : nI p &&& nI 31 = nI p := by
  rw [and_i (by omega) (by decide)]
  congr 1
  have := Nat.and_two_pow_sub_one_eq_mod p 5
  rw [show (2 : Nat) ^ 5 - 1 = 31 from rfl] at this
  rw [this]
  exact Nat.mod_eq_of_lt (by omega)
theorem sm_i : ∀ p, p < 32 → ((nI p &&& nI 31).toBitVec.smod 32).toNat = p := by decide
theorem shr_i {m p : Nat} (hm : m < 2147483648) (hp : p < 32) : nI m >>> (nI p &&& nI 31) = nI (m / 2 ^ p) := pk_shrN hm _ p (sm_i p hp)
theorem shl_i {m p : Nat} (h : m * 2 ^ p < 4294967296) (hp : p < 32) : nI m <<< (nI p &&& nI 31) = nI (m * 2 ^ p) := pk_shlN _ p (sm_i p hp) h
theorem one_shl {p : Nat} (hp : p < 31) : nI 1 <<< (nI p &&& nI 31) = nI (2 ^ p) := by
  rw [shl_i ?_ (by omega), Nat.one_mul]
  rw [Nat.one_mul]
  exact Nat.lt_trans (Nat.pow_lt_pow_right (by decide) hp) (by decide)
theorem bit_i {m p : Nat} (hm : m < 2147483648) (hp : p < 32) : nI m >>> (nI p &&& nI 31) &&& nI 1 = nI (m.testBit p).toNat := by
  rw [shr_i hm hp, and_i ?_ (by decide)]
  · congr 1
    rw [Nat.and_one_is_mod, Nat.testBit_eq_decide_div_mod_eq]
    rcases Nat.mod_two_eq_zero_or_one (m / 2 ^ p) with h | h <;> simp [h]
  · exact Nat.lt_of_le_of_lt (Nat.div_le_self _ _) hm
theorem bt1 (b : Bool) : (nI b.toNat = nI 1) = (b = true) := by cases b <;> decide
theorem bt0 (b : Bool) : (nI b.toNat = nI 0) = (b = false) := by cases b <;> decide
theorem add_m1 {a : Nat} (h : 0 < a) : nI a + mI = nI (a - 1) := by
  obtain ⟨b, rfl⟩ : ∃ b, a = b + 1 := ⟨a - 1, by omega⟩
  exact pk_m1 b
theorem sub_i {a b : Nat} (h : b ≤ a) : nI a - nI b = nI (a - b) := pk_sub h
theorem div_i {a d : Nat} (ha : a < 2147483648) (h0 : 0 < d) (hd : d < 2147483648) : nI a / nI d = nI (a / d) := pk_div ha h0 hd
theorem rem_i {a d : Nat} (ha : a < 2147483648) (h0 : 0 < d) (hd : d < 2147483648) : nI a - nI a / nI d * nI d = nI (a % d) := pk_rem ha h0 hd
theorem e_nz {d : Nat} (h0 : 0 < d) (hd : d < 2147483648) {α : Type} (m : mM α) (s : mS) : bNz (nI d) m s = m s := by
  unfold bNz
  rw [if_neg (nI_ne0 h0 hd)]
/-- sets of numbers below n as bits -/
def mk (P : Nat → Bool) (n : Nat) : Nat := it (fun p m => if P p then m ||| 2 ^ p else m) 0 n
theorem or_lt {a b k : Nat} (ha : a < 2 ^ k) (hb : b < 2 ^ k) : a ||| b < 2 ^ k := Nat.or_lt_two_pow ha hb
theorem mk_lt (P : Nat → Bool) : ∀ n, mk P n < 2 ^ n
  | 0 => (by decide : (0 : Nat) < 2 ^ 0)
  | n + 1 => by
    unfold mk
    rw [it_s]
    have h := mk_lt P n
    unfold mk at h
    have h2 : (2 : Nat) ^ n < 2 ^ (n + 1) := Nat.pow_lt_pow_right (by decide) (by omega)
    split
    · exact Nat.or_lt_two_pow (by omega) h2
    · omega
theorem mk_bit (P : Nat → Bool) (i : Nat) : ∀ n, (mk P n).testBit i = (decide (i < n) && P i)
  | 0 => by simp [mk, it]
  | n + 1 => by
    have h := mk_bit P i n
    unfold mk at h ⊢
    rw [it_s]
    split
    · rename_i hp
      rw [Nat.testBit_or, h, Nat.testBit_two_pow]
      by_cases h1 : n = i
      · subst h1; simp [hp]
      · by_cases h2 : i < n
        · simp [h1, h2, show i < n + 1 by omega]
        · simp [h1, h2, show ¬ i < n + 1 by omega]
    · rename_i hp
      rw [h]
      by_cases h1 : i = n
      · subst h1
        simp [hp]
      · by_cases h2 : i < n
        · simp [h2, show i < n + 1 by omega]
        · simp [h2, show ¬ i < n + 1 by omega]
theorem mk_congr {P Q : Nat → Bool} (n : Nat) (h : ∀ i, i < n → P i = Q i) : mk P n = mk Q n := it_congr n (fun k x hk => by rw [h k hk])

/-! PURE REASONING ABOUT THE SMALL PROGRAMS: what all of it uses -/
theorem sI_wI (s : mS) (a j : Nat) (x : Int32) (b i : Nat) : sI (wI s a j x) b i = if b = a ∧ i = j then x else sI s b i := rfl
theorem sL_wI (s : mS) (a j : Nat) (x : Int32) : sL (wI s a j x) = sL s := rfl
theorem sP_wI (s : mS) (a j : Nat) (x : Int32) : sP (wI s a j x) = sP s := rfl
theorem sH_wI (s : mS) (a j : Nat) (x : Int32) : sH (wI s a j x) = sH s := rfl
theorem sZ_wI (s : mS) (a j : Nat) (x : Int32) : sZ (wI s a j x) = sZ s := rfl
theorem sW_wI (s : mS) (a j : Nat) (x : Int32) : sW (wI s a j x) = sW s := rfl
theorem sI_wL (s : mS) (a j : Nat) (x : Int64) : sI (wL s a j x) = sI s := rfl
theorem sL_wL (s : mS) (a j : Nat) (x : Int64) (b i : Nat) : sL (wL s a j x) b i = if b = a ∧ i = j then x else sL s b i := rfl
theorem sP_wL (s : mS) (a j : Nat) (x : Int64) : sP (wL s a j x) = sP s := rfl
theorem sH_wL (s : mS) (a j : Nat) (x : Int64) : sH (wL s a j x) = sH s := rfl
theorem sZ_wL (s : mS) (a j : Nat) (x : Int64) : sZ (wL s a j x) = sZ s := rfl
theorem sW_wL (s : mS) (a j : Nat) (x : Int64) : sW (wL s a j x) = sW s := rfl
theorem nI_mul (a b : Nat) : nI a * nI b = nI (a * b) := by
  show Int32.ofNat a * Int32.ofNat b = Int32.ofNat (a * b)
  exact (Int32.ofNat_mul a b).symm
/-- reads and writes where they are allowed -/
theorem xGI {k a j : Nat} {α : Type} {f : Int32 → mM α} {s : mS} (h : (sH s a).1 = k) : bGI k a j f s = f (sI s a j) s := if_pos h
theorem xGL {k a j : Nat} {α : Type} {f : Int64 → mM α} {s : mS} (h : (sH s a).1 = k) : bGL k a j f s = f (sL s a j) s := if_pos h
theorem xGR {k a j b : Nat} {α : Type} {f : Nat → mM α} {s : mS} (h : (sH s a).1 = k) (hb : sP s a j = b) : bGR k a j f s = f b s := by rw [← hb]; exact if_pos h
theorem xPI {k a j : Nat} {x : Int32} {α : Type} {m : mM α} {s : mS} (h : (sH s a).1 = k) : bPI k a j x m s = m (wI s a j x) := if_pos h
theorem xPL {k a j : Nat} {x : Int64} {α : Type} {m : mM α} {s : mS} (h : (sH s a).1 = k) : bPL k a j x m s = m (wL s a j x) := if_pos h
theorem inB_nI {i n : Nat} (h : i < n) (hn : n < 2 ^ 31) : inB (nI i) n := vp_in_nI h hn
theorem xAI {k a i n : Nat} {α : Type} {f : Int32 → mM α} {s : mS} (h : sH s a = (k, n)) (hi : i < n) (hn : n < 2 ^ 31) : bAI k a (nI i) f s = f (sI s a i) s := by
  unfold bAI
  rw [h, if_pos ⟨rfl, inB_nI hi hn⟩, nI_clamp (by omega)]
theorem xAL {a i n : Nat} {α : Type} {f : Int64 → mM α} {s : mS} (h : sH s a = (12, n)) (hi : i < n) (hn : n < 2 ^ 31) : bAL a (nI i) f s = f (sL s a i) s := by
  unfold bAL
  rw [h, if_pos ⟨rfl, inB_nI hi hn⟩, nI_clamp (by omega)]
theorem xSI {a i n : Nat} {x : Int32} {α : Type} {m : mM α} {s : mS} (h : sH s a = (11, n)) (hi : i < n) (hn : n < 2 ^ 31) : bSI a (nI i) x m s = m (wI s a i x) := by
  unfold bSI
  rw [h, if_pos ⟨rfl, inB_nI hi hn⟩, nI_clamp (by omega)]
/-- a loop that counts up -/
theorem loop_n {β : Type} (f : Nat → Nat → β) (r : β) (N : Nat) (hs : ∀ n k, k < N → f (n + 1) k = f n (k + 1)) (he : ∀ n, f (n + 1) N = r) : ∀ n k, k ≤ N → N < n + k → f n k = r := by
  intro n
  induction n with
  | zero => intro k h1 h2; omega
  | succ n ih =>
    intro k h1 h2
    by_cases hk : k = N
    · subst hk; exact he n
    · rw [hs n k (by omega)]; exact ih (k + 1) (by omega) (by omega)
/-- the reference's cells -/
def RT (s : mS) : Prop := (sH s 113).1 = 9 ∧ sP s 113 4 = 114 ∧ sP s 113 5 = 115 ∧ sP s 113 6 = 116 ∧ sP s 113 7 = 117 ∧ sP s 113 24 = 118 ∧ sP s 113 25 = 119 ∧ sP s 113 26 = 120 ∧ sP s 113 27 = 121 ∧ sP s 113 29 = 122 ∧ sP s 113 30 = 123 ∧ sP s 113 32 = 124 ∧ sH s 114 = (11, 4) ∧ sH s 115 = (11, 4) ∧ sH s 116 = (12, 240) ∧ sH s 117 = (10, 900) ∧ sH s 118 = (11, 4300) ∧ sH s 119 = (11, 860) ∧ sH s 120 = (12, 70) ∧ sH s 121 = (13, 140) ∧ sH s 122 = (11, 4096) ∧ sH s 123 = (11, 36864) ∧ sH s 124 = (11, 8)
theorem RT.k {s : mS} (h : RT s) : (sH s 113).1 = 9 := h.1
/-- a number of the block c, by its place -/
theorem xC {s : mS} (h : RT s) {i : Nat} {α : Type} {f : Nat → Int32 → mM α} (hi : i < 4300) : bGR 9 113 24 (fun x => bAI 11 x (nI i) (f x)) s = f 118 (sI s 118 i) s := by
  rw [xGR h.1 h.2.2.2.2.2.1, xAI h.2.2.2.2.2.2.2.2.2.2.2.2.2.2.2.2.1 hi (by decide)]

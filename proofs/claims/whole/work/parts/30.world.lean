/-! A WORLD: what a World of the class, or a block of the reference, stands for -/
/-- a rope: owner, borrower, holy, slips, pieces (yards, age in year 0) -/
abbrev rR : Type := Option Nat × Option Nat × Bool × Nat × List (Nat × Nat)
abbrev rO (ρ : rR) : Option Nat := ρ.1
abbrev rB (ρ : rR) : Option Nat := ρ.2.1
abbrev rH (ρ : rR) : Bool := ρ.2.2.1
abbrev rS (ρ : rR) : Nat := ρ.2.2.2.1
abbrev rP (ρ : rR) : List (Nat × Nat) := ρ.2.2.2.2
def r0 : rR := (none, none, false, 0, [])
def pY (ps : List (Nat × Nat)) (k : Nat) : Nat := (ps.getD k (0, 0)).1
def pA (ps : List (Nat × Nat)) (k : Nat) : Nat := (ps.getD k (0, 0)).2
def qS (ps : List (Nat × Nat)) (k : Nat) : Nat := it (fun j n => n + pY ps j) 0 k
abbrev rN (ρ : rR) : Nat := (rP ρ).length
def rL (ρ : rR) : Nat := qS (rP ρ) (rN ρ)
def rT (ρ : rR) : Bool := decide (0 < rN ρ)
def rHo (ρ : rR) : Option Nat := match rB ρ with
  | none => rO ρ
  | some q => some q
def rF (ρ : rR) : Bool := !rH ρ && (rB ρ).isNone
abbrev rK (ρ : rR) : Nat := rN ρ - 1
abbrev rE (ρ : rR) : Nat := rL ρ - rK ρ
def rA (ρ : rR) : Nat := it (fun k n => max n (pA (rP ρ) k)) 0 (rN ρ)
def rI (ρ : rR) : Prop := rN ρ ≤ 8 ∧ (∀ k, k < rN ρ → 1 ≤ pY (rP ρ) k ∧ pY (rP ρ) k ≤ 200 ∧ pA (rP ρ) k ≤ 300) ∧ rS ρ ≤ 15 ∧ (∀ p, rO ρ = some p → p < 8) ∧ (∀ p, rB ρ = some p → p < 8) ∧ (rN ρ = 0 → ρ = r0)
theorem r0_I : rI r0 := ⟨by decide, fun k h => absurd h (by show ¬ k < 0; omega), by decide, fun p h => (by cases h), fun p h => (by cases h), fun _ => rfl⟩
theorem qS_s (ps : List (Nat × Nat)) (k : Nat) : qS ps (k + 1) = qS ps k + pY ps k := rfl
theorem qS_0 (ps : List (Nat × Nat)) : qS ps 0 = 0 := rfl
theorem qS_b {ρ : rR} (hI : rI ρ) : ∀ n, n ≤ rN ρ → n ≤ qS (rP ρ) n ∧ qS (rP ρ) n ≤ 200 * n
  | 0, _ => ⟨by omega, by rw [qS_0]; omega⟩
  | n + 1, h => by
    have h1 := qS_b hI n (by omega)
    have h2 := hI.2.1 n (by omega)
    rw [qS_s]
    omega
theorem rL_b {ρ : rR} (hI : rI ρ) : rN ρ ≤ rL ρ ∧ rL ρ ≤ 1600 := by
  have h1 := qS_b hI (rN ρ) (Nat.le_refl _)
  have h2 := hI.1
  unfold rL
  omega
theorem rE_b {ρ : rR} (hI : rI ρ) : rE ρ ≤ 1600 := by
  have := rL_b hI
  show rL ρ - rK ρ ≤ 1600
  omega
theorem rA_b' {ρ : rR} (hI : rI ρ) : ∀ n, n ≤ rN ρ → it (fun k n => max n (pA (rP ρ) k)) 0 n ≤ 300
  | 0, _ => by rw [it_0]; omega
  | n + 1, h => by
    have h1 := rA_b' hI n (by omega)
    have h2 := hI.2.1 n (by omega)
    rw [it_s]
    omega
theorem rA_b {ρ : rR} (hI : rI ρ) : rA ρ ≤ 300 := rA_b' hI _ (Nat.le_refl _)
theorem rHo_b {ρ : rR} (hI : rI ρ) : ∀ p, rHo ρ = some p → p < 8 := by
  intro p hp
  unfold rHo at hp
  split at hp
  · exact hI.2.2.2.1 p hp
  · rename_i q hq
    cases hp
    exact hI.2.2.2.2.1 _ hq
theorem ob {o : Option Nat} (h : ∀ p, o = some p → p < 8) : ∀ n, o = some n → n < 2147483648 := fun n e => by have := h n e; omega
/-- year, water, bottom, sinks, rain, rainBy, draws, people, parent, dies, floods, flood (from, to, by), ropes, law: rules of steps (what, sign, number) and whom -/
abbrev wW : Type := Nat × Nat × Nat × Nat × Nat × Nat × Nat × Nat × (Nat → Option Nat) × (Nat → Option Nat) × Nat × (Nat → Nat × Nat × Nat) × (Nat → rR) × List (List (Nat × Nat × Nat) × Nat)
abbrev wYr (W : wW) : Nat := W.1
abbrev wWa (W : wW) : Nat := W.2.1
abbrev wBo (W : wW) : Nat := W.2.2.1
abbrev wSi (W : wW) : Nat := W.2.2.2.1
abbrev wRa (W : wW) : Nat := W.2.2.2.2.1
abbrev wRb (W : wW) : Nat := W.2.2.2.2.2.1
abbrev wDr (W : wW) : Nat := W.2.2.2.2.2.2.1
abbrev wPe (W : wW) : Nat := W.2.2.2.2.2.2.2.1
abbrev wPa (W : wW) : Nat → Option Nat := W.2.2.2.2.2.2.2.2.1
abbrev wDi (W : wW) : Nat → Option Nat := W.2.2.2.2.2.2.2.2.2.1
abbrev wFl (W : wW) : Nat := W.2.2.2.2.2.2.2.2.2.2.1
abbrev wFd (W : wW) : Nat → Nat × Nat × Nat := W.2.2.2.2.2.2.2.2.2.2.2.1
abbrev wRo (W : wW) : Nat → rR := W.2.2.2.2.2.2.2.2.2.2.2.2.1
abbrev wLa (W : wW) : List (List (Nat × Nat × Nat) × Nat) := W.2.2.2.2.2.2.2.2.2.2.2.2.2
/-- a step of a rule: below 8 a question, 8 not, 9 and, 10 or -/
def sOk (q : Nat × Nat × Nat) : Prop := q.1 ≤ 10 ∧ q.2.1 < 256 ∧ q.2.2 ≤ 999
/-- how deep the stack is behind a step -/
def sWf : Nat → List (Nat × Nat × Nat) → Prop
  | d, [] => d = 1
  | d, q :: l => if q.1 < 8 then d < 24 ∧ sWf (d + 1) l else if q.1 = 8 then 1 ≤ d ∧ sWf d l else 2 ≤ d ∧ sWf (d - 1) l
def lAll (L : List (List (Nat × Nat × Nat) × Nat)) : List (Nat × Nat × Nat) := L.flatMap (fun q => q.1)
def lOk (L : List (List (Nat × Nat × Nat) × Nat)) : Prop := L.length ≤ 12 ∧ (lAll L).length ≤ 120 ∧ ∀ q ∈ L, q.2 ≤ 4 ∧ sWf 0 q.1 ∧ ∀ x ∈ q.1, sOk x
def wOk (W : wW) : Prop := wYr W ≤ 200 ∧ wWa W ≤ 999 ∧ wBo W ≤ 999 ∧ wSi W ≤ 99 ∧ wRa W ≤ 16 ∧ wRb W ≤ 99 ∧ wDr W < 65536 ∧ wPe W ≤ 8 ∧ (∀ p q, wPa W p = some q → q < 8) ∧ (∀ p d, wDi W p = some d → 1 ≤ d ∧ d ≤ 200) ∧ wFl W ≤ 4 ∧ (∀ f, (wFd W f).1 ≤ 200 ∧ (wFd W f).2.1 ≤ 200 ∧ (wFd W f).2.2 ≤ 999) ∧ (∀ r, rI (wRo W r)) ∧ (∀ r p, rO (wRo W r) = some p → p < wPe W) ∧ (∀ r p, rB (wRo W r) = some p → p < wPe W) ∧ lOk (wLa W)
/-- the class's steps of a law -/
def lCode (q : Nat × Nat × Nat) : Int32 := if q.1 < 2 then nI (q.1 * 16 + 61 * 256 + 1 * 65536) else if q.1 < 8 then nI (q.1 * 16 + q.2.1 * 256 + q.2.2 * 65536) else nI (q.1 - 7)
def lEnc (L : List (List (Nat × Nat × Nat) × Nat)) : List Int32 := L.flatMap (fun q => q.1.map lCode ++ [nI (4 + q.2 * 16)])
/-- a rope of the class at the cell x: how it lies, what it holds -/
def RoS (s : mS) (x : Nat) : Prop := (sH s x).1 = 3 ∧ sP s x 6 = x + 1 ∧ sP s x 7 = x + 2 ∧ sH s (x + 1) = (11, 8) ∧ sH s (x + 2) = (11, 8)
def RoD (s : mS) (x : Nat) (ρ : rR) : Prop := sI s x 0 = oI (rO ρ) ∧ sI s x 1 = oI (rB ρ) ∧ sI s x 2 = nI (rN ρ) ∧ sI s x 3 = nI (rL ρ) ∧ sI s x 4 = nI (rH ρ).toNat ∧ sI s x 5 = nI (rS ρ) ∧ ∀ k, k < rN ρ → sI s (x + 1) k = nI (pY (rP ρ) k) ∧ sI s (x + 2) k = nI (pA (rP ρ) k)
def WoS (s : mS) (a : Nat) : Prop := (sH s a).1 = 7 ∧ sP s a 8 = a + 1 ∧ sP s a 9 = a + 2 ∧ sP s a 10 = a + 3 ∧ sP s a 12 = a + 4 ∧ sP s a 13 = a + 5 ∧ sP s a 14 = a + 6 ∧ sP s a 15 = a + 7 ∧ sH s (a + 1) = (11, 8) ∧ sH s (a + 2) = (11, 8) ∧ sH s (a + 3) = (14, 12) ∧ sH s (a + 4) = (11, 4) ∧ sH s (a + 5) = (11, 4) ∧ sH s (a + 6) = (11, 4) ∧ sH s (a + 7) = (11, 8) ∧ ∀ r, r < 12 → sP s (a + 3) r = a + 8 + 3 * r ∧ RoS s (a + 8 + 3 * r)
def WoD (s : mS) (a : Nat) (W : wW) : Prop := sI s a 0 = nI (wYr W) ∧ sI s a 1 = nI (wWa W) ∧ sI s a 2 = nI (wBo W) ∧ sI s a 3 = nI (wSi W) ∧ sI s a 4 = nI (wRa W) ∧ sI s a 5 = nI (wRb W) ∧ sI s a 6 = nI (wDr W) ∧ sI s a 7 = nI (wPe W) ∧ sI s a 11 = nI (wFl W) ∧ (∀ p, p < wPe W → sI s (a + 1) p = oI (wPa W p) ∧ sI s (a + 2) p = oI (wDi W p)) ∧ (∀ f, f < wFl W → sI s (a + 4) f = nI (wFd W f).1 ∧ sI s (a + 5) f = nI (wFd W f).2.1 ∧ sI s (a + 6) f = nI (wFd W f).2.2) ∧ (∀ r, r < 12 → RoD s (a + 8 + 3 * r) (wRo W r))
def LaD (s : mS) (b : Nat) (L : List (List (Nat × Nat × Nat) × Nat)) : Prop := (b = 0 ∧ L = []) ∨ (124 < b ∧ (sH s b).1 = 0 ∧ sP s b 0 = b + 1 ∧ sI s b 1 = nI L.length ∧ sH s (b + 1) = (11, (lEnc L).length) ∧ ∀ j, j < (lEnc L).length → sI s (b + 1) j = (lEnc L).getD j 0)
def CW (s : mS) (a : Nat) (W : wW) : Prop := WoS s a ∧ WoD s a W ∧ wOk W ∧ LaD s (sP s a 16) (wLa W)
section CWS
variable {s : mS} {a : Nat} {W : wW} {α : Type}
theorem CW.wi (h : CW s a W) : wOk W := h.2.2.1
theorem CW.k (h : CW s a W) : (sH s a).1 = 7 := h.1.1
theorem CW.rs (h : CW s a W) {r : Nat} (hr : r < 12) : RoS s (a + 8 + 3 * r) := (h.1.2.2.2.2.2.2.2.2.2.2.2.2.2.2.2 r hr).2
theorem CW.rd (h : CW s a W) {r : Nat} (hr : r < 12) : RoD s (a + 8 + 3 * r) (wRo W r) := h.2.1.2.2.2.2.2.2.2.2.2.2.2 r hr
theorem CW.ri (h : CW s a W) (r : Nat) : rI (wRo W r) := h.wi.2.2.2.2.2.2.2.2.2.2.2.2.1 r
theorem g_yr {f : Int32 → mM α} (h : CW s a W) : bGI 7 a 0 f s = f (nI (wYr W)) s := xGIe h.k h.2.1.1
theorem g_wa {f : Int32 → mM α} (h : CW s a W) : bGI 7 a 1 f s = f (nI (wWa W)) s := xGIe h.k h.2.1.2.1
theorem g_bo {f : Int32 → mM α} (h : CW s a W) : bGI 7 a 2 f s = f (nI (wBo W)) s := xGIe h.k h.2.1.2.2.1
theorem g_si {f : Int32 → mM α} (h : CW s a W) : bGI 7 a 3 f s = f (nI (wSi W)) s := xGIe h.k h.2.1.2.2.2.1
theorem g_ra {f : Int32 → mM α} (h : CW s a W) : bGI 7 a 4 f s = f (nI (wRa W)) s := xGIe h.k h.2.1.2.2.2.2.1
theorem g_rb {f : Int32 → mM α} (h : CW s a W) : bGI 7 a 5 f s = f (nI (wRb W)) s := xGIe h.k h.2.1.2.2.2.2.2.1
theorem g_dr {f : Int32 → mM α} (h : CW s a W) : bGI 7 a 6 f s = f (nI (wDr W)) s := xGIe h.k h.2.1.2.2.2.2.2.2.1
theorem g_pe {f : Int32 → mM α} (h : CW s a W) : bGI 7 a 7 f s = f (nI (wPe W)) s := xGIe h.k h.2.1.2.2.2.2.2.2.2.1
theorem g_fl {f : Int32 → mM α} (h : CW s a W) : bGI 7 a 11 f s = f (nI (wFl W)) s := xGIe h.k h.2.1.2.2.2.2.2.2.2.2.1
theorem g_apa {f : Nat → mM α} (h : CW s a W) : bGR 7 a 8 f s = f (a + 1) s := xGR h.k h.1.2.1
theorem g_adi {f : Nat → mM α} (h : CW s a W) : bGR 7 a 9 f s = f (a + 2) s := xGR h.k h.1.2.2.1
theorem g_aro {f : Nat → mM α} (h : CW s a W) : bGR 7 a 10 f s = f (a + 3) s := xGR h.k h.1.2.2.2.1
theorem g_afr {f : Nat → mM α} (h : CW s a W) : bGR 7 a 12 f s = f (a + 4) s := xGR h.k h.1.2.2.2.2.1
theorem g_ato {f : Nat → mM α} (h : CW s a W) : bGR 7 a 13 f s = f (a + 5) s := xGR h.k h.1.2.2.2.2.2.1
theorem g_aby {f : Nat → mM α} (h : CW s a W) : bGR 7 a 14 f s = f (a + 6) s := xGR h.k h.1.2.2.2.2.2.2.1
theorem g_afc {f : Nat → mM α} (h : CW s a W) : bGR 7 a 15 f s = f (a + 7) s := xGR h.k h.1.2.2.2.2.2.2.2.1
theorem g_pa {f : Int32 → mM α} (h : CW s a W) {p : Nat} (hp : p < wPe W) : bAI 11 (a + 1) (nI p) f s = f (oI (wPa W p)) s := xAIe h.1.2.2.2.2.2.2.2.2.1 (by have := h.wi.2.2.2.2.2.2.2.1; omega) (by decide) (h.2.1.2.2.2.2.2.2.2.2.2.1 p hp).1
theorem g_di {f : Int32 → mM α} (h : CW s a W) {p : Nat} (hp : p < wPe W) : bAI 11 (a + 2) (nI p) f s = f (oI (wDi W p)) s := xAIe h.1.2.2.2.2.2.2.2.2.2.1 (by have := h.wi.2.2.2.2.2.2.2.1; omega) (by decide) (h.2.1.2.2.2.2.2.2.2.2.2.1 p hp).2
theorem g_ro {f : Nat → mM α} (h : CW s a W) {r : Nat} (hr : r < 12) : bAR 14 (a + 3) (nI r) f s = f (a + 8 + 3 * r) s := xAR h.1.2.2.2.2.2.2.2.2.2.2.1 hr (by decide) (h.1.2.2.2.2.2.2.2.2.2.2.2.2.2.2.2 r hr).1
theorem g_fr {f : Int32 → mM α} (h : CW s a W) {p : Nat} (hp : p < wFl W) : bAI 11 (a + 4) (nI p) f s = f (nI (wFd W p).1) s := xAIe h.1.2.2.2.2.2.2.2.2.2.2.2.1 (by have := h.wi.2.2.2.2.2.2.2.2.2.2.1; omega) (by decide) (h.2.1.2.2.2.2.2.2.2.2.2.2.1 p hp).1
theorem g_to {f : Int32 → mM α} (h : CW s a W) {p : Nat} (hp : p < wFl W) : bAI 11 (a + 5) (nI p) f s = f (nI (wFd W p).2.1) s := xAIe h.1.2.2.2.2.2.2.2.2.2.2.2.2.1 (by have := h.wi.2.2.2.2.2.2.2.2.2.2.1; omega) (by decide) (h.2.1.2.2.2.2.2.2.2.2.2.2.1 p hp).2.1
theorem g_by {f : Int32 → mM α} (h : CW s a W) {p : Nat} (hp : p < wFl W) : bAI 11 (a + 6) (nI p) f s = f (nI (wFd W p).2.2) s := xAIe h.1.2.2.2.2.2.2.2.2.2.2.2.2.2.1 (by have := h.wi.2.2.2.2.2.2.2.2.2.2.1; omega) (by decide) (h.2.1.2.2.2.2.2.2.2.2.2.2.1 p hp).2.2
end CWS
theorem ite_01 {p : Prop} [Decidable p] {b : Bool} {s : mS} (h : p ↔ b = false) : (if p then some (nI 0, s) else some (nI 1, s)) = some (nI b.toNat, s) := by
  by_cases hp : p
  · rw [if_pos hp, h.mp hp]; rfl
  · rw [if_neg hp]
    cases b with
    | false => exact absurd (h.mpr rfl) hp
    | true => rfl
theorem ite_10 {p : Prop} [Decidable p] {b : Bool} {s : mS} (h : p ↔ b = true) : (if p then some (nI 1, s) else some (nI 0, s)) = some (nI b.toNat, s) := by
  by_cases hp : p
  · rw [if_pos hp, h.mp hp]; rfl
  · rw [if_neg hp]
    cases b with
    | true => exact absurd (h.mpr rfl) hp
    | false => rfl
section ROPE
variable {s : mS} {x : Nat} {ρ : rR} (hS : RoS s x) (hD : RoD s x ρ) (hI : rI ρ)
theorem t_isThere (hS : RoS s x) (hD : RoD s x ρ) (hI : rI ρ) : fX3_isThere x s = some (nI (rT ρ).toNat, s) := by
  unfold fX3_isThere
  have := hI.1
  simp (disch := omega) only [xGIe hS.1 hD.2.2.1, li_0, li_1, li_2, li_3, li_4, li_5, li_6, li_7, li_8, li_9, li_10, li_11, li_12, li_13, li_14, li_15, li_16, li_17, li_20, li_24, li_25, li_29, li_31, li_32, li_33, li_37, li_40, li_41, li_48, li_49, li_50, li_56, li_57, li_59, li_60, li_61, li_62, li_63, li_70, li_73, li_85, li_97, li_98, li_99, li_100, li_101, li_102, li_103, li_104, li_105, li_107, li_108, li_109, li_110, li_111, li_112, li_114, li_115, li_116, li_117, li_118, li_119, li_121, li_122, li_140, li_193, li_200, li_240, li_255, li_289, li_290, li_300, li_302, li_314, li_326, li_860, li_880, li_900, li_999, li_1024, li_2801, li_3440, li_3441, li_3442, li_3443, li_3444, li_3447, li_3448, li_3449, li_3457, li_3465, li_3469, li_3473, li_3477, li_3501, li_3513, li_3525, li_3537, li_3633, li_3730, li_3742, li_3754, li_3766, li_4095, li_4096, li_4300, li_9011, li_9999, li_10000, li_36864, li_65536, li_1000000, ll_0, ll_1, ll_100, ll_11, ll_16, ll_20, ll_3, ll_32, ll_50, ll_8, ll_96, ll_99, ll_9999, ne_m1, e_if, e_ret, e_rz0, e_rz1, e_rzb, e_call, bCallX_eq, nI_add, nI_mul, nI_succ1, le_i, lt_i, eq_i, m1_i, m1_le, m1_lt, m1_ge, m1_eq, ite_true, ite_false, if_true, if_false]
  exact ite_01 (by unfold rT; simp)
theorem t_isFree (hS : RoS s x) (hD : RoD s x ρ) (hI : rI ρ) : fX3_isFree x s = some (nI (rF ρ).toNat, s) := by
  unfold fX3_isFree rF
  simp (disch := omega) only [xGIe hS.1 hD.2.2.2.2.1, xGIe hS.1 hD.2.1, li_0, li_1, li_2, li_3, li_4, li_5, li_6, li_7, li_8, li_9, li_10, li_11, li_12, li_13, li_14, li_15, li_16, li_17, li_20, li_24, li_25, li_29, li_31, li_32, li_33, li_37, li_40, li_41, li_48, li_49, li_50, li_56, li_57, li_59, li_60, li_61, li_62, li_63, li_70, li_73, li_85, li_97, li_98, li_99, li_100, li_101, li_102, li_103, li_104, li_105, li_107, li_108, li_109, li_110, li_111, li_112, li_114, li_115, li_116, li_117, li_118, li_119, li_121, li_122, li_140, li_193, li_200, li_240, li_255, li_289, li_290, li_300, li_302, li_314, li_326, li_860, li_880, li_900, li_999, li_1024, li_2801, li_3440, li_3441, li_3442, li_3443, li_3444, li_3447, li_3448, li_3449, li_3457, li_3465, li_3469, li_3473, li_3477, li_3501, li_3513, li_3525, li_3537, li_3633, li_3730, li_3742, li_3754, li_3766, li_4095, li_4096, li_4300, li_9011, li_9999, li_10000, li_36864, li_65536, li_1000000, ll_0, ll_1, ll_100, ll_11, ll_16, ll_20, ll_3, ll_32, ll_50, ll_8, ll_96, ll_99, ll_9999, ne_m1, e_if, e_ret, e_rz0, e_rz1, e_rzb, e_call, bCallX_eq, nI_add, nI_mul, nI_succ1, le_i, lt_i, eq_i, m1_i, m1_le, m1_lt, m1_ge, m1_eq, ite_true, ite_false, if_true, if_false, bt0, oI_m (ob hI.2.2.2.2.1)]
  cases rH ρ <;> cases rB ρ <;> rfl
theorem t_holder (hS : RoS s x) (hD : RoD s x ρ) (hI : rI ρ) : fX3_holder x s = some (oI (rHo ρ), s) := by
  unfold fX3_holder rHo
  simp (disch := omega) only [xGIe hS.1 hD.1, xGIe hS.1 hD.2.1, li_0, li_1, li_2, li_3, li_4, li_5, li_6, li_7, li_8, li_9, li_10, li_11, li_12, li_13, li_14, li_15, li_16, li_17, li_20, li_24, li_25, li_29, li_31, li_32, li_33, li_37, li_40, li_41, li_48, li_49, li_50, li_56, li_57, li_59, li_60, li_61, li_62, li_63, li_70, li_73, li_85, li_97, li_98, li_99, li_100, li_101, li_102, li_103, li_104, li_105, li_107, li_108, li_109, li_110, li_111, li_112, li_114, li_115, li_116, li_117, li_118, li_119, li_121, li_122, li_140, li_193, li_200, li_240, li_255, li_289, li_290, li_300, li_302, li_314, li_326, li_860, li_880, li_900, li_999, li_1024, li_2801, li_3440, li_3441, li_3442, li_3443, li_3444, li_3447, li_3448, li_3449, li_3457, li_3465, li_3469, li_3473, li_3477, li_3501, li_3513, li_3525, li_3537, li_3633, li_3730, li_3742, li_3754, li_3766, li_4095, li_4096, li_4300, li_9011, li_9999, li_10000, li_36864, li_65536, li_1000000, ll_0, ll_1, ll_100, ll_11, ll_16, ll_20, ll_3, ll_32, ll_50, ll_8, ll_96, ll_99, ll_9999, ne_m1, e_if, e_ret, e_rz0, e_rz1, e_rzb, e_call, bCallX_eq, nI_add, nI_mul, nI_succ1, le_i, lt_i, eq_i, m1_i, m1_le, m1_lt, m1_ge, m1_eq, ite_true, ite_false, if_true, if_false, oI_m (ob hI.2.2.2.2.1)]
  cases rB ρ <;> rfl
theorem t_knots (hS : RoS s x) (hD : RoD s x ρ) (h1 : 0 < rN ρ) : fX3_knots x s = some (nI (rK ρ), s) := by
  unfold fX3_knots
  simp (disch := omega) only [xGIe hS.1 hD.2.2.1, li_0, li_1, li_2, li_3, li_4, li_5, li_6, li_7, li_8, li_9, li_10, li_11, li_12, li_13, li_14, li_15, li_16, li_17, li_20, li_24, li_25, li_29, li_31, li_32, li_33, li_37, li_40, li_41, li_48, li_49, li_50, li_56, li_57, li_59, li_60, li_61, li_62, li_63, li_70, li_73, li_85, li_97, li_98, li_99, li_100, li_101, li_102, li_103, li_104, li_105, li_107, li_108, li_109, li_110, li_111, li_112, li_114, li_115, li_116, li_117, li_118, li_119, li_121, li_122, li_140, li_193, li_200, li_240, li_255, li_289, li_290, li_300, li_302, li_314, li_326, li_860, li_880, li_900, li_999, li_1024, li_2801, li_3440, li_3441, li_3442, li_3443, li_3444, li_3447, li_3448, li_3449, li_3457, li_3465, li_3469, li_3473, li_3477, li_3501, li_3513, li_3525, li_3537, li_3633, li_3730, li_3742, li_3754, li_3766, li_4095, li_4096, li_4300, li_9011, li_9999, li_10000, li_36864, li_65536, li_1000000, ll_0, ll_1, ll_100, ll_11, ll_16, ll_20, ll_3, ll_32, ll_50, ll_8, ll_96, ll_99, ll_9999, ne_m1, e_if, e_ret, e_rz0, e_rz1, e_rzb, e_call, bCallX_eq, nI_add, nI_mul, nI_succ1, le_i, lt_i, eq_i, m1_i, m1_le, m1_lt, m1_ge, m1_eq, ite_true, ite_false, if_true, if_false, sub_i]
theorem t_reach (hS : RoS s x) (hD : RoD s x ρ) (hI : rI ρ) (h1 : 0 < rN ρ) : fX3_reach x s = some (nI (rE ρ), s) := by
  unfold fX3_reach
  have := rL_b hI
  have : rK ρ ≤ rL ρ := by show rN ρ - 1 ≤ rL ρ; omega
  simp (disch := omega) only [xGIe hS.1 hD.2.2.2.1, t_knots hS hD h1, e_callV hS.1, li_0, li_1, li_2, li_3, li_4, li_5, li_6, li_7, li_8, li_9, li_10, li_11, li_12, li_13, li_14, li_15, li_16, li_17, li_20, li_24, li_25, li_29, li_31, li_32, li_33, li_37, li_40, li_41, li_48, li_49, li_50, li_56, li_57, li_59, li_60, li_61, li_62, li_63, li_70, li_73, li_85, li_97, li_98, li_99, li_100, li_101, li_102, li_103, li_104, li_105, li_107, li_108, li_109, li_110, li_111, li_112, li_114, li_115, li_116, li_117, li_118, li_119, li_121, li_122, li_140, li_193, li_200, li_240, li_255, li_289, li_290, li_300, li_302, li_314, li_326, li_860, li_880, li_900, li_999, li_1024, li_2801, li_3440, li_3441, li_3442, li_3443, li_3444, li_3447, li_3448, li_3449, li_3457, li_3465, li_3469, li_3473, li_3477, li_3501, li_3513, li_3525, li_3537, li_3633, li_3730, li_3742, li_3754, li_3766, li_4095, li_4096, li_4300, li_9011, li_9999, li_10000, li_36864, li_65536, li_1000000, ll_0, ll_1, ll_100, ll_11, ll_16, ll_20, ll_3, ll_32, ll_50, ll_8, ll_96, ll_99, ll_9999, ne_m1, e_if, e_ret, e_rz0, e_rz1, e_rzb, e_call, bCallX_eq, nI_add, nI_mul, nI_succ1, le_i, lt_i, eq_i, m1_i, m1_le, m1_lt, m1_ge, m1_eq, ite_true, ite_false, if_true, if_false, sub_i]
theorem t_oldest (hS : RoS s x) (hD : RoD s x ρ) (hI : rI ρ) : fX3_oldest x s = some (nI (rA ρ), s) := by
  unfold fX3_oldest
  have i1 := hI.1
  refine loop_n (fun m k => fX3_oldest_4 m x (nI (it (fun k n => max n (pA (rP ρ) k)) 0 k)) (nI k) s) _ (rN ρ) ?_ ?_ fu 0 (by omega) (by unfold fu; omega)
  · intro m k hk
    have hk' : ¬ rN ρ ≤ k := by omega
    have i2 := hI.2.1 k hk
    have i3 := rA_b' hI k (by omega)
    show fX3_oldest_4 (m + 1) x _ _ s = _
    rw [qX3_oldest_4]
    simp (disch := omega) only [xGIe hS.1 hD.2.2.1, xGR hS.1 hS.2.2.1, xAIe hS.2.2.2.2 (show k < 8 by omega) (by decide) (hD.2.2.2.2.2.2 k hk).2, li_0, li_1, li_2, li_3, li_4, li_5, li_6, li_7, li_8, li_9, li_10, li_11, li_12, li_13, li_14, li_15, li_16, li_17, li_20, li_24, li_25, li_29, li_31, li_32, li_33, li_37, li_40, li_41, li_48, li_49, li_50, li_56, li_57, li_59, li_60, li_61, li_62, li_63, li_70, li_73, li_85, li_97, li_98, li_99, li_100, li_101, li_102, li_103, li_104, li_105, li_107, li_108, li_109, li_110, li_111, li_112, li_114, li_115, li_116, li_117, li_118, li_119, li_121, li_122, li_140, li_193, li_200, li_240, li_255, li_289, li_290, li_300, li_302, li_314, li_326, li_860, li_880, li_900, li_999, li_1024, li_2801, li_3440, li_3441, li_3442, li_3443, li_3444, li_3447, li_3448, li_3449, li_3457, li_3465, li_3469, li_3473, li_3477, li_3501, li_3513, li_3525, li_3537, li_3633, li_3730, li_3742, li_3754, li_3766, li_4095, li_4096, li_4300, li_9011, li_9999, li_10000, li_36864, li_65536, li_1000000, ll_0, ll_1, ll_100, ll_11, ll_16, ll_20, ll_3, ll_32, ll_50, ll_8, ll_96, ll_99, ll_9999, ne_m1, e_if, e_ret, e_rz0, e_rz1, e_rzb, e_call, bCallX_eq, nI_add, nI_mul, nI_succ1, le_i, lt_i, eq_i, m1_i, m1_le, m1_lt, m1_ge, m1_eq, ite_true, ite_false, if_true, if_false, hk', jMax_i, it_s]
  · intro m
    show fX3_oldest_4 (m + 1) x _ _ s = _
    rw [qX3_oldest_4]
    simp (disch := omega) only [xGIe hS.1 hD.2.2.1, li_0, li_1, li_2, li_3, li_4, li_5, li_6, li_7, li_8, li_9, li_10, li_11, li_12, li_13, li_14, li_15, li_16, li_17, li_20, li_24, li_25, li_29, li_31, li_32, li_33, li_37, li_40, li_41, li_48, li_49, li_50, li_56, li_57, li_59, li_60, li_61, li_62, li_63, li_70, li_73, li_85, li_97, li_98, li_99, li_100, li_101, li_102, li_103, li_104, li_105, li_107, li_108, li_109, li_110, li_111, li_112, li_114, li_115, li_116, li_117, li_118, li_119, li_121, li_122, li_140, li_193, li_200, li_240, li_255, li_289, li_290, li_300, li_302, li_314, li_326, li_860, li_880, li_900, li_999, li_1024, li_2801, li_3440, li_3441, li_3442, li_3443, li_3444, li_3447, li_3448, li_3449, li_3457, li_3465, li_3469, li_3473, li_3477, li_3501, li_3513, li_3525, li_3537, li_3633, li_3730, li_3742, li_3754, li_3766, li_4095, li_4096, li_4300, li_9011, li_9999, li_10000, li_36864, li_65536, li_1000000, ll_0, ll_1, ll_100, ll_11, ll_16, ll_20, ll_3, ll_32, ll_50, ll_8, ll_96, ll_99, ll_9999, ne_m1, e_if, e_ret, e_rz0, e_rz1, e_rzb, e_call, bCallX_eq, nI_add, nI_mul, nI_succ1, le_i, lt_i, eq_i, m1_i, m1_le, m1_lt, m1_ge, m1_eq, ite_true, ite_false, if_true, if_false, Nat.le_refl]
    rfl
end ROPE

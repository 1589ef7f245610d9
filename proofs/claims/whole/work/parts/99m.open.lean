/-! THE TEXT OPENED, BOTH READERS -/
section OPEN
variable {v t : mS} {C : Nat → Nat} {N : Nat}
def opC (v : mS) (N : Nat) : mS := wI (wI (wI (wI v 106 1 (nI N)) 106 4 (nI 0)) 106 7 (nI 0)) 106 8 mI
theorem c_open (hS : CS v) (hN : N ≤ 900) (hC : ∀ k, k < N → sI v 3 k = xb (C k) ∧ C k < 256) : ∃ v', fX4_open 106 (nI N) v = some ((), v') ∧ FI (fun b => b = 106) v v' ∧ CG v' C N (sk C N 0) := by
  have hF : FI (fun b => b = 106) v (opC v N) := (((FI.w (A := fun b => b = 106) _ _ rfl).tr (FI.w (A := fun b => b = 106) _ _ rfl)).tr (FI.w (A := fun b => b = 106) _ _ rfl)).tr (FI.w (A := fun b => b = 106) _ _ rfl)
  have hSo : CS (opC v N) := hS.fi hF
  have h1 : sI (opC v N) 106 1 = nI N := by
    unfold opC
    rw [sI_wI_ne (Or.inr (by decide)), sI_wI_ne (Or.inr (by decide)), sI_wI_ne (Or.inr (by decide)), sI_wI_eq]
  have h4 : sI (opC v N) 106 4 = nI 0 := by
    unfold opC
    rw [sI_wI_ne (Or.inr (by decide)), sI_wI_ne (Or.inr (by decide)), sI_wI_eq]
  have h7 : sI (opC v N) 106 7 = nI 0 := by
    unfold opC
    rw [sI_wI_ne (Or.inr (by decide)), sI_wI_eq]
  have h8 : sI (opC v N) 106 8 = mI := sI_wI_eq _ _ _ _
  have hT : TC (opC v N) C N := ⟨hSo, h1, hN, by rw [hF.1 3 (by decide)]; exact hC⟩
  obtain ⟨w, e1, e2, e3⟩ := c_next hT (Nat.zero_le N) h4
  have hSw : CS w := hSo.fi e2.1
  refine ⟨w, ?_, hF.tr e2.1, ⟨hSw, by rw [e2.2 1 (by decide)]; exact h1, hN, by rw [e2.1.1 3 (by decide), hF.1 3 (by decide)]; exact hC⟩, e3, sk_le C (Nat.zero_le N), by rw [e2.2 7 (by decide)]; exact h7, by rw [e2.2 8 (by decide)]; exact h8⟩
  unfold fX4_open
  rw [xGR hS.k106 hS.p106, xLen hS.h3, jMin_i (by omega) (by decide), show min N 900 = N by omega, li_0, show (-1 : Int32) = mI from rfl, xPI hS.k106, xPI (s := wI v 106 1 (nI N)) hS.k106, xPI (s := wI (wI v 106 1 (nI N)) 106 4 (nI 0)) hS.k106, xPI (s := wI (wI (wI v 106 1 (nI N)) 106 4 (nI 0)) 106 7 (nI 0)) hS.k106]
  show bCallV 4 106 (fX4_next 106) (fun _ => bRet ()) (opC v N) = _
  rw [e_callV hSo.k106, x_call e1]
  rfl
def opX (t : mS) (N : Nat) : mS := wI (wI (wI (wI t 113 9 (nI N)) 113 8 (nI 0)) 113 16 (nI 0)) 113 12 (nI 0)
theorem x_opens (hT : RT t) (hN : N ≤ 900) {m : Nat} (h8 : sI t 113 8 = nI m) (hm : m ≤ 900) (hNm : N ≤ m) (hC : ∀ k, k < N → sI t 117 k = xb (C k) ∧ C k < 256) : ∃ t', fX9_opens 113 (nI N) (900 : Int32) t = some (nI 1, t') ∧ FI (fun b => b = 113) t (opX t N) ∧ F9 i14 l22 (opX t N) t' ∧ RG t' C N (sk C N 0) := by
  have hF : FI (fun b => b = 113) t (opX t N) := (((FI.w (A := fun b => b = 113) _ _ rfl).tr (FI.w (A := fun b => b = 113) _ _ rfl)).tr (FI.w (A := fun b => b = 113) _ _ rfl)).tr (FI.w (A := fun b => b = 113) _ _ rfl)
  have hTo : RT (opX t N) := hT.mv hF.2
  have h9 : sI (opX t N) 113 9 = nI N := by
    unfold opX
    rw [sI_wI_ne (Or.inr (by decide)), sI_wI_ne (Or.inr (by decide)), sI_wI_ne (Or.inr (by decide)), sI_wI_eq]
  have h16 : sI (opX t N) 113 16 = nI 0 := by
    unfold opX
    rw [sI_wI_ne (Or.inr (by decide)), sI_wI_eq]
  have h12 : sI (opX t N) 113 12 = nI 0 := sI_wI_eq _ _ _ _
  have hTR : TR (opX t N) C N := ⟨hTo, h9, hN, by rw [hF.1 117 (by decide)]; exact hC⟩
  obtain ⟨w, e1, e2, e3⟩ := x_next hTR (Nat.zero_le N) h16
  have hTw : RT w := hTo.f9 e2
  refine ⟨w, ?_, hF, e2, ⟨hTw, by rw [e2.I (by decide)]; exact h9, hN, by rw [(e2.1 117 (by decide)).1, hF.1 117 (by decide)]; exact hC⟩, e3, sk_le C (Nat.zero_le N), by rw [e2.I (by decide)]; exact h12⟩
  unfold fX9_opens
  rw [e_if, if_neg (by rw [li_0, lt_i (by omega) (by omega)]; omega), xGIe hT.k h8, e_if, if_neg (by rw [lt_i (by omega) (by omega)]; omega), e_if, if_pos (by rw [li_900, le_i (by omega) (by omega)]; omega), xPI hT.k, li_0, xPI (s := wI t 113 9 (nI N)) hT.k, xPI (s := wI (wI t 113 9 (nI N)) 113 8 (nI 0)) hT.k, xPI (s := wI (wI (wI t 113 9 (nI N)) 113 8 (nI 0)) 113 16 (nI 0)) hT.k]
  show bCallV 9 113 (fX9_next 113) (fun _ => bRetZ (1 : Int32)) (opX t N) = _
  rw [e_callV hTo.k, x_call e1]
  rfl
end OPEN

/-! THE CLASS READS A LAW: its first words -/
section CLAW
variable {v : mS} {C : Nat → Nat} {N a : Nat}
theorem CS.k111 (h : CS v) : (sH v 111).1 = 1 := h.2.2.2.2.2.2.1
theorem CS.p111 (h : CS v) : sP v 111 0 = 106 := h.2.2.2.2.2.2.2.1
theorem CS.q111 (h : CS v) : sP v 111 4 = 112 := h.2.2.2.2.2.2.2.2.1
theorem CS.h112 (h : CS v) : sH v 112 = (11, 300) := h.2.2.2.2.2.2.2.2.2
theorem c_factHere (h : CG v C N a) : fX1_factHere 111 v = some (oI (fq (fun k => wq C N a (5 + k)) 0 8), v) := by
  have hS := h.1.1
  unfold fX1_factHere
  rw [xGR hS.k111 hS.p111, e_callV hS.k106, x_call (c_isWord h (by decide)), e_if, fq_s]
  cases q0 : wq C N a 5 with
  | true =>
    rw [if_neg (by decide), if_pos rfl]
    rfl
  | false =>
    rw [if_pos (by decide), if_neg (by decide)]
    rw [xGR hS.k111 hS.p111, e_callV hS.k106, x_call (c_isWord h (by decide)), e_if, fq_s]
    cases q1 : wq C N a 6 with
    | true =>
      rw [if_neg (by decide), if_pos rfl]
      rfl
    | false =>
      rw [if_pos (by decide), if_neg (by decide)]
      rw [xGR hS.k111 hS.p111, e_callV hS.k106, x_call (c_isWord h (by decide)), e_if, fq_s]
      cases q2 : wq C N a 7 with
      | true =>
        rw [if_neg (by decide), if_pos rfl]
        rfl
      | false =>
        rw [if_pos (by decide), if_neg (by decide)]
        rw [xGR hS.k111 hS.p111, e_callV hS.k106, x_call (c_isWord h (by decide)), e_if, fq_s]
        cases q3 : wq C N a 8 with
        | true =>
          rw [if_neg (by decide), if_pos rfl]
          rfl
        | false =>
          rw [if_pos (by decide), if_neg (by decide)]
          rw [xGR hS.k111 hS.p111, e_callV hS.k106, x_call (c_isWord h (by decide)), e_if, fq_s]
          cases q4 : wq C N a 9 with
          | true =>
            rw [if_neg (by decide), if_pos rfl]
            rfl
          | false =>
            rw [if_pos (by decide), if_neg (by decide)]
            rw [xGR hS.k111 hS.p111, e_callV hS.k106, x_call (c_isWord h (by decide)), e_if, fq_s]
            cases q5 : wq C N a 10 with
            | true =>
              rw [if_neg (by decide), if_pos rfl]
              rfl
            | false =>
              rw [if_pos (by decide), if_neg (by decide)]
              rw [xGR hS.k111 hS.p111, e_callV hS.k106, x_call (c_isWord h (by decide)), e_if, fq_s]
              cases q6 : wq C N a 11 with
              | true =>
                rw [if_neg (by decide), if_pos rfl]
                rfl
              | false =>
                rw [if_pos (by decide), if_neg (by decide)]
                rw [xGR hS.k111 hS.p111, e_callV hS.k106, x_call (c_isWord h (by decide)), e_if, fq_s]
                cases q7 : wq C N a 12 with
                | true =>
                  rw [if_neg (by decide), if_pos rfl]
                  rfl
                | false =>
                  rw [if_pos (by decide), if_neg (by decide)]
                  rfl
theorem c_whomHere (h : CG v C N a) : fX1_whomHere 111 v = some (oI (fq (fun k => wq C N a (13 + k)) 0 5), v) := by
  have hS := h.1.1
  unfold fX1_whomHere
  rw [xGR hS.k111 hS.p111, e_callV hS.k106, x_call (c_isWord h (by decide)), e_if, fq_s]
  cases q0 : wq C N a 13 with
  | true =>
    rw [if_neg (by decide), if_pos rfl]
    rfl
  | false =>
    rw [if_pos (by decide), if_neg (by decide)]
    rw [xGR hS.k111 hS.p111, e_callV hS.k106, x_call (c_isWord h (by decide)), e_if, fq_s]
    cases q1 : wq C N a 14 with
    | true =>
      rw [if_neg (by decide), if_pos rfl]
      rfl
    | false =>
      rw [if_pos (by decide), if_neg (by decide)]
      rw [xGR hS.k111 hS.p111, e_callV hS.k106, x_call (c_isWord h (by decide)), e_if, fq_s]
      cases q2 : wq C N a 15 with
      | true =>
        rw [if_neg (by decide), if_pos rfl]
        rfl
      | false =>
        rw [if_pos (by decide), if_neg (by decide)]
        rw [xGR hS.k111 hS.p111, e_callV hS.k106, x_call (c_isWord h (by decide)), e_if, fq_s]
        cases q3 : wq C N a 16 with
        | true =>
          rw [if_neg (by decide), if_pos rfl]
          rfl
        | false =>
          rw [if_pos (by decide), if_neg (by decide)]
          rw [xGR hS.k111 hS.p111, e_callV hS.k106, x_call (c_isWord h (by decide)), e_if, fq_s]
          cases q4 : wq C N a 17 with
          | true =>
            rw [if_neg (by decide), if_pos rfl]
            rfl
          | false =>
            rw [if_pos (by decide), if_neg (by decide)]
            rfl
/-- a step is kept -/
def stS (v : mS) (j : Nat) (x : Int32) : mS := wI (wI v 112 j x) 111 3 (nI (j + 1))
theorem c_keepStep (hS : CS v) {j : Nat} (h3 : sI v 111 3 = nI j) (hj : j < 300) (x : Int32) : fX1_keepStep 111 x v = some ((), stS v j x) := by
  have hS1 : CS (wI v 112 j x) := hS.w
  have h31 : sI (wI v 112 j x) 111 3 = nI j := by rw [sI_wI_ne (Or.inl (by decide))]; exact h3
  unfold fX1_keepStep
  rw [xGIe hS.k111 h3, e_if, if_neg (by rw [li_300, le_i (by omega) (by omega)]; omega), xGR hS.k111 hS.q111, xGIe hS.k111 h3, xSI hS.h112 hj (by decide), xGIe hS1.k111 h31, nI_succ1, xPI hS1.k111]
  rfl
end CLAW

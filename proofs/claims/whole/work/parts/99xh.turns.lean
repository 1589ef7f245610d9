/-! ALL TURNS OF THE LAW -/
theorem Tn.up {W0 k : Nat} {s : mS} (h : Tn W0 k s) : Tn W0 (k + 1) s := by
  obtain ⟨D, h1, h2, h3, h4, h5⟩ := h
  have g1 : sZ s ≤ 124 + 50 * (k + 1) := by omega
  have g2 : sW s ≤ W0 + 5000 * (k + 1) := Nat.le_trans h5 (Nat.add_le_add_left (Nat.mul_le_mul_left 5000 (Nat.le_succ k)) W0)
  exact ⟨D, h1, h2, h3, g1, g2⟩
set_option maxHeartbeats 4000000 in
theorem lp_turn {v : mE} {n k W0 Zb Wb : Nat} {s : mS} (hq : Sc v (nI (6 * k))) (hc : ¬ (Int32.ofNat (eN v)) - (6 : Int32) < nI (6 * k)) (hs : Tn W0 k s) (hr : ∀ t, Tn W0 (k + 1) t → Lp Zb Wb (fL_law_18 v n 1 113 (nI (6 * k) + 6)) t) : Lp Zb Wb (fL_law_18 v (n + 1) 1 113 (nI (6 * k))) s := by
  have hq' := hq
  obtain ⟨a, q0, -⟩ := hq'
  unfold Lp
  rw [qL_law_18, e_if, if_neg hc, q0]
  refine lp_sw ?_ (hr s hs.up)
  refine List.forall_mem_cons.2 ⟨law_i0 s_status hs hr, ?_⟩
  refine List.forall_mem_cons.2 ⟨law_l0 s_top hs hr, ?_⟩
  refine List.forall_mem_cons.2 ⟨law_l0 s_bottom hs hr, ?_⟩
  refine List.forall_mem_cons.2 ⟨law_i3 hq (fun a b c => s_tray a b c) hs hr, ?_⟩
  refine List.forall_mem_cons.2 ⟨law_i4 hq (F := fun a b c d => fX8_write 1 a b (((Int32.toInt64 c) <<< (Int32.toInt64 (32 : Int32) &&& 63)) ||| ((Int32.toInt64 d) &&& (4294967295 : Int64)))) (R := fun a b c d => fX9_write 113 a b (((Int32.toInt64 c) <<< (Int32.toInt64 (32 : Int32) &&& 63)) ||| ((Int32.toInt64 d) &&& (4294967295 : Int64)))) (fun a b c d => s_write a b _) hs hr, ?_⟩
  refine List.forall_mem_cons.2 ⟨law_l2 hq (fun a b => s_read a b) hs hr, ?_⟩
  refine List.forall_mem_cons.2 ⟨law_i5 hq (fun a b c d e => s_pour a b c d e) hs hr, ?_⟩
  refine List.forall_mem_cons.2 ⟨law_i5 hq (fun a b c d e => s_feed a b c d e) hs hr, ?_⟩
  refine List.forall_mem_cons.2 ⟨law_i1 hq (fun a => s_well a) hs hr, ?_⟩
  refine List.forall_mem_cons.2 ⟨law_i1 hq (fun a => s_law a) hs hr, ?_⟩
  refine List.forall_mem_cons.2 ⟨law_i1 hq (fun a => s_fault a) hs hr, ?_⟩
  refine List.forall_mem_cons.2 ⟨law_i1 hq (fun a => s_many a) hs hr, ?_⟩
  refine List.forall_mem_cons.2 ⟨law_i2 hq (fun a b => s_person a b) hs hr, ?_⟩
  refine List.forall_mem_cons.2 ⟨law_i1 hq (fun a => s_heirs a) hs hr, ?_⟩
  refine List.forall_mem_cons.2 ⟨law_i2 hq (fun a b => s_rope a b) hs hr, ?_⟩
  refine List.forall_mem_cons.2 ⟨law_i3 hq (fun a b c => s_piece a b c) hs hr, ?_⟩
  refine List.forall_mem_cons.2 ⟨law_i1 hq (fun a => s_seed a) hs hr, ?_⟩
  refine List.forall_mem_cons.2 ⟨law_i1 hq (fun a => s_pass a) hs hr, ?_⟩
  refine List.forall_mem_cons.2 ⟨law_i1 hq (fun a => s_drinks a) hs hr, ?_⟩
  refine List.forall_mem_cons.2 ⟨law_i0 s_who hs hr, ?_⟩
  refine List.forall_mem_cons.2 ⟨law_i1 hq (fun a => s_depth a) hs hr, ?_⟩
  refine List.forall_mem_cons.2 ⟨law_i1 hq (fun a => s_whoThen a) hs hr, ?_⟩
  refine List.forall_mem_cons.2 ⟨law_i2 hq (fun a b => s_owner a b) hs hr, ?_⟩
  refine List.forall_mem_cons.2 ⟨law_i1 hq (fun a => s_thirst a) hs hr, ?_⟩
  refine List.forall_mem_cons.2 ⟨law_i1 hq (fun a => s_last a) hs hr, ?_⟩
  refine List.forall_mem_cons.2 ⟨law_i4 hq (fun a b c d => s_odds a b c d) hs hr, ?_⟩
  refine List.forall_mem_cons.2 ⟨law_i2 hq (fun a b => s_knot a b) hs hr, ?_⟩
  refine List.forall_mem_cons.2 ⟨law_i2 hq (fun a b => s_undo a b) hs hr, ?_⟩
  refine List.forall_mem_cons.2 ⟨law_i2 hq (fun a b => s_cut a b) hs hr, ?_⟩
  refine List.forall_mem_cons.2 ⟨law_i3 hq (fun a b c => s_sell a b c) hs hr, ?_⟩
  refine List.forall_mem_cons.2 ⟨law_i2 hq (fun a b => s_lend a b) hs hr, ?_⟩
  refine List.forall_mem_cons.2 ⟨law_i1 hq (fun a => s_takeBack a) hs hr, ?_⟩
  refine List.forall_mem_cons.2 ⟨law_i1 hq (fun a => s_dig a) hs hr, ?_⟩
  refine List.forall_mem_cons.2 ⟨law_i2 hq (fun a b => s_led a b) hs hr, ?_⟩
  refine List.forall_mem_cons.2 ⟨law_i1 hq (fun a => s_share a) hs hr, ?_⟩
  refine List.forall_mem_cons.2 ⟨law_i1 hq (fun a => s_heirloom a) hs hr, ?_⟩
  refine List.forall_mem_cons.2 ⟨law_i2 hq (fun a b => s_yardsOf a b) hs hr, ?_⟩
  refine List.forall_mem_cons.2 ⟨law_i0 s_needed hs hr, ?_⟩
  refine List.forall_mem_cons.2 ⟨law_i0 s_plan hs hr, ?_⟩
  refine List.forall_mem_cons.2 ⟨law_i1 hq (fun a => s_spread a) hs hr, ?_⟩
  refine List.forall_mem_cons.2 ⟨law_i1 hq (fun a => s_holds a) hs hr, ?_⟩
  refine List.forall_mem_cons.2 ⟨law_i1 hq (fun a => s_best a) hs hr, ?_⟩
  refine List.forall_mem_cons.2 ⟨law_i1 hq (fun a => s_drawing a) hs hr, ?_⟩
  refine List.forall_mem_cons.2 ⟨law_i2 hq (fun a b => s_waiting a b) hs hr, ?_⟩
  refine List.forall_mem_cons.2 ⟨law_i2 hq (fun a b => s_leastWaiting a b) hs hr, ?_⟩
  refine List.forall_mem_cons.2 ⟨law_i0 s_mark hs hr, ?_⟩
  refine List.forall_mem_cons.2 ⟨law_i0 s_back hs hr, ?_⟩
  exact fun q hq => absurd hq List.not_mem_nil
theorem lp_loop {v : mE} (hv : eN v ≤ 3072) {W0 Zb Wb : Nat} (hZ : 25724 ≤ Zb) (hW : W0 + 5000 * 512 ≤ Wb) : ∀ (n k : Nat) (s : mS), 512 < n + k → k ≤ 512 → Tn W0 k s → Lp Zb Wb (fL_law_18 v n 1 113 (nI (6 * k))) s := by
  intro n
  induction n with
  | zero => intro k s h hk; omega
  | succ n ih =>
    intro k s h hk hs
    by_cases hc : (Int32.ofNat (eN v)) - (6 : Int32) < nI (6 * k)
    · obtain ⟨D, h1, h2, h3, h4, h5⟩ := hs
      refine ⟨s, ?_, by omega, Nat.le_trans h5 (Nat.le_trans (Nat.add_le_add_left (Nat.mul_le_mul_left 5000 hk) W0) hW)⟩
      rw [qL_law_18, e_if, if_pos hc]
      rfl
    · have h6 : 6 * k + 6 ≤ eN v := by
        by_cases h6 : 6 ≤ eN v
        · have e : (Int32.ofNat (eN v)) - (6 : Int32) = nI (eN v - 6) := by
            rw [li_6]
            exact sub_i h6
          rw [e, lt_i (by omega) (by omega)] at hc
          omega
        · exfalso
          apply hc
          have key : ∀ e, e < 6 → (Int32.ofNat e - (6 : Int32)).toInt < 0 := by decide
          have h0 := key (eN v) (by omega)
          rw [Int32.lt_iff_toInt_lt, nI_toInt (by omega)]
          omega
      refine lp_turn (sc_ok h6 hv) hc hs (fun t ht => ?_)
      rw [li_6, nI_add, show 6 * k + 6 = 6 * (k + 1) by omega]
      exact ih (k + 1) t (by omega) (by omega) ht

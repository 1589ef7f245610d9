theorem dJ7_fill_d0a16_0 : decode cJ7_fill_d0a16 0 = .ok (.iconst 0, 1) := by decide +kernel
theorem dJ7_fill_d0a16_1 : decode cJ7_fill_d0a16 1 = .ok (.istore_n 3, 1) := by decide +kernel
theorem dJ7_fill_d0a16_2 : decode cJ7_fill_d0a16 2 = .ok (.aload_n 0, 1) := by decide +kernel
theorem dJ7_fill_d0a16_3 : decode cJ7_fill_d0a16 3 = .ok (.arraylength, 1) := by decide +kernel
theorem dJ7_fill_d0a16_4 : decode cJ7_fill_d0a16 4 = .ok (.istore 4, 2) := by decide +kernel
theorem dJ7_fill_d0a16_6 : decode cJ7_fill_d0a16 6 = .ok (.iload_n 3, 1) := by decide +kernel
theorem dJ7_fill_d0a16_7 : decode cJ7_fill_d0a16 7 = .ok (.iload 4, 2) := by decide +kernel
theorem dJ7_fill_d0a16_9 : decode cJ7_fill_d0a16 9 = .ok (.if_icmp .ge 13, 3) := by decide +kernel
theorem dJ7_fill_d0a16_12 : decode cJ7_fill_d0a16 12 = .ok (.aload_n 0, 1) := by decide +kernel
theorem dJ7_fill_d0a16_13 : decode cJ7_fill_d0a16 13 = .ok (.iload_n 3, 1) := by decide +kernel
theorem dJ7_fill_d0a16_14 : decode cJ7_fill_d0a16 14 = .ok (.lload_n 1, 1) := by decide +kernel
theorem dJ7_fill_d0a16_15 : decode cJ7_fill_d0a16 15 = .ok (.lastore, 1) := by decide +kernel
theorem dJ7_fill_d0a16_16 : decode cJ7_fill_d0a16 16 = .ok (.iinc 3 1, 3) := by decide +kernel
theorem dJ7_fill_d0a16_19 : decode cJ7_fill_d0a16 19 = .ok (.goto (-13), 3) := by decide +kernel
theorem dJ7_fill_d0a16_22 : decode cJ7_fill_d0a16 22 = .ok (.return_, 1) := by decide +kernel
def fJ7_fill_d0a16_6 : Nat → Nat → Int64 → Int32 → Int32 → mM Unit
  | 0 => fun _ _ _ _ => fun _ => none
  | n + 1 => fun l0 l1 l3 l4 => let r6 := fJ7_fill_d0a16_6 n; bIf (l4 ≤ l3) (bRet ()) (bSL l0 l3 l1 (r6 l0 l1 (l3 + 1) l4))
set_option maxRecDepth 20000 in
theorem rJ7_fill_d0a16_6 (v : mE) (d : Nat) : ∀ (n : Nat) (l0 : Nat) (l1 : Int64) (l3 : Int32) (l4 : Int32), Rz v RJ7 cJ7_fill_d0a16 5 none false emU (d + 0) 6 [(0, vR l0), (1, vL l1), (3, vI l3), (4, vI l4)] [] (fJ7_fill_d0a16_6 n l0 l1 l3 l4)
  | 0, _, _, _, _ => fun _ _ _ hm => by cases hm
  | n + 1, l0, l1, l3, l4 => by
    have h6 := rJ7_fill_d0a16_6 v d n
    unfold fJ7_fill_d0a16_6
    generalize fJ7_fill_d0a16_6 n = r6 at h6 ⊢
    refine rz_iload_n 7 2 dJ7_fill_d0a16_6 rfl rfl ?_
    refine rz_iload 9 3 dJ7_fill_d0a16_7 rfl rfl ?_
    refine rz_icmp_ge 22 12 dJ7_fill_d0a16_9 rfl rfl ?_ ?_
    · exact rz_return rfl rfl dJ7_fill_d0a16_22
    · refine rz_aload_n 13 0 dJ7_fill_d0a16_12 rfl rfl ?_
      refine rz_iload_n 14 2 dJ7_fill_d0a16_13 rfl rfl ?_
      refine rz_lload_n 15 1 dJ7_fill_d0a16_14 rfl rfl ?_
      refine rz_last 16 dJ7_fill_d0a16_15 rfl ?_
      refine rz_iinc (lv' := [(3, vI (l3 + 1)), (0, vR l0), (1, vL l1), (4, vI l4)]) 19 2 dJ7_fill_d0a16_16 rfl rfl (cn_1 _) rfl rfl ?_
      refine rz_goto 6 dJ7_fill_d0a16_19 rfl ?_
      exact rz_sub [1, 2, 0, 3] rfl (h6 l0 l1 (l3 + 1) l4)
def fJ7_fill_d0a16 (l0 : Nat) (l1 : Int64) : mM Unit := bLen 12 l0 (fun x1 => fJ7_fill_d0a16_6 fu l0 l1 0 x1)
set_option maxRecDepth 20000 in
theorem rJ7_fill_d0a16 (v : mE) (d : Nat) (l0 : Nat) (l1 : Int64) : Rz v RJ7 cJ7_fill_d0a16 5 none false emU (d + 0) 0 [(0, vR l0), (1, vL l1)] [] (fJ7_fill_d0a16 l0 l1) := by
  unfold fJ7_fill_d0a16
  refine rz_iconst 1 dJ7_fill_d0a16_0 rfl ci_0 ?_
  refine rz_istore_n (lv' := [(3, vI 0), (0, vR l0), (1, vL l1)]) 2 dJ7_fill_d0a16_1 rfl rfl rfl ?_
  refine rz_aload_n 3 1 dJ7_fill_d0a16_2 rfl rfl ?_
  refine rz_alenL 4 dJ7_fill_d0a16_3 rfl (fun x1 => ?_)
  refine rz_istore (lv' := [(4, vI x1), (3, vI 0), (0, vR l0), (1, vL l1)]) 6 dJ7_fill_d0a16_4 rfl rfl rfl ?_
  exact rz_sub [2, 3, 1, 0] rfl (rJ7_fill_d0a16_6 v d fu l0 l1 0 x1)
theorem tJ7_fill_d0a16 (v : mE) (d : Nat) (l0 : Nat) (l1 : Int64) : Mt v yJ7_fill_d0a16 cJ7_fill_d0a16 5 none emU (d + 0) [vR l0, vL l1] (fJ7_fill_d0a16 l0 l1) := mt_of rfl rfl (fun h => by cases h) rfl rfl (rJ7_fill_d0a16 v d l0 l1)
theorem dJ7_fill_53178_0 : decode cJ7_fill_53178 0 = .ok (.iconst 0, 1) := by decide +kernel
theorem dJ7_fill_53178_1 : decode cJ7_fill_53178 1 = .ok (.istore_n 2, 1) := by decide +kernel
theorem dJ7_fill_53178_2 : decode cJ7_fill_53178 2 = .ok (.aload_n 0, 1) := by decide +kernel
theorem dJ7_fill_53178_3 : decode cJ7_fill_53178 3 = .ok (.arraylength, 1) := by decide +kernel
theorem dJ7_fill_53178_4 : decode cJ7_fill_53178 4 = .ok (.istore_n 3, 1) := by decide +kernel
theorem dJ7_fill_53178_5 : decode cJ7_fill_53178 5 = .ok (.iload_n 2, 1) := by decide +kernel
theorem dJ7_fill_53178_6 : decode cJ7_fill_53178 6 = .ok (.iload_n 3, 1) := by decide +kernel
theorem dJ7_fill_53178_7 : decode cJ7_fill_53178 7 = .ok (.if_icmp .ge 13, 3) := by decide +kernel
theorem dJ7_fill_53178_10 : decode cJ7_fill_53178 10 = .ok (.aload_n 0, 1) := by decide +kernel
theorem dJ7_fill_53178_11 : decode cJ7_fill_53178 11 = .ok (.iload_n 2, 1) := by decide +kernel
theorem dJ7_fill_53178_12 : decode cJ7_fill_53178 12 = .ok (.iload_n 1, 1) := by decide +kernel
theorem dJ7_fill_53178_13 : decode cJ7_fill_53178 13 = .ok (.iastore, 1) := by decide +kernel
theorem dJ7_fill_53178_14 : decode cJ7_fill_53178 14 = .ok (.iinc 2 1, 3) := by decide +kernel
theorem dJ7_fill_53178_17 : decode cJ7_fill_53178 17 = .ok (.goto (-12), 3) := by decide +kernel
theorem dJ7_fill_53178_20 : decode cJ7_fill_53178 20 = .ok (.return_, 1) := by decide +kernel
def fJ7_fill_53178_5 : Nat → Nat → Int32 → Int32 → Int32 → mM Unit
  | 0 => fun _ _ _ _ => fun _ => none
  | n + 1 => fun l0 l1 l2 l3 => let r5 := fJ7_fill_53178_5 n; bIf (l3 ≤ l2) (bRet ()) (bSI l0 l2 l1 (r5 l0 l1 (l2 + 1) l3))
set_option maxRecDepth 20000 in
theorem rJ7_fill_53178_5 (v : mE) (d : Nat) : ∀ (n : Nat) (l0 : Nat) (l1 : Int32) (l2 : Int32) (l3 : Int32), Rz v RJ7 cJ7_fill_53178 4 none false emU (d + 0) 5 [(0, vR l0), (1, vI l1), (2, vI l2), (3, vI l3)] [] (fJ7_fill_53178_5 n l0 l1 l2 l3)
  | 0, _, _, _, _ => fun _ _ _ hm => by cases hm
  | n + 1, l0, l1, l2, l3 => by
    have h5 := rJ7_fill_53178_5 v d n
    unfold fJ7_fill_53178_5
    generalize fJ7_fill_53178_5 n = r5 at h5 ⊢
    refine rz_iload_n 6 2 dJ7_fill_53178_5 rfl rfl ?_
    refine rz_iload_n 7 3 dJ7_fill_53178_6 rfl rfl ?_
    refine rz_icmp_ge 20 10 dJ7_fill_53178_7 rfl rfl ?_ ?_
    · exact rz_return rfl rfl dJ7_fill_53178_20
    · refine rz_aload_n 11 0 dJ7_fill_53178_10 rfl rfl ?_
      refine rz_iload_n 12 2 dJ7_fill_53178_11 rfl rfl ?_
      refine rz_iload_n 13 1 dJ7_fill_53178_12 rfl rfl ?_
      refine rz_iast 14 dJ7_fill_53178_13 rfl ?_
      refine rz_iinc (lv' := [(2, vI (l2 + 1)), (0, vR l0), (1, vI l1), (3, vI l3)]) 17 2 dJ7_fill_53178_14 rfl rfl (cn_1 _) rfl rfl ?_
      refine rz_goto 5 dJ7_fill_53178_17 rfl ?_
      exact rz_sub [1, 2, 0, 3] rfl (h5 l0 l1 (l2 + 1) l3)
def fJ7_fill_53178 (l0 : Nat) (l1 : Int32) : mM Unit := bLen 11 l0 (fun x1 => fJ7_fill_53178_5 fu l0 l1 0 x1)
set_option maxRecDepth 20000 in
theorem rJ7_fill_53178 (v : mE) (d : Nat) (l0 : Nat) (l1 : Int32) : Rz v RJ7 cJ7_fill_53178 4 none false emU (d + 0) 0 [(0, vR l0), (1, vI l1)] [] (fJ7_fill_53178 l0 l1) := by
  unfold fJ7_fill_53178
  refine rz_iconst 1 dJ7_fill_53178_0 rfl ci_0 ?_
  refine rz_istore_n (lv' := [(2, vI 0), (0, vR l0), (1, vI l1)]) 2 dJ7_fill_53178_1 rfl rfl rfl ?_
  refine rz_aload_n 3 1 dJ7_fill_53178_2 rfl rfl ?_
  refine rz_alen 4 dJ7_fill_53178_3 rfl (by decide) (fun x1 => ?_)
  refine rz_istore_n (lv' := [(3, vI x1), (2, vI 0), (0, vR l0), (1, vI l1)]) 5 dJ7_fill_53178_4 rfl rfl rfl ?_
  exact rz_sub [2, 3, 1, 0] rfl (rJ7_fill_53178_5 v d fu l0 l1 0 x1)
theorem tJ7_fill_53178 (v : mE) (d : Nat) (l0 : Nat) (l1 : Int32) : Mt v yJ7_fill_53178 cJ7_fill_53178 4 none emU (d + 0) [vR l0, vI l1] (fJ7_fill_53178 l0 l1) := mt_of rfl rfl (fun h => by cases h) rfl rfl (rJ7_fill_53178 v d l0 l1)
theorem dJ7_copyOf_59c91_0 : decode cJ7_copyOf_59c91 0 = .ok (.iload_n 1, 1) := by decide +kernel
theorem dJ7_copyOf_59c91_1 : decode cJ7_copyOf_59c91 1 = .ok (.aload_n 0, 1) := by decide +kernel
theorem dJ7_copyOf_59c91_2 : decode cJ7_copyOf_59c91 2 = .ok (.arraylength, 1) := by decide +kernel
theorem dJ7_copyOf_59c91_3 : decode cJ7_copyOf_59c91 3 = .ok (.if_icmp .ne 11, 3) := by decide +kernel
theorem dJ7_copyOf_59c91_6 : decode cJ7_copyOf_59c91 6 = .ok (.aload_n 0, 1) := by decide +kernel
theorem dJ7_copyOf_59c91_7 : decode cJ7_copyOf_59c91 7 = .ok (.invokevirtual 316, 3) := by decide +kernel
theorem dJ7_copyOf_59c91_14 : decode cJ7_copyOf_59c91 14 = .ok (.iload_n 1, 1) := by decide +kernel
theorem dJ7_copyOf_59c91_15 : decode cJ7_copyOf_59c91 15 = .ok (.newarray .int, 2) := by decide +kernel
theorem dJ7_copyOf_59c91_17 : decode cJ7_copyOf_59c91 17 = .ok (.astore_n 2, 1) := by decide +kernel
theorem dJ7_copyOf_59c91_18 : decode cJ7_copyOf_59c91 18 = .ok (.aload_n 0, 1) := by decide +kernel
theorem dJ7_copyOf_59c91_19 : decode cJ7_copyOf_59c91 19 = .ok (.iconst 0, 1) := by decide +kernel
theorem dJ7_copyOf_59c91_20 : decode cJ7_copyOf_59c91 20 = .ok (.aload_n 2, 1) := by decide +kernel
theorem dJ7_copyOf_59c91_21 : decode cJ7_copyOf_59c91 21 = .ok (.iconst 0, 1) := by decide +kernel
theorem dJ7_copyOf_59c91_22 : decode cJ7_copyOf_59c91 22 = .ok (.aload_n 0, 1) := by decide +kernel
theorem dJ7_copyOf_59c91_23 : decode cJ7_copyOf_59c91 23 = .ok (.arraylength, 1) := by decide +kernel
theorem dJ7_copyOf_59c91_24 : decode cJ7_copyOf_59c91 24 = .ok (.iload_n 1, 1) := by decide +kernel
theorem dJ7_copyOf_59c91_25 : decode cJ7_copyOf_59c91 25 = .ok (.invokestatic 304, 3) := by decide +kernel
theorem dJ7_copyOf_59c91_28 : decode cJ7_copyOf_59c91 28 = .ok (.invokestatic 150, 3) := by decide +kernel
theorem dJ7_copyOf_59c91_31 : decode cJ7_copyOf_59c91 31 = .ok (.aload_n 2, 1) := by decide +kernel
theorem dJ7_copyOf_59c91_32 : decode cJ7_copyOf_59c91 32 = .ok (.areturn, 1) := by decide +kernel
def fJ7_copyOf_59c91 (l0 : Nat) (l1 : Int32) : mM Nat := bLen 11 l0 (fun x1 => bIf (l1 = x1) (bFail) (bNa 11 l1 (fun x2 => bLen 11 l0 (fun x3 => bCpI l0 0 x2 0 (jMin x3 l1) (bRet x2)))))
set_option maxRecDepth 20000 in
theorem rJ7_copyOf_59c91 (v : mE) (d : Nat) (l0 : Nat) (l1 : Int32) : Rz v RJ7 cJ7_copyOf_59c91 3 (some (.array .int)) false emR (d + 1) 0 [(0, vR l0), (1, vI l1)] [] (fJ7_copyOf_59c91 l0 l1) := by
  unfold fJ7_copyOf_59c91
  refine rz_iload_n 1 1 dJ7_copyOf_59c91_0 rfl rfl ?_
  refine rz_aload_n 2 0 dJ7_copyOf_59c91_1 rfl rfl ?_
  refine rz_alen 3 dJ7_copyOf_59c91_2 rfl (by decide) (fun x1 => ?_)
  refine rz_icmp_ne 14 6 dJ7_copyOf_59c91_3 rfl rfl ?_ ?_
  · refine rz_iload_n 15 1 dJ7_copyOf_59c91_14 rfl rfl ?_
    refine rz_newa 17 dJ7_copyOf_59c91_15 rfl (by decide) ac_int (fun x2 => ?_)
    refine rz_astore_n (lv' := [(2, vR x2), (0, vR l0), (1, vI l1)]) 18 dJ7_copyOf_59c91_17 rfl rfl rfl ?_
    refine rz_aload_n 19 1 dJ7_copyOf_59c91_18 rfl rfl ?_
    refine rz_iconst 20 dJ7_copyOf_59c91_19 rfl ci_0 ?_
    refine rz_aload_n 21 0 dJ7_copyOf_59c91_20 rfl rfl ?_
    refine rz_iconst 22 dJ7_copyOf_59c91_21 rfl ci_0 ?_
    refine rz_aload_n 23 1 dJ7_copyOf_59c91_22 rfl rfl ?_
    refine rz_alen 24 dJ7_copyOf_59c91_23 rfl (by decide) (fun x3 => ?_)
    refine rz_iload_n 25 2 dJ7_copyOf_59c91_24 rfl rfl ?_
    refine rz_mmin 28 dJ7_copyOf_59c91_25 rfl ml_J7_304 rfl rfl ?_
    refine rz_copyI 31 dJ7_copyOf_59c91_28 rfl ml_J7_150 rfl rfl ?_
    refine rz_aload_n 32 0 dJ7_copyOf_59c91_31 rfl rfl ?_
    exact rz_areturn rfl (by first | exact Or.inl ⟨_, rfl⟩ | exact Or.inr ⟨_, rfl⟩) rfl dJ7_copyOf_59c91_32
  · refine rz_aload_n 7 0 dJ7_copyOf_59c91_6 rfl rfl ?_
    exact rz_fail
theorem tJ7_copyOf_59c91 (v : mE) (d : Nat) (l0 : Nat) (l1 : Int32) : Mt v yJ7_copyOf_59c91 cJ7_copyOf_59c91 3 (some (.array .int)) emR (d + 1) [vR l0, vI l1] (fJ7_copyOf_59c91 l0 l1) := mt_of rfl rfl (fun h => by cases h) rfl rfl (rJ7_copyOf_59c91 v d l0 l1)

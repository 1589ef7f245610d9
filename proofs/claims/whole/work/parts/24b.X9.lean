theorem dX9_named_0 : decode cX9_named 0 = .ok (.iconst 0, 1) := by decide +kernel
theorem dX9_named_1 : decode cX9_named 1 = .ok (.istore_n 3, 1) := by decide +kernel
theorem dX9_named_2 : decode cX9_named 2 = .ok (.iload_n 3, 1) := by decide +kernel
theorem dX9_named_3 : decode cX9_named 3 = .ok (.iload_n 2, 1) := by decide +kernel
theorem dX9_named_4 : decode cX9_named 4 = .ok (.if_icmp .ge 30, 3) := by decide +kernel
theorem dX9_named_7 : decode cX9_named 7 = .ok (.aload_n 0, 1) := by decide +kernel
theorem dX9_named_8 : decode cX9_named 8 = .ok (.getfield 41, 3) := by decide +kernel
theorem dX9_named_11 : decode cX9_named 11 = .ok (.bipush 56, 2) := by decide +kernel
theorem dX9_named_13 : decode cX9_named 13 = .ok (.iload_n 1, 1) := by decide +kernel
theorem dX9_named_14 : decode cX9_named 14 = .ok (.iadd, 1) := by decide +kernel
theorem dX9_named_15 : decode cX9_named 15 = .ok (.iload_n 3, 1) := by decide +kernel
theorem dX9_named_16 : decode cX9_named 16 = .ok (.iadd, 1) := by decide +kernel
theorem dX9_named_17 : decode cX9_named 17 = .ok (.laload, 1) := by decide +kernel
theorem dX9_named_18 : decode cX9_named 18 = .ok (.aload_n 0, 1) := by decide +kernel
theorem dX9_named_19 : decode cX9_named 19 = .ok (.getfield 119, 3) := by decide +kernel
theorem dX9_named_22 : decode cX9_named 22 = .ok (.lcmp, 1) := by decide +kernel
theorem dX9_named_23 : decode cX9_named 23 = .ok (.ifCond .ne 5, 3) := by decide +kernel
theorem dX9_named_26 : decode cX9_named 26 = .ok (.iload_n 3, 1) := by decide +kernel
theorem dX9_named_27 : decode cX9_named 27 = .ok (.ireturn, 1) := by decide +kernel
theorem dX9_named_28 : decode cX9_named 28 = .ok (.iinc 3 1, 3) := by decide +kernel
theorem dX9_named_31 : decode cX9_named 31 = .ok (.goto (-29), 3) := by decide +kernel
theorem dX9_named_34 : decode cX9_named 34 = .ok (.iconst (-1), 1) := by decide +kernel
theorem dX9_named_35 : decode cX9_named 35 = .ok (.ireturn, 1) := by decide +kernel
def fX9_named_2 : Nat → Nat → Int32 → Int32 → Int32 → mM Int32
  | 0 => fun _ _ _ _ => fun _ => none
  | n + 1 => fun l0 l1 l2 l3 => let r2 := fX9_named_2 n; bIf (l2 ≤ l3) (bRet (-1 : Int32)) (bGR 9 l0 26 (fun x1 => bAL x1 (((56 : Int32) + l1) + l3) (fun x2 => bGL 9 l0 22 (fun x3 => bIf ((lg_cmp x2 x3) = 0) (bRet l3) (r2 l0 l1 l2 (l3 + 1))))))
theorem qX9_named_2  (n : Nat) (l0 : Nat) (l1 : Int32) (l2 : Int32) (l3 : Int32) : fX9_named_2 (n + 1) l0 l1 l2 l3 = bIf (l2 ≤ l3) (bRet (-1 : Int32)) (bGR 9 l0 26 (fun x1 => bAL x1 (((56 : Int32) + l1) + l3) (fun x2 => bGL 9 l0 22 (fun x3 => bIf ((lg_cmp x2 x3) = 0) (bRet l3) ((fX9_named_2 n) l0 l1 l2 (l3 + 1)))))) := rfl
set_option maxRecDepth 20000 in
theorem rX9_named_2 (v : mE) (d : Nat) : ∀ (n : Nat) (l0 : Nat) (l1 : Int32) (l2 : Int32) (l3 : Int32), Rz v RX9 cX9_named 4 (some .int) false emI (d + 0) 2 [(0, vR l0), (1, vI l1), (2, vI l2), (3, vI l3)] [] (fX9_named_2 n l0 l1 l2 l3)
  | 0, _, _, _, _ => fun _ _ _ hm => by cases hm
  | n + 1, l0, l1, l2, l3 => by
    have h2 := rX9_named_2 v d n
    unfold fX9_named_2
    generalize fX9_named_2 n = r2 at h2 ⊢
    refine rz_iload_n 3 3 dX9_named_2 rfl rfl ?_
    refine rz_iload_n 4 2 dX9_named_3 rfl rfl ?_
    refine rz_icmp_ge 34 7 dX9_named_4 rfl rfl ?_ ?_
    · refine rz_iconst 35 dX9_named_34 rfl ci_m1 ?_
      exact rz_ireturn rfl rfl dX9_named_35
    · refine rz_aload_n 8 0 dX9_named_7 rfl rfl ?_
      refine rz_gR 11 dX9_named_8 rfl rfl fl_X9_41 (fun x1 => ?_)
      refine rz_bipush 13 dX9_named_11 rfl cb_56 ?_
      refine rz_iload_n 14 1 dX9_named_13 rfl rfl ?_
      refine rz_iadd 15 dX9_named_14 rfl ?_
      refine rz_iload_n 16 3 dX9_named_15 rfl rfl ?_
      refine rz_iadd 17 dX9_named_16 rfl ?_
      refine rz_lald 18 dX9_named_17 rfl (fun x2 => ?_)
      refine rz_aload_n 19 0 dX9_named_18 rfl rfl ?_
      refine rz_gL 22 dX9_named_19 rfl rfl fl_X9_119 (fun x3 => ?_)
      refine rz_lcmp 23 dX9_named_22 rfl ?_
      refine rz_if_ne 28 26 dX9_named_23 rfl rfl ?_ ?_
      · refine rz_iinc (lv' := [(3, vI (l3 + 1)), (0, vR l0), (1, vI l1), (2, vI l2)]) 31 3 dX9_named_28 rfl rfl (cn_1 _) rfl rfl ?_
        refine rz_goto 2 dX9_named_31 rfl ?_
        exact rz_sub [1, 2, 3, 0] rfl (h2 l0 l1 l2 (l3 + 1))
      · refine rz_iload_n 27 3 dX9_named_26 rfl rfl ?_
        exact rz_ireturn rfl rfl dX9_named_27
def fX9_named (l0 : Nat) (l1 : Int32) (l2 : Int32) : mM Int32 := fX9_named_2 fu l0 l1 l2 (0 : Int32)
set_option maxRecDepth 20000 in
theorem rX9_named (v : mE) (d : Nat) (l0 : Nat) (l1 : Int32) (l2 : Int32) : Rz v RX9 cX9_named 4 (some .int) false emI (d + 0) 0 [(0, vR l0), (1, vI l1), (2, vI l2)] [] (fX9_named l0 l1 l2) := by
  unfold fX9_named
  refine rz_iconst 1 dX9_named_0 rfl ci_0 ?_
  refine rz_istore_n (lv' := [(3, vI (0 : Int32)), (0, vR l0), (1, vI l1), (2, vI l2)]) 2 dX9_named_1 rfl rfl rfl ?_
  exact rz_sub [1, 2, 3, 0] rfl (rX9_named_2 v d fu l0 l1 l2 (0 : Int32))
theorem tX9_named (v : mE) (d : Nat) (l0 : Nat) (l1 : Int32) (l2 : Int32) : Mt v yX9_named cX9_named 4 (some .int) emI (d + 0) [vR l0, vI l1, vI l2] (fX9_named l0 l1 l2) := mt_of rfl rfl (fun h => by cases h) rfl rfl (rX9_named v d l0 l1 l2)
theorem dX9_readNew_0 : decode cX9_readNew 0 = .ok (.aload_n 0, 1) := by decide +kernel
theorem dX9_readNew_1 : decode cX9_readNew 1 = .ok (.invokevirtual 231, 3) := by decide +kernel
theorem dX9_readNew_4 : decode cX9_readNew 4 = .ok (.aload_n 0, 1) := by decide +kernel
theorem dX9_readNew_5 : decode cX9_readNew 5 = .ok (.invokevirtual 243, 3) := by decide +kernel
theorem dX9_readNew_8 : decode cX9_readNew 8 = .ok (.ifCond .ne 7, 3) := by decide +kernel
theorem dX9_readNew_11 : decode cX9_readNew 11 = .ok (.aload_n 0, 1) := by decide +kernel
theorem dX9_readNew_12 : decode cX9_readNew 12 = .ok (.invokevirtual 234, 3) := by decide +kernel
theorem dX9_readNew_15 : decode cX9_readNew 15 = .ok (.aload_n 0, 1) := by decide +kernel
theorem dX9_readNew_16 : decode cX9_readNew 16 = .ok (.getfield 221, 3) := by decide +kernel
theorem dX9_readNew_19 : decode cX9_readNew 19 = .ok (.ifCond .ne 41, 3) := by decide +kernel
theorem dX9_readNew_22 : decode cX9_readNew 22 = .ok (.aload_n 0, 1) := by decide +kernel
theorem dX9_readNew_23 : decode cX9_readNew 23 = .ok (.iconst 0, 1) := by decide +kernel
theorem dX9_readNew_24 : decode cX9_readNew 24 = .ok (.aload_n 0, 1) := by decide +kernel
theorem dX9_readNew_25 : decode cX9_readNew 25 = .ok (.getfield 35, 3) := by decide +kernel
theorem dX9_readNew_28 : decode cX9_readNew 28 = .ok (.sipush 3447, 3) := by decide +kernel
theorem dX9_readNew_31 : decode cX9_readNew 31 = .ok (.iaload, 1) := by decide +kernel
theorem dX9_readNew_32 : decode cX9_readNew 32 = .ok (.invokevirtual 246, 3) := by decide +kernel
theorem dX9_readNew_35 : decode cX9_readNew 35 = .ok (.ifCond .ge 16, 3) := by decide +kernel
theorem dX9_readNew_38 : decode cX9_readNew 38 = .ok (.aload_n 0, 1) := by decide +kernel
theorem dX9_readNew_39 : decode cX9_readNew 39 = .ok (.bipush 8, 2) := by decide +kernel
theorem dX9_readNew_41 : decode cX9_readNew 41 = .ok (.aload_n 0, 1) := by decide +kernel
theorem dX9_readNew_42 : decode cX9_readNew 42 = .ok (.getfield 249, 3) := by decide +kernel
theorem dX9_readNew_45 : decode cX9_readNew 45 = .ok (.invokevirtual 246, 3) := by decide +kernel
theorem dX9_readNew_48 : decode cX9_readNew 48 = .ok (.ifCond .lt 12, 3) := by decide +kernel
theorem dX9_readNew_51 : decode cX9_readNew 51 = .ok (.aload_n 0, 1) := by decide +kernel
theorem dX9_readNew_52 : decode cX9_readNew 52 = .ok (.iconst 3, 1) := by decide +kernel
theorem dX9_readNew_53 : decode cX9_readNew 53 = .ok (.aload_n 0, 1) := by decide +kernel
theorem dX9_readNew_54 : decode cX9_readNew 54 = .ok (.getfield 107, 3) := by decide +kernel
theorem dX9_readNew_57 : decode cX9_readNew 57 = .ok (.invokevirtual 227, 3) := by decide +kernel
theorem dX9_readNew_60 : decode cX9_readNew 60 = .ok (.aload_n 0, 1) := by decide +kernel
theorem dX9_readNew_61 : decode cX9_readNew 61 = .ok (.getfield 221, 3) := by decide +kernel
theorem dX9_readNew_64 : decode cX9_readNew 64 = .ok (.ifCond .le 4, 3) := by decide +kernel
theorem dX9_readNew_67 : decode cX9_readNew 67 = .ok (.return_, 1) := by decide +kernel
theorem dX9_readNew_68 : decode cX9_readNew 68 = .ok (.aload_n 0, 1) := by decide +kernel
theorem dX9_readNew_69 : decode cX9_readNew 69 = .ok (.getfield 41, 3) := by decide +kernel
theorem dX9_readNew_72 : decode cX9_readNew 72 = .ok (.bipush 56, 2) := by decide +kernel
theorem dX9_readNew_74 : decode cX9_readNew 74 = .ok (.iload_n 1, 1) := by decide +kernel
theorem dX9_readNew_75 : decode cX9_readNew 75 = .ok (.iadd, 1) := by decide +kernel
theorem dX9_readNew_76 : decode cX9_readNew 76 = .ok (.iload_n 2, 1) := by decide +kernel
theorem dX9_readNew_77 : decode cX9_readNew 77 = .ok (.iadd, 1) := by decide +kernel
theorem dX9_readNew_78 : decode cX9_readNew 78 = .ok (.aload_n 0, 1) := by decide +kernel
theorem dX9_readNew_79 : decode cX9_readNew 79 = .ok (.getfield 119, 3) := by decide +kernel
theorem dX9_readNew_82 : decode cX9_readNew 82 = .ok (.lastore, 1) := by decide +kernel
theorem dX9_readNew_83 : decode cX9_readNew 83 = .ok (.aload_n 0, 1) := by decide +kernel
theorem dX9_readNew_84 : decode cX9_readNew 84 = .ok (.invokevirtual 231, 3) := by decide +kernel
theorem dX9_readNew_87 : decode cX9_readNew 87 = .ok (.return_, 1) := by decide +kernel
def fX9_readNew_60 (l0 : Nat) (l1 : Int32) (l2 : Int32) : mM Unit := bGI 9 l0 12 (fun x1 => bIf (x1 ≤ 0) (bGR 9 l0 26 (fun x2 => bGL 9 l0 22 (fun x3 => bSL x2 (((56 : Int32) + l1) + l2) x3 (bCallV 9 l0 (fX9_next l0) (fun _ => bRet ()))))) (bRet ()))
set_option maxRecDepth 20000 in
theorem rX9_readNew_60 (v : mE) (d : Nat) (l0 : Nat) (l1 : Int32) (l2 : Int32) : Rz v RX9 cX9_readNew 3 none false emU (d + 5) 60 [(0, vR l0), (1, vI l1), (2, vI l2)] [] (fX9_readNew_60 l0 l1 l2) := by
  unfold fX9_readNew_60
  refine rz_aload_n 61 0 dX9_readNew_60 rfl rfl ?_
  refine rz_gI 64 dX9_readNew_61 rfl rfl fl_X9_221 (fun x1 => ?_)
  refine rz_if_le 68 67 dX9_readNew_64 rfl rfl ?_ ?_
  · refine rz_aload_n 69 0 dX9_readNew_68 rfl rfl ?_
    refine rz_gR 72 dX9_readNew_69 rfl rfl fl_X9_41 (fun x2 => ?_)
    refine rz_bipush 74 dX9_readNew_72 rfl cb_56 ?_
    refine rz_iload_n 75 1 dX9_readNew_74 rfl rfl ?_
    refine rz_iadd 76 dX9_readNew_75 rfl ?_
    refine rz_iload_n 77 2 dX9_readNew_76 rfl rfl ?_
    refine rz_iadd 78 dX9_readNew_77 rfl ?_
    refine rz_aload_n 79 0 dX9_readNew_78 rfl rfl ?_
    refine rz_gL 82 dX9_readNew_79 rfl rfl fl_X9_119 (fun x3 => ?_)
    refine rz_last 83 dX9_readNew_82 rfl ?_
    refine rz_aload_n 84 0 dX9_readNew_83 rfl rfl ?_
    refine rz_callV 87 dX9_readNew_84 rfl (tX9_next v (d + 3) l0) rfl rfl rfl rfl ml_X9_231 im_X9_next se_X9_X9_next in_X9 co_X9_next rfl rfl (fun _ => ?_)
    exact rz_return rfl rfl dX9_readNew_87
  · exact rz_return rfl rfl dX9_readNew_67
def fX9_readNew_51 (l0 : Nat) (l1 : Int32) (l2 : Int32) : mM Unit := bGI 9 l0 15 (fun x1 => bCallV 9 l0 (fX9_fail l0 (3 : Int32) x1) (fun _ => fX9_readNew_60 l0 l1 l2))
set_option maxRecDepth 20000 in
theorem rX9_readNew_51 (v : mE) (d : Nat) (l0 : Nat) (l1 : Int32) (l2 : Int32) : Rz v RX9 cX9_readNew 3 none false emU (d + 5) 51 [(0, vR l0), (1, vI l1), (2, vI l2)] [] (fX9_readNew_51 l0 l1 l2) := by
  unfold fX9_readNew_51
  refine rz_aload_n 52 0 dX9_readNew_51 rfl rfl ?_
  refine rz_iconst 53 dX9_readNew_52 rfl ci_3 ?_
  refine rz_aload_n 54 0 dX9_readNew_53 rfl rfl ?_
  refine rz_gI 57 dX9_readNew_54 rfl rfl fl_X9_107 (fun x1 => ?_)
  refine rz_callV 60 dX9_readNew_57 rfl (tX9_fail v (d + 4) l0 (3 : Int32) x1) rfl rfl rfl rfl ml_X9_227 im_X9_fail se_X9_X9_fail in_X9 co_X9_fail rfl rfl (fun _ => ?_)
  exact rz_sub [0, 1, 2] rfl (rX9_readNew_60 v d l0 l1 l2)
def fX9_readNew_15 (l0 : Nat) (l1 : Int32) (l2 : Int32) : mM Unit := bGI 9 l0 12 (fun x1 => bIf (x1 = 0) (bGR 9 l0 24 (fun x2 => bAI 11 x2 (3447 : Int32) (fun x3 => bCallV 9 l0 (fX9_named l0 (0 : Int32) x3) (fun x4 => bIf (0 ≤ x4) (fX9_readNew_51 l0 l1 l2) (bGI 9 l0 21 (fun x5 => bCallV 9 l0 (fX9_named l0 (8 : Int32) x5) (fun x6 => bIf (x6 < 0) (fX9_readNew_60 l0 l1 l2) (fX9_readNew_51 l0 l1 l2)))))))) (fX9_readNew_60 l0 l1 l2))
set_option maxRecDepth 20000 in
theorem rX9_readNew_15 (v : mE) (d : Nat) (l0 : Nat) (l1 : Int32) (l2 : Int32) : Rz v RX9 cX9_readNew 3 none false emU (d + 5) 15 [(0, vR l0), (1, vI l1), (2, vI l2)] [] (fX9_readNew_15 l0 l1 l2) := by
  unfold fX9_readNew_15
  refine rz_aload_n 16 0 dX9_readNew_15 rfl rfl ?_
  refine rz_gI 19 dX9_readNew_16 rfl rfl fl_X9_221 (fun x1 => ?_)
  refine rz_if_ne 60 22 dX9_readNew_19 rfl rfl ?_ ?_
  · exact rz_sub [0, 1, 2] rfl (rX9_readNew_60 v d l0 l1 l2)
  · refine rz_aload_n 23 0 dX9_readNew_22 rfl rfl ?_
    refine rz_iconst 24 dX9_readNew_23 rfl ci_0 ?_
    refine rz_aload_n 25 0 dX9_readNew_24 rfl rfl ?_
    refine rz_gR 28 dX9_readNew_25 rfl rfl fl_X9_35 (fun x2 => ?_)
    refine rz_sipush 31 dX9_readNew_28 rfl cs_3447 ?_
    refine rz_iald 32 dX9_readNew_31 rfl (fun x3 => ?_)
    refine rz_callV 35 dX9_readNew_32 rfl (tX9_named v (d + 4) l0 (0 : Int32) x3) rfl rfl rfl rfl ml_X9_246 im_X9_named se_X9_X9_named in_X9 co_X9_named rfl rfl (fun x4 => ?_)
    refine rz_if_ge 51 38 dX9_readNew_35 rfl rfl ?_ ?_
    · exact rz_sub [0, 1, 2] rfl (rX9_readNew_51 v d l0 l1 l2)
    · refine rz_aload_n 39 0 dX9_readNew_38 rfl rfl ?_
      refine rz_bipush 41 dX9_readNew_39 rfl cb_8 ?_
      refine rz_aload_n 42 0 dX9_readNew_41 rfl rfl ?_
      refine rz_gI 45 dX9_readNew_42 rfl rfl fl_X9_249 (fun x5 => ?_)
      refine rz_callV 48 dX9_readNew_45 rfl (tX9_named v (d + 4) l0 (8 : Int32) x5) rfl rfl rfl rfl ml_X9_246 im_X9_named se_X9_X9_named in_X9 co_X9_named rfl rfl (fun x6 => ?_)
      refine rz_if_lt 60 51 dX9_readNew_48 rfl rfl ?_ ?_
      · exact rz_sub [0, 1, 2] rfl (rX9_readNew_60 v d l0 l1 l2)
      · exact rz_sub [0, 1, 2] rfl (rX9_readNew_51 v d l0 l1 l2)
def fX9_readNew (l0 : Nat) (l1 : Int32) (l2 : Int32) : mM Unit := bCallV 9 l0 (fX9_next l0) (fun _ => bCallV 9 l0 (fX9_isName l0) (fun x1 => bIf (x1 = 0) (bCallV 9 l0 (fX9_wrong l0) (fun _ => fX9_readNew_15 l0 l1 l2)) (fX9_readNew_15 l0 l1 l2)))
set_option maxRecDepth 20000 in
theorem rX9_readNew (v : mE) (d : Nat) (l0 : Nat) (l1 : Int32) (l2 : Int32) : Rz v RX9 cX9_readNew 3 none false emU (d + 5) 0 [(0, vR l0), (1, vI l1), (2, vI l2)] [] (fX9_readNew l0 l1 l2) := by
  unfold fX9_readNew
  refine rz_aload_n 1 0 dX9_readNew_0 rfl rfl ?_
  refine rz_callV 4 dX9_readNew_1 rfl (tX9_next v (d + 3) l0) rfl rfl rfl rfl ml_X9_231 im_X9_next se_X9_X9_next in_X9 co_X9_next rfl rfl (fun _ => ?_)
  refine rz_aload_n 5 0 dX9_readNew_4 rfl rfl ?_
  refine rz_callV 8 dX9_readNew_5 rfl (tX9_isName v (d + 0) l0) rfl rfl rfl rfl ml_X9_243 im_X9_isName se_X9_X9_isName in_X9 co_X9_isName rfl rfl (fun x1 => ?_)
  refine rz_if_ne 15 11 dX9_readNew_8 rfl rfl ?_ ?_
  · exact rz_sub [0, 1, 2] rfl (rX9_readNew_15 v d l0 l1 l2)
  · refine rz_aload_n 12 0 dX9_readNew_11 rfl rfl ?_
    refine rz_callV 15 dX9_readNew_12 rfl (tX9_wrong v (d + 3) l0) rfl rfl rfl rfl ml_X9_234 im_X9_wrong se_X9_X9_wrong in_X9 co_X9_wrong rfl rfl (fun _ => ?_)
    exact rz_sub [0, 1, 2] rfl (rX9_readNew_15 v d l0 l1 l2)
theorem tX9_readNew (v : mE) (d : Nat) (l0 : Nat) (l1 : Int32) (l2 : Int32) : Mt v yX9_readNew cX9_readNew 3 none emU (d + 5) [vR l0, vI l1, vI l2] (fX9_readNew l0 l1 l2) := mt_of rfl rfl (fun h => by cases h) rfl rfl (rX9_readNew v d l0 l1 l2)
theorem dX9_readPersonName_0 : decode cX9_readPersonName 0 = .ok (.aload_n 0, 1) := by decide +kernel
theorem dX9_readPersonName_1 : decode cX9_readPersonName 1 = .ok (.getfield 221, 3) := by decide +kernel
theorem dX9_readPersonName_4 : decode cX9_readPersonName 4 = .ok (.ifCond .ne 14, 3) := by decide +kernel
theorem dX9_readPersonName_7 : decode cX9_readPersonName 7 = .ok (.aload_n 0, 1) := by decide +kernel
theorem dX9_readPersonName_8 : decode cX9_readPersonName 8 = .ok (.invokevirtual 243, 3) := by decide +kernel
theorem dX9_readPersonName_11 : decode cX9_readPersonName 11 = .ok (.ifCond .ne 7, 3) := by decide +kernel
theorem dX9_readPersonName_14 : decode cX9_readPersonName 14 = .ok (.aload_n 0, 1) := by decide +kernel
theorem dX9_readPersonName_15 : decode cX9_readPersonName 15 = .ok (.invokevirtual 234, 3) := by decide +kernel
theorem dX9_readPersonName_18 : decode cX9_readPersonName 18 = .ok (.aload_n 0, 1) := by decide +kernel
theorem dX9_readPersonName_19 : decode cX9_readPersonName 19 = .ok (.getfield 221, 3) := by decide +kernel
theorem dX9_readPersonName_22 : decode cX9_readPersonName 22 = .ok (.ifCond .ne 19, 3) := by decide +kernel
theorem dX9_readPersonName_25 : decode cX9_readPersonName 25 = .ok (.aload_n 0, 1) := by decide +kernel
theorem dX9_readPersonName_26 : decode cX9_readPersonName 26 = .ok (.iconst 0, 1) := by decide +kernel
theorem dX9_readPersonName_27 : decode cX9_readPersonName 27 = .ok (.aload_n 0, 1) := by decide +kernel
theorem dX9_readPersonName_28 : decode cX9_readPersonName 28 = .ok (.getfield 35, 3) := by decide +kernel
theorem dX9_readPersonName_31 : decode cX9_readPersonName 31 = .ok (.sipush 3447, 3) := by decide +kernel
theorem dX9_readPersonName_34 : decode cX9_readPersonName 34 = .ok (.iaload, 1) := by decide +kernel
theorem dX9_readPersonName_35 : decode cX9_readPersonName 35 = .ok (.invokevirtual 246, 3) := by decide +kernel
theorem dX9_readPersonName_38 : decode cX9_readPersonName 38 = .ok (.goto 4, 3) := by decide +kernel
theorem dX9_readPersonName_41 : decode cX9_readPersonName 41 = .ok (.iconst 0, 1) := by decide +kernel
theorem dX9_readPersonName_42 : decode cX9_readPersonName 42 = .ok (.istore_n 1, 1) := by decide +kernel
theorem dX9_readPersonName_43 : decode cX9_readPersonName 43 = .ok (.aload_n 0, 1) := by decide +kernel
theorem dX9_readPersonName_44 : decode cX9_readPersonName 44 = .ok (.getfield 221, 3) := by decide +kernel
theorem dX9_readPersonName_47 : decode cX9_readPersonName 47 = .ok (.ifCond .ne 16, 3) := by decide +kernel
theorem dX9_readPersonName_50 : decode cX9_readPersonName 50 = .ok (.iload_n 1, 1) := by decide +kernel
theorem dX9_readPersonName_51 : decode cX9_readPersonName 51 = .ok (.ifCond .ge 12, 3) := by decide +kernel
theorem dX9_readPersonName_54 : decode cX9_readPersonName 54 = .ok (.aload_n 0, 1) := by decide +kernel
theorem dX9_readPersonName_55 : decode cX9_readPersonName 55 = .ok (.iconst 3, 1) := by decide +kernel
theorem dX9_readPersonName_56 : decode cX9_readPersonName 56 = .ok (.aload_n 0, 1) := by decide +kernel
theorem dX9_readPersonName_57 : decode cX9_readPersonName 57 = .ok (.getfield 107, 3) := by decide +kernel
theorem dX9_readPersonName_60 : decode cX9_readPersonName 60 = .ok (.invokevirtual 227, 3) := by decide +kernel
theorem dX9_readPersonName_63 : decode cX9_readPersonName 63 = .ok (.aload_n 0, 1) := by decide +kernel
theorem dX9_readPersonName_64 : decode cX9_readPersonName 64 = .ok (.iconst 1, 1) := by decide +kernel
theorem dX9_readPersonName_65 : decode cX9_readPersonName 65 = .ok (.invokevirtual 252, 3) := by decide +kernel
theorem dX9_readPersonName_68 : decode cX9_readPersonName 68 = .ok (.iload_n 1, 1) := by decide +kernel
theorem dX9_readPersonName_69 : decode cX9_readPersonName 69 = .ok (.ireturn, 1) := by decide +kernel
def fX9_readPersonName_63 (l0 : Nat) (l1 : Int32) : mM Int32 := bCallV 9 l0 (fX9_must l0 (1 : Int32)) (fun _ => bRet l1)
set_option maxRecDepth 20000 in
theorem rX9_readPersonName_63 (v : mE) (d : Nat) (l0 : Nat) (l1 : Int32) : Rz v RX9 cX9_readPersonName 2 (some .int) false emI (d + 5) 63 [(0, vR l0), (1, vI l1)] [] (fX9_readPersonName_63 l0 l1) := by
  unfold fX9_readPersonName_63
  refine rz_aload_n 64 0 dX9_readPersonName_63 rfl rfl ?_
  refine rz_iconst 65 dX9_readPersonName_64 rfl ci_1 ?_
  refine rz_callV 68 dX9_readPersonName_65 rfl (tX9_must v (d + 2) l0 (1 : Int32)) rfl rfl rfl rfl ml_X9_252 im_X9_must se_X9_X9_must in_X9 co_X9_must rfl rfl (fun _ => ?_)
  refine rz_iload_n 69 1 dX9_readPersonName_68 rfl rfl ?_
  exact rz_ireturn rfl rfl dX9_readPersonName_69
def fX9_readPersonName_42 (l0 : Nat) (s0 : Int32) : mM Int32 := bGI 9 l0 12 (fun x1 => bIf (x1 = 0) (bIf (0 ≤ s0) (fX9_readPersonName_63 l0 s0) (bGI 9 l0 15 (fun x2 => bCallV 9 l0 (fX9_fail l0 (3 : Int32) x2) (fun _ => fX9_readPersonName_63 l0 s0)))) (fX9_readPersonName_63 l0 s0))
set_option maxRecDepth 20000 in
theorem rX9_readPersonName_42 (v : mE) (d : Nat) (l0 : Nat) (s0 : Int32) : Rz v RX9 cX9_readPersonName 2 (some .int) false emI (d + 5) 42 [(0, vR l0)] [vI s0] (fX9_readPersonName_42 l0 s0) := by
  unfold fX9_readPersonName_42
  refine rz_istore_n (lv' := [(1, vI s0), (0, vR l0)]) 43 dX9_readPersonName_42 rfl rfl rfl ?_
  refine rz_aload_n 44 1 dX9_readPersonName_43 rfl rfl ?_
  refine rz_gI 47 dX9_readPersonName_44 rfl rfl fl_X9_221 (fun x1 => ?_)
  refine rz_if_ne 63 50 dX9_readPersonName_47 rfl rfl ?_ ?_
  · exact rz_sub [1, 0] rfl (rX9_readPersonName_63 v d l0 s0)
  · refine rz_iload_n 51 0 dX9_readPersonName_50 rfl rfl ?_
    refine rz_if_ge 63 54 dX9_readPersonName_51 rfl rfl ?_ ?_
    · exact rz_sub [1, 0] rfl (rX9_readPersonName_63 v d l0 s0)
    · refine rz_aload_n 55 1 dX9_readPersonName_54 rfl rfl ?_
      refine rz_iconst 56 dX9_readPersonName_55 rfl ci_3 ?_
      refine rz_aload_n 57 1 dX9_readPersonName_56 rfl rfl ?_
      refine rz_gI 60 dX9_readPersonName_57 rfl rfl fl_X9_107 (fun x2 => ?_)
      refine rz_callV 63 dX9_readPersonName_60 rfl (tX9_fail v (d + 4) l0 (3 : Int32) x2) rfl rfl rfl rfl ml_X9_227 im_X9_fail se_X9_X9_fail in_X9 co_X9_fail rfl rfl (fun _ => ?_)
      exact rz_sub [1, 0] rfl (rX9_readPersonName_63 v d l0 s0)
def fX9_readPersonName_18 (l0 : Nat) : mM Int32 := bGI 9 l0 12 (fun x1 => bIf (x1 = 0) (bGR 9 l0 24 (fun x2 => bAI 11 x2 (3447 : Int32) (fun x3 => bCallV 9 l0 (fX9_named l0 (0 : Int32) x3) (fun x4 => fX9_readPersonName_42 l0 x4)))) (fX9_readPersonName_42 l0 (0 : Int32)))
set_option maxRecDepth 20000 in
theorem rX9_readPersonName_18 (v : mE) (d : Nat) (l0 : Nat) : Rz v RX9 cX9_readPersonName 2 (some .int) false emI (d + 5) 18 [(0, vR l0)] [] (fX9_readPersonName_18 l0) := by
  unfold fX9_readPersonName_18
  refine rz_aload_n 19 0 dX9_readPersonName_18 rfl rfl ?_
  refine rz_gI 22 dX9_readPersonName_19 rfl rfl fl_X9_221 (fun x1 => ?_)
  refine rz_if_ne 41 25 dX9_readPersonName_22 rfl rfl ?_ ?_
  · refine rz_iconst 42 dX9_readPersonName_41 rfl ci_0 ?_
    exact rz_sub [0] rfl (rX9_readPersonName_42 v d l0 (0 : Int32))
  · refine rz_aload_n 26 0 dX9_readPersonName_25 rfl rfl ?_
    refine rz_iconst 27 dX9_readPersonName_26 rfl ci_0 ?_
    refine rz_aload_n 28 0 dX9_readPersonName_27 rfl rfl ?_
    refine rz_gR 31 dX9_readPersonName_28 rfl rfl fl_X9_35 (fun x2 => ?_)
    refine rz_sipush 34 dX9_readPersonName_31 rfl cs_3447 ?_
    refine rz_iald 35 dX9_readPersonName_34 rfl (fun x3 => ?_)
    refine rz_callV 38 dX9_readPersonName_35 rfl (tX9_named v (d + 4) l0 (0 : Int32) x3) rfl rfl rfl rfl ml_X9_246 im_X9_named se_X9_X9_named in_X9 co_X9_named rfl rfl (fun x4 => ?_)
    refine rz_goto 42 dX9_readPersonName_38 rfl ?_
    exact rz_sub [0] rfl (rX9_readPersonName_42 v d l0 x4)
def fX9_readPersonName (l0 : Nat) : mM Int32 := bGI 9 l0 12 (fun x1 => bIf (x1 = 0) (bCallV 9 l0 (fX9_isName l0) (fun x2 => bIf (x2 = 0) (bCallV 9 l0 (fX9_wrong l0) (fun _ => fX9_readPersonName_18 l0)) (fX9_readPersonName_18 l0))) (fX9_readPersonName_18 l0))
set_option maxRecDepth 20000 in
theorem rX9_readPersonName (v : mE) (d : Nat) (l0 : Nat) : Rz v RX9 cX9_readPersonName 2 (some .int) false emI (d + 5) 0 [(0, vR l0)] [] (fX9_readPersonName l0) := by
  unfold fX9_readPersonName
  refine rz_aload_n 1 0 dX9_readPersonName_0 rfl rfl ?_
  refine rz_gI 4 dX9_readPersonName_1 rfl rfl fl_X9_221 (fun x1 => ?_)
  refine rz_if_ne 18 7 dX9_readPersonName_4 rfl rfl ?_ ?_
  · exact rz_sub [0] rfl (rX9_readPersonName_18 v d l0)
  · refine rz_aload_n 8 0 dX9_readPersonName_7 rfl rfl ?_
    refine rz_callV 11 dX9_readPersonName_8 rfl (tX9_isName v (d + 0) l0) rfl rfl rfl rfl ml_X9_243 im_X9_isName se_X9_X9_isName in_X9 co_X9_isName rfl rfl (fun x2 => ?_)
    refine rz_if_ne 18 14 dX9_readPersonName_11 rfl rfl ?_ ?_
    · exact rz_sub [0] rfl (rX9_readPersonName_18 v d l0)
    · refine rz_aload_n 15 0 dX9_readPersonName_14 rfl rfl ?_
      refine rz_callV 18 dX9_readPersonName_15 rfl (tX9_wrong v (d + 3) l0) rfl rfl rfl rfl ml_X9_234 im_X9_wrong se_X9_X9_wrong in_X9 co_X9_wrong rfl rfl (fun _ => ?_)
      exact rz_sub [0] rfl (rX9_readPersonName_18 v d l0)
theorem tX9_readPersonName (v : mE) (d : Nat) (l0 : Nat) : Mt v yX9_readPersonName cX9_readPersonName 2 (some .int) emI (d + 5) [vR l0] (fX9_readPersonName l0) := mt_of rfl rfl (fun h => by cases h) rfl rfl (rX9_readPersonName v d l0)
theorem dX9_readWater_0 : decode cX9_readWater 0 = .ok (.aload_n 0, 1) := by decide +kernel
theorem dX9_readWater_1 : decode cX9_readWater 1 = .ok (.getfield 256, 3) := by decide +kernel
theorem dX9_readWater_4 : decode cX9_readWater 4 = .ok (.ifCond .eq 12, 3) := by decide +kernel
theorem dX9_readWater_7 : decode cX9_readWater 7 = .ok (.aload_n 0, 1) := by decide +kernel
theorem dX9_readWater_8 : decode cX9_readWater 8 = .ok (.iconst 5, 1) := by decide +kernel
theorem dX9_readWater_9 : decode cX9_readWater 9 = .ok (.aload_n 0, 1) := by decide +kernel
theorem dX9_readWater_10 : decode cX9_readWater 10 = .ok (.getfield 107, 3) := by decide +kernel
theorem dX9_readWater_13 : decode cX9_readWater 13 = .ok (.invokevirtual 227, 3) := by decide +kernel
theorem dX9_readWater_16 : decode cX9_readWater 16 = .ok (.aload_n 0, 1) := by decide +kernel
theorem dX9_readWater_17 : decode cX9_readWater 17 = .ok (.getfield 221, 3) := by decide +kernel
theorem dX9_readWater_20 : decode cX9_readWater 20 = .ok (.ifCond .le 4, 3) := by decide +kernel
theorem dX9_readWater_23 : decode cX9_readWater 23 = .ok (.return_, 1) := by decide +kernel
theorem dX9_readWater_24 : decode cX9_readWater 24 = .ok (.aload_n 0, 1) := by decide +kernel
theorem dX9_readWater_25 : decode cX9_readWater 25 = .ok (.iconst 1, 1) := by decide +kernel
theorem dX9_readWater_26 : decode cX9_readWater 26 = .ok (.putfield 256, 3) := by decide +kernel
theorem dX9_readWater_29 : decode cX9_readWater 29 = .ok (.aload_n 0, 1) := by decide +kernel
theorem dX9_readWater_30 : decode cX9_readWater 30 = .ok (.invokevirtual 231, 3) := by decide +kernel
theorem dX9_readWater_33 : decode cX9_readWater 33 = .ok (.aload_n 0, 1) := by decide +kernel
theorem dX9_readWater_34 : decode cX9_readWater 34 = .ok (.getfield 35, 3) := by decide +kernel
theorem dX9_readWater_37 : decode cX9_readWater 37 = .ok (.sipush 3440, 3) := by decide +kernel
theorem dX9_readWater_40 : decode cX9_readWater 40 = .ok (.aload_n 0, 1) := by decide +kernel
theorem dX9_readWater_41 : decode cX9_readWater 41 = .ok (.iconst 0, 1) := by decide +kernel
theorem dX9_readWater_42 : decode cX9_readWater 42 = .ok (.sipush 999, 3) := by decide +kernel
theorem dX9_readWater_45 : decode cX9_readWater 45 = .ok (.invokevirtual 260, 3) := by decide +kernel
theorem dX9_readWater_48 : decode cX9_readWater 48 = .ok (.iastore, 1) := by decide +kernel
theorem dX9_readWater_49 : decode cX9_readWater 49 = .ok (.aload_n 0, 1) := by decide +kernel
theorem dX9_readWater_50 : decode cX9_readWater 50 = .ok (.aload_n 0, 1) := by decide +kernel
theorem dX9_readWater_51 : decode cX9_readWater 51 = .ok (.invokevirtual 163, 3) := by decide +kernel
theorem dX9_readWater_54 : decode cX9_readWater 54 = .ok (.invokevirtual 252, 3) := by decide +kernel
theorem dX9_readWater_57 : decode cX9_readWater 57 = .ok (.aload_n 0, 1) := by decide +kernel
theorem dX9_readWater_58 : decode cX9_readWater 58 = .ok (.getfield 35, 3) := by decide +kernel
theorem dX9_readWater_61 : decode cX9_readWater 61 = .ok (.sipush 3441, 3) := by decide +kernel
theorem dX9_readWater_64 : decode cX9_readWater 64 = .ok (.aload_n 0, 1) := by decide +kernel
theorem dX9_readWater_65 : decode cX9_readWater 65 = .ok (.iconst 0, 1) := by decide +kernel
theorem dX9_readWater_66 : decode cX9_readWater 66 = .ok (.sipush 999, 3) := by decide +kernel
theorem dX9_readWater_69 : decode cX9_readWater 69 = .ok (.invokevirtual 260, 3) := by decide +kernel
theorem dX9_readWater_72 : decode cX9_readWater 72 = .ok (.iastore, 1) := by decide +kernel
theorem dX9_readWater_73 : decode cX9_readWater 73 = .ok (.aload_n 0, 1) := by decide +kernel
theorem dX9_readWater_74 : decode cX9_readWater 74 = .ok (.getfield 221, 3) := by decide +kernel
theorem dX9_readWater_77 : decode cX9_readWater 77 = .ok (.ifCond .ne 29, 3) := by decide +kernel
theorem dX9_readWater_80 : decode cX9_readWater 80 = .ok (.aload_n 0, 1) := by decide +kernel
theorem dX9_readWater_81 : decode cX9_readWater 81 = .ok (.invokevirtual 166, 3) := by decide +kernel
theorem dX9_readWater_84 : decode cX9_readWater 84 = .ok (.ifCond .eq 22, 3) := by decide +kernel
theorem dX9_readWater_87 : decode cX9_readWater 87 = .ok (.aload_n 0, 1) := by decide +kernel
theorem dX9_readWater_88 : decode cX9_readWater 88 = .ok (.invokevirtual 231, 3) := by decide +kernel
theorem dX9_readWater_91 : decode cX9_readWater 91 = .ok (.aload_n 0, 1) := by decide +kernel
theorem dX9_readWater_92 : decode cX9_readWater 92 = .ok (.getfield 35, 3) := by decide +kernel
theorem dX9_readWater_95 : decode cX9_readWater 95 = .ok (.sipush 3442, 3) := by decide +kernel
theorem dX9_readWater_98 : decode cX9_readWater 98 = .ok (.aload_n 0, 1) := by decide +kernel
theorem dX9_readWater_99 : decode cX9_readWater 99 = .ok (.iconst 0, 1) := by decide +kernel
theorem dX9_readWater_100 : decode cX9_readWater 100 = .ok (.bipush 99, 2) := by decide +kernel
theorem dX9_readWater_102 : decode cX9_readWater 102 = .ok (.invokevirtual 260, 3) := by decide +kernel
theorem dX9_readWater_105 : decode cX9_readWater 105 = .ok (.iastore, 1) := by decide +kernel
theorem dX9_readWater_106 : decode cX9_readWater 106 = .ok (.aload_n 0, 1) := by decide +kernel
theorem dX9_readWater_107 : decode cX9_readWater 107 = .ok (.getfield 221, 3) := by decide +kernel
theorem dX9_readWater_110 : decode cX9_readWater 110 = .ok (.ifCond .ne 52, 3) := by decide +kernel
theorem dX9_readWater_113 : decode cX9_readWater 113 = .ok (.aload_n 0, 1) := by decide +kernel
theorem dX9_readWater_114 : decode cX9_readWater 114 = .ok (.invokevirtual 169, 3) := by decide +kernel
theorem dX9_readWater_117 : decode cX9_readWater 117 = .ok (.ifCond .eq 45, 3) := by decide +kernel
theorem dX9_readWater_120 : decode cX9_readWater 120 = .ok (.aload_n 0, 1) := by decide +kernel
theorem dX9_readWater_121 : decode cX9_readWater 121 = .ok (.invokevirtual 231, 3) := by decide +kernel
theorem dX9_readWater_124 : decode cX9_readWater 124 = .ok (.aload_n 0, 1) := by decide +kernel
theorem dX9_readWater_125 : decode cX9_readWater 125 = .ok (.getfield 35, 3) := by decide +kernel
theorem dX9_readWater_128 : decode cX9_readWater 128 = .ok (.sipush 3443, 3) := by decide +kernel
theorem dX9_readWater_131 : decode cX9_readWater 131 = .ok (.aload_n 0, 1) := by decide +kernel
theorem dX9_readWater_132 : decode cX9_readWater 132 = .ok (.iconst 0, 1) := by decide +kernel
theorem dX9_readWater_133 : decode cX9_readWater 133 = .ok (.bipush 16, 2) := by decide +kernel
theorem dX9_readWater_135 : decode cX9_readWater 135 = .ok (.invokevirtual 260, 3) := by decide +kernel
theorem dX9_readWater_138 : decode cX9_readWater 138 = .ok (.iastore, 1) := by decide +kernel
theorem dX9_readWater_139 : decode cX9_readWater 139 = .ok (.aload_n 0, 1) := by decide +kernel
theorem dX9_readWater_140 : decode cX9_readWater 140 = .ok (.aload_n 0, 1) := by decide +kernel
theorem dX9_readWater_141 : decode cX9_readWater 141 = .ok (.invokevirtual 172, 3) := by decide +kernel
theorem dX9_readWater_144 : decode cX9_readWater 144 = .ok (.invokevirtual 252, 3) := by decide +kernel
theorem dX9_readWater_147 : decode cX9_readWater 147 = .ok (.aload_n 0, 1) := by decide +kernel
theorem dX9_readWater_148 : decode cX9_readWater 148 = .ok (.getfield 35, 3) := by decide +kernel
theorem dX9_readWater_151 : decode cX9_readWater 151 = .ok (.sipush 3444, 3) := by decide +kernel
theorem dX9_readWater_154 : decode cX9_readWater 154 = .ok (.aload_n 0, 1) := by decide +kernel
theorem dX9_readWater_155 : decode cX9_readWater 155 = .ok (.iconst 0, 1) := by decide +kernel
theorem dX9_readWater_156 : decode cX9_readWater 156 = .ok (.bipush 99, 2) := by decide +kernel
theorem dX9_readWater_158 : decode cX9_readWater 158 = .ok (.invokevirtual 260, 3) := by decide +kernel
theorem dX9_readWater_161 : decode cX9_readWater 161 = .ok (.iastore, 1) := by decide +kernel
theorem dX9_readWater_162 : decode cX9_readWater 162 = .ok (.return_, 1) := by decide +kernel
def fX9_readWater_106 (l0 : Nat) : mM Unit := bGI 9 l0 12 (fun x1 => bIf (x1 = 0) (bCallV 9 l0 (fX9_isRain l0) (fun x2 => bIf (x2 = 0) (bRet ()) (bCallV 9 l0 (fX9_next l0) (fun _ => bGR 9 l0 24 (fun x3 => bCallV 9 l0 (fX9_count l0 (0 : Int32) (16 : Int32)) (fun x4 => bSI x3 (3443 : Int32) x4 (bCallV 9 l0 (fX9_isBy l0) (fun x5 => bCallV 9 l0 (fX9_must l0 x5) (fun _ => bGR 9 l0 24 (fun x6 => bCallV 9 l0 (fX9_count l0 (0 : Int32) (99 : Int32)) (fun x7 => bSI x6 (3444 : Int32) x7 (bRet ())))))))))))) (bRet ()))
set_option maxRecDepth 20000 in
theorem rX9_readWater_106 (v : mE) (d : Nat) (l0 : Nat) : Rz v RX9 cX9_readWater 1 none false emU (d + 3) 106 [(0, vR l0)] [] (fX9_readWater_106 l0) := by
  unfold fX9_readWater_106
  refine rz_aload_n 107 0 dX9_readWater_106 rfl rfl ?_
  refine rz_gI 110 dX9_readWater_107 rfl rfl fl_X9_221 (fun x1 => ?_)
  refine rz_if_ne 162 113 dX9_readWater_110 rfl rfl ?_ ?_
  · exact rz_return rfl rfl dX9_readWater_162
  · refine rz_aload_n 114 0 dX9_readWater_113 rfl rfl ?_
    refine rz_callV 117 dX9_readWater_114 rfl (tX9_isRain v (d + 1) l0) rfl rfl rfl rfl ml_X9_169 im_X9_isRain se_X9_X9_isRain in_X9 co_X9_isRain rfl rfl (fun x2 => ?_)
    refine rz_if_eq 162 120 dX9_readWater_117 rfl rfl ?_ ?_
    · exact rz_return rfl rfl dX9_readWater_162
    · refine rz_aload_n 121 0 dX9_readWater_120 rfl rfl ?_
      refine rz_callV 124 dX9_readWater_121 rfl (tX9_next v (d + 1) l0) rfl rfl rfl rfl ml_X9_231 im_X9_next se_X9_X9_next in_X9 co_X9_next rfl rfl (fun _ => ?_)
      refine rz_aload_n 125 0 dX9_readWater_124 rfl rfl ?_
      refine rz_gR 128 dX9_readWater_125 rfl rfl fl_X9_35 (fun x3 => ?_)
      refine rz_sipush 131 dX9_readWater_128 rfl cs_3443 ?_
      refine rz_aload_n 132 0 dX9_readWater_131 rfl rfl ?_
      refine rz_iconst 133 dX9_readWater_132 rfl ci_0 ?_
      refine rz_bipush 135 dX9_readWater_133 rfl cb_16 ?_
      refine rz_callV 138 dX9_readWater_135 rfl (tX9_count v (d + 0) l0 (0 : Int32) (16 : Int32)) rfl rfl rfl rfl ml_X9_260 im_X9_count se_X9_X9_count in_X9 co_X9_count rfl rfl (fun x4 => ?_)
      refine rz_iast 139 dX9_readWater_138 rfl ?_
      refine rz_aload_n 140 0 dX9_readWater_139 rfl rfl ?_
      refine rz_aload_n 141 0 dX9_readWater_140 rfl rfl ?_
      refine rz_callV 144 dX9_readWater_141 rfl (tX9_isBy v (d + 1) l0) rfl rfl rfl rfl ml_X9_172 im_X9_isBy se_X9_X9_isBy in_X9 co_X9_isBy rfl rfl (fun x5 => ?_)
      refine rz_callV 147 dX9_readWater_144 rfl (tX9_must v (d + 0) l0 x5) rfl rfl rfl rfl ml_X9_252 im_X9_must se_X9_X9_must in_X9 co_X9_must rfl rfl (fun _ => ?_)
      refine rz_aload_n 148 0 dX9_readWater_147 rfl rfl ?_
      refine rz_gR 151 dX9_readWater_148 rfl rfl fl_X9_35 (fun x6 => ?_)
      refine rz_sipush 154 dX9_readWater_151 rfl cs_3444 ?_
      refine rz_aload_n 155 0 dX9_readWater_154 rfl rfl ?_
      refine rz_iconst 156 dX9_readWater_155 rfl ci_0 ?_
      refine rz_bipush 158 dX9_readWater_156 rfl cb_99 ?_
      refine rz_callV 161 dX9_readWater_158 rfl (tX9_count v (d + 0) l0 (0 : Int32) (99 : Int32)) rfl rfl rfl rfl ml_X9_260 im_X9_count se_X9_X9_count in_X9 co_X9_count rfl rfl (fun x7 => ?_)
      refine rz_iast 162 dX9_readWater_161 rfl ?_
      exact rz_return rfl rfl dX9_readWater_162
def fX9_readWater_16 (l0 : Nat) : mM Unit := bGI 9 l0 12 (fun x1 => bIf (x1 ≤ 0) (bPZ 9 l0 23 (1 : Int32) (bCallV 9 l0 (fX9_next l0) (fun _ => bGR 9 l0 24 (fun x2 => bCallV 9 l0 (fX9_count l0 (0 : Int32) (999 : Int32)) (fun x3 => bSI x2 (3440 : Int32) x3 (bCallV 9 l0 (fX9_isBottom l0) (fun x4 => bCallV 9 l0 (fX9_must l0 x4) (fun _ => bGR 9 l0 24 (fun x5 => bCallV 9 l0 (fX9_count l0 (0 : Int32) (999 : Int32)) (fun x6 => bSI x5 (3441 : Int32) x6 (bGI 9 l0 12 (fun x7 => bIf (x7 = 0) (bCallV 9 l0 (fX9_isSinks l0) (fun x8 => bIf (x8 = 0) (fX9_readWater_106 l0) (bCallV 9 l0 (fX9_next l0) (fun _ => bGR 9 l0 24 (fun x9 => bCallV 9 l0 (fX9_count l0 (0 : Int32) (99 : Int32)) (fun x10 => bSI x9 (3442 : Int32) x10 (fX9_readWater_106 l0))))))) (fX9_readWater_106 l0))))))))))))) (bRet ()))
set_option maxRecDepth 20000 in
theorem rX9_readWater_16 (v : mE) (d : Nat) (l0 : Nat) : Rz v RX9 cX9_readWater 1 none false emU (d + 3) 16 [(0, vR l0)] [] (fX9_readWater_16 l0) := by
  unfold fX9_readWater_16
  refine rz_aload_n 17 0 dX9_readWater_16 rfl rfl ?_
  refine rz_gI 20 dX9_readWater_17 rfl rfl fl_X9_221 (fun x1 => ?_)
  refine rz_if_le 24 23 dX9_readWater_20 rfl rfl ?_ ?_
  · refine rz_aload_n 25 0 dX9_readWater_24 rfl rfl ?_
    refine rz_iconst 26 dX9_readWater_25 rfl ci_1 ?_
    refine rz_pZ 29 dX9_readWater_26 rfl rfl rfl rfl fl_X9_256 ?_
    refine rz_aload_n 30 0 dX9_readWater_29 rfl rfl ?_
    refine rz_callV 33 dX9_readWater_30 rfl (tX9_next v (d + 1) l0) rfl rfl rfl rfl ml_X9_231 im_X9_next se_X9_X9_next in_X9 co_X9_next rfl rfl (fun _ => ?_)
    refine rz_aload_n 34 0 dX9_readWater_33 rfl rfl ?_
    refine rz_gR 37 dX9_readWater_34 rfl rfl fl_X9_35 (fun x2 => ?_)
    refine rz_sipush 40 dX9_readWater_37 rfl cs_3440 ?_
    refine rz_aload_n 41 0 dX9_readWater_40 rfl rfl ?_
    refine rz_iconst 42 dX9_readWater_41 rfl ci_0 ?_
    refine rz_sipush 45 dX9_readWater_42 rfl cs_999 ?_
    refine rz_callV 48 dX9_readWater_45 rfl (tX9_count v (d + 0) l0 (0 : Int32) (999 : Int32)) rfl rfl rfl rfl ml_X9_260 im_X9_count se_X9_X9_count in_X9 co_X9_count rfl rfl (fun x3 => ?_)
    refine rz_iast 49 dX9_readWater_48 rfl ?_
    refine rz_aload_n 50 0 dX9_readWater_49 rfl rfl ?_
    refine rz_aload_n 51 0 dX9_readWater_50 rfl rfl ?_
    refine rz_callV 54 dX9_readWater_51 rfl (tX9_isBottom v (d + 1) l0) rfl rfl rfl rfl ml_X9_163 im_X9_isBottom se_X9_X9_isBottom in_X9 co_X9_isBottom rfl rfl (fun x4 => ?_)
    refine rz_callV 57 dX9_readWater_54 rfl (tX9_must v (d + 0) l0 x4) rfl rfl rfl rfl ml_X9_252 im_X9_must se_X9_X9_must in_X9 co_X9_must rfl rfl (fun _ => ?_)
    refine rz_aload_n 58 0 dX9_readWater_57 rfl rfl ?_
    refine rz_gR 61 dX9_readWater_58 rfl rfl fl_X9_35 (fun x5 => ?_)
    refine rz_sipush 64 dX9_readWater_61 rfl cs_3441 ?_
    refine rz_aload_n 65 0 dX9_readWater_64 rfl rfl ?_
    refine rz_iconst 66 dX9_readWater_65 rfl ci_0 ?_
    refine rz_sipush 69 dX9_readWater_66 rfl cs_999 ?_
    refine rz_callV 72 dX9_readWater_69 rfl (tX9_count v (d + 0) l0 (0 : Int32) (999 : Int32)) rfl rfl rfl rfl ml_X9_260 im_X9_count se_X9_X9_count in_X9 co_X9_count rfl rfl (fun x6 => ?_)
    refine rz_iast 73 dX9_readWater_72 rfl ?_
    refine rz_aload_n 74 0 dX9_readWater_73 rfl rfl ?_
    refine rz_gI 77 dX9_readWater_74 rfl rfl fl_X9_221 (fun x7 => ?_)
    refine rz_if_ne 106 80 dX9_readWater_77 rfl rfl ?_ ?_
    · exact rz_sub [0] rfl (rX9_readWater_106 v d l0)
    · refine rz_aload_n 81 0 dX9_readWater_80 rfl rfl ?_
      refine rz_callV 84 dX9_readWater_81 rfl (tX9_isSinks v (d + 1) l0) rfl rfl rfl rfl ml_X9_166 im_X9_isSinks se_X9_X9_isSinks in_X9 co_X9_isSinks rfl rfl (fun x8 => ?_)
      refine rz_if_eq 106 87 dX9_readWater_84 rfl rfl ?_ ?_
      · exact rz_sub [0] rfl (rX9_readWater_106 v d l0)
      · refine rz_aload_n 88 0 dX9_readWater_87 rfl rfl ?_
        refine rz_callV 91 dX9_readWater_88 rfl (tX9_next v (d + 1) l0) rfl rfl rfl rfl ml_X9_231 im_X9_next se_X9_X9_next in_X9 co_X9_next rfl rfl (fun _ => ?_)
        refine rz_aload_n 92 0 dX9_readWater_91 rfl rfl ?_
        refine rz_gR 95 dX9_readWater_92 rfl rfl fl_X9_35 (fun x9 => ?_)
        refine rz_sipush 98 dX9_readWater_95 rfl cs_3442 ?_
        refine rz_aload_n 99 0 dX9_readWater_98 rfl rfl ?_
        refine rz_iconst 100 dX9_readWater_99 rfl ci_0 ?_
        refine rz_bipush 102 dX9_readWater_100 rfl cb_99 ?_
        refine rz_callV 105 dX9_readWater_102 rfl (tX9_count v (d + 0) l0 (0 : Int32) (99 : Int32)) rfl rfl rfl rfl ml_X9_260 im_X9_count se_X9_X9_count in_X9 co_X9_count rfl rfl (fun x10 => ?_)
        refine rz_iast 106 dX9_readWater_105 rfl ?_
        exact rz_sub [0] rfl (rX9_readWater_106 v d l0)
  · exact rz_return rfl rfl dX9_readWater_23
def fX9_readWater (l0 : Nat) : mM Unit := bGI 9 l0 23 (fun x1 => bIf (x1 = 0) (fX9_readWater_16 l0) (bGI 9 l0 15 (fun x2 => bCallV 9 l0 (fX9_fail l0 (5 : Int32) x2) (fun _ => fX9_readWater_16 l0))))
set_option maxRecDepth 20000 in
theorem rX9_readWater (v : mE) (d : Nat) (l0 : Nat) : Rz v RX9 cX9_readWater 1 none false emU (d + 3) 0 [(0, vR l0)] [] (fX9_readWater l0) := by
  unfold fX9_readWater
  refine rz_aload_n 1 0 dX9_readWater_0 rfl rfl ?_
  refine rz_gI 4 dX9_readWater_1 rfl rfl fl_X9_256 (fun x1 => ?_)
  refine rz_if_eq 16 7 dX9_readWater_4 rfl rfl ?_ ?_
  · exact rz_sub [0] rfl (rX9_readWater_16 v d l0)
  · refine rz_aload_n 8 0 dX9_readWater_7 rfl rfl ?_
    refine rz_iconst 9 dX9_readWater_8 rfl ci_5 ?_
    refine rz_aload_n 10 0 dX9_readWater_9 rfl rfl ?_
    refine rz_gI 13 dX9_readWater_10 rfl rfl fl_X9_107 (fun x2 => ?_)
    refine rz_callV 16 dX9_readWater_13 rfl (tX9_fail v (d + 2) l0 (5 : Int32) x2) rfl rfl rfl rfl ml_X9_227 im_X9_fail se_X9_X9_fail in_X9 co_X9_fail rfl rfl (fun _ => ?_)
    exact rz_sub [0] rfl (rX9_readWater_16 v d l0)
theorem tX9_readWater (v : mE) (d : Nat) (l0 : Nat) : Mt v yX9_readWater cX9_readWater 1 none emU (d + 3) [vR l0] (fX9_readWater l0) := mt_of rfl rfl (fun h => by cases h) rfl rfl (rX9_readWater v d l0)
theorem dX9_readPerson_0 : decode cX9_readPerson 0 = .ok (.aload_n 0, 1) := by decide +kernel
theorem dX9_readPerson_1 : decode cX9_readPerson 1 = .ok (.getfield 35, 3) := by decide +kernel
theorem dX9_readPerson_4 : decode cX9_readPerson 4 = .ok (.sipush 3447, 3) := by decide +kernel
theorem dX9_readPerson_7 : decode cX9_readPerson 7 = .ok (.iaload, 1) := by decide +kernel
theorem dX9_readPerson_8 : decode cX9_readPerson 8 = .ok (.istore_n 1, 1) := by decide +kernel
theorem dX9_readPerson_9 : decode cX9_readPerson 9 = .ok (.iload_n 1, 1) := by decide +kernel
theorem dX9_readPerson_10 : decode cX9_readPerson 10 = .ok (.bipush 8, 2) := by decide +kernel
theorem dX9_readPerson_12 : decode cX9_readPerson 12 = .ok (.if_icmp .ne 13, 3) := by decide +kernel
theorem dX9_readPerson_15 : decode cX9_readPerson 15 = .ok (.aload_n 0, 1) := by decide +kernel
theorem dX9_readPerson_16 : decode cX9_readPerson 16 = .ok (.bipush 6, 2) := by decide +kernel
theorem dX9_readPerson_18 : decode cX9_readPerson 18 = .ok (.aload_n 0, 1) := by decide +kernel
theorem dX9_readPerson_19 : decode cX9_readPerson 19 = .ok (.getfield 107, 3) := by decide +kernel
theorem dX9_readPerson_22 : decode cX9_readPerson 22 = .ok (.invokevirtual 227, 3) := by decide +kernel
theorem dX9_readPerson_25 : decode cX9_readPerson 25 = .ok (.aload_n 0, 1) := by decide +kernel
theorem dX9_readPerson_26 : decode cX9_readPerson 26 = .ok (.getfield 221, 3) := by decide +kernel
theorem dX9_readPerson_29 : decode cX9_readPerson 29 = .ok (.ifCond .le 4, 3) := by decide +kernel
theorem dX9_readPerson_32 : decode cX9_readPerson 32 = .ok (.return_, 1) := by decide +kernel
theorem dX9_readPerson_33 : decode cX9_readPerson 33 = .ok (.aload_n 0, 1) := by decide +kernel
theorem dX9_readPerson_34 : decode cX9_readPerson 34 = .ok (.iconst 0, 1) := by decide +kernel
theorem dX9_readPerson_35 : decode cX9_readPerson 35 = .ok (.iload_n 1, 1) := by decide +kernel
theorem dX9_readPerson_36 : decode cX9_readPerson 36 = .ok (.invokevirtual 263, 3) := by decide +kernel
theorem dX9_readPerson_39 : decode cX9_readPerson 39 = .ok (.aload_n 0, 1) := by decide +kernel
theorem dX9_readPerson_40 : decode cX9_readPerson 40 = .ok (.getfield 221, 3) := by decide +kernel
theorem dX9_readPerson_43 : decode cX9_readPerson 43 = .ok (.ifCond .ne 28, 3) := by decide +kernel
theorem dX9_readPerson_46 : decode cX9_readPerson 46 = .ok (.aload_n 0, 1) := by decide +kernel
theorem dX9_readPerson_47 : decode cX9_readPerson 47 = .ok (.invokevirtual 178, 3) := by decide +kernel
theorem dX9_readPerson_50 : decode cX9_readPerson 50 = .ok (.ifCond .eq 21, 3) := by decide +kernel
theorem dX9_readPerson_53 : decode cX9_readPerson 53 = .ok (.aload_n 0, 1) := by decide +kernel
theorem dX9_readPerson_54 : decode cX9_readPerson 54 = .ok (.invokevirtual 231, 3) := by decide +kernel
theorem dX9_readPerson_57 : decode cX9_readPerson 57 = .ok (.aload_n 0, 1) := by decide +kernel
theorem dX9_readPerson_58 : decode cX9_readPerson 58 = .ok (.getfield 35, 3) := by decide +kernel
theorem dX9_readPerson_61 : decode cX9_readPerson 61 = .ok (.sipush 3449, 3) := by decide +kernel
theorem dX9_readPerson_64 : decode cX9_readPerson 64 = .ok (.iload_n 1, 1) := by decide +kernel
theorem dX9_readPerson_65 : decode cX9_readPerson 65 = .ok (.iadd, 1) := by decide +kernel
theorem dX9_readPerson_66 : decode cX9_readPerson 66 = .ok (.aload_n 0, 1) := by decide +kernel
theorem dX9_readPerson_67 : decode cX9_readPerson 67 = .ok (.invokevirtual 266, 3) := by decide +kernel
theorem dX9_readPerson_70 : decode cX9_readPerson 70 = .ok (.iastore, 1) := by decide +kernel
theorem dX9_readPerson_71 : decode cX9_readPerson 71 = .ok (.aload_n 0, 1) := by decide +kernel
theorem dX9_readPerson_72 : decode cX9_readPerson 72 = .ok (.getfield 221, 3) := by decide +kernel
theorem dX9_readPerson_75 : decode cX9_readPerson 75 = .ok (.ifCond .ne 32, 3) := by decide +kernel
theorem dX9_readPerson_78 : decode cX9_readPerson 78 = .ok (.aload_n 0, 1) := by decide +kernel
theorem dX9_readPerson_79 : decode cX9_readPerson 79 = .ok (.invokevirtual 181, 3) := by decide +kernel
theorem dX9_readPerson_82 : decode cX9_readPerson 82 = .ok (.ifCond .eq 25, 3) := by decide +kernel
theorem dX9_readPerson_85 : decode cX9_readPerson 85 = .ok (.aload_n 0, 1) := by decide +kernel
theorem dX9_readPerson_86 : decode cX9_readPerson 86 = .ok (.invokevirtual 231, 3) := by decide +kernel
theorem dX9_readPerson_89 : decode cX9_readPerson 89 = .ok (.aload_n 0, 1) := by decide +kernel
theorem dX9_readPerson_90 : decode cX9_readPerson 90 = .ok (.getfield 35, 3) := by decide +kernel
theorem dX9_readPerson_93 : decode cX9_readPerson 93 = .ok (.sipush 3457, 3) := by decide +kernel
theorem dX9_readPerson_96 : decode cX9_readPerson 96 = .ok (.iload_n 1, 1) := by decide +kernel
theorem dX9_readPerson_97 : decode cX9_readPerson 97 = .ok (.iadd, 1) := by decide +kernel
theorem dX9_readPerson_98 : decode cX9_readPerson 98 = .ok (.aload_n 0, 1) := by decide +kernel
theorem dX9_readPerson_99 : decode cX9_readPerson 99 = .ok (.iconst 1, 1) := by decide +kernel
theorem dX9_readPerson_100 : decode cX9_readPerson 100 = .ok (.sipush 200, 3) := by decide +kernel
theorem dX9_readPerson_103 : decode cX9_readPerson 103 = .ok (.invokevirtual 260, 3) := by decide +kernel
theorem dX9_readPerson_106 : decode cX9_readPerson 106 = .ok (.iastore, 1) := by decide +kernel
theorem dX9_readPerson_107 : decode cX9_readPerson 107 = .ok (.aload_n 0, 1) := by decide +kernel
theorem dX9_readPerson_108 : decode cX9_readPerson 108 = .ok (.getfield 221, 3) := by decide +kernel
theorem dX9_readPerson_111 : decode cX9_readPerson 111 = .ok (.ifCond .ne 15, 3) := by decide +kernel
theorem dX9_readPerson_114 : decode cX9_readPerson 114 = .ok (.aload_n 0, 1) := by decide +kernel
theorem dX9_readPerson_115 : decode cX9_readPerson 115 = .ok (.getfield 35, 3) := by decide +kernel
theorem dX9_readPerson_118 : decode cX9_readPerson 118 = .ok (.sipush 3447, 3) := by decide +kernel
theorem dX9_readPerson_121 : decode cX9_readPerson 121 = .ok (.dup2, 1) := by decide +kernel
theorem dX9_readPerson_122 : decode cX9_readPerson 122 = .ok (.iaload, 1) := by decide +kernel
theorem dX9_readPerson_123 : decode cX9_readPerson 123 = .ok (.iconst 1, 1) := by decide +kernel
theorem dX9_readPerson_124 : decode cX9_readPerson 124 = .ok (.iadd, 1) := by decide +kernel
theorem dX9_readPerson_125 : decode cX9_readPerson 125 = .ok (.iastore, 1) := by decide +kernel
theorem dX9_readPerson_126 : decode cX9_readPerson 126 = .ok (.return_, 1) := by decide +kernel
def fX9_readPerson_107 (l0 : Nat) : mM Unit := bGI 9 l0 12 (fun x1 => bIf (x1 = 0) (bGR 9 l0 24 (fun x2 => bAI 11 x2 (3447 : Int32) (fun x3 => bSI x2 (3447 : Int32) (x3 + (1 : Int32)) (bRet ())))) (bRet ()))
set_option maxRecDepth 20000 in
theorem rX9_readPerson_107 (v : mE) (d : Nat) (l0 : Nat) : Rz v RX9 cX9_readPerson 2 none false emU (d + 6) 107 [(0, vR l0)] [] (fX9_readPerson_107 l0) := by
  unfold fX9_readPerson_107
  refine rz_aload_n 108 0 dX9_readPerson_107 rfl rfl ?_
  refine rz_gI 111 dX9_readPerson_108 rfl rfl fl_X9_221 (fun x1 => ?_)
  refine rz_if_ne 126 114 dX9_readPerson_111 rfl rfl ?_ ?_
  · exact rz_return rfl rfl dX9_readPerson_126
  · refine rz_aload_n 115 0 dX9_readPerson_114 rfl rfl ?_
    refine rz_gR 118 dX9_readPerson_115 rfl rfl fl_X9_35 (fun x2 => ?_)
    refine rz_sipush 121 dX9_readPerson_118 rfl cs_3447 ?_
    refine rz_dup2 122 dX9_readPerson_121 rfl rfl rfl ?_
    refine rz_iald 123 dX9_readPerson_122 rfl (fun x3 => ?_)
    refine rz_iconst 124 dX9_readPerson_123 rfl ci_1 ?_
    refine rz_iadd 125 dX9_readPerson_124 rfl ?_
    refine rz_iast 126 dX9_readPerson_125 rfl ?_
    exact rz_return rfl rfl dX9_readPerson_126
def fX9_readPerson_71 (l0 : Nat) (l1 : Int32) : mM Unit := bGI 9 l0 12 (fun x1 => bIf (x1 = 0) (bCallV 9 l0 (fX9_isDies l0) (fun x2 => bIf (x2 = 0) (fX9_readPerson_107 l0) (bCallV 9 l0 (fX9_next l0) (fun _ => bGR 9 l0 24 (fun x3 => bCallV 9 l0 (fX9_count l0 (1 : Int32) (200 : Int32)) (fun x4 => bSI x3 ((3457 : Int32) + l1) x4 (fX9_readPerson_107 l0))))))) (fX9_readPerson_107 l0))
set_option maxRecDepth 20000 in
theorem rX9_readPerson_71 (v : mE) (d : Nat) (l0 : Nat) (l1 : Int32) : Rz v RX9 cX9_readPerson 2 none false emU (d + 6) 71 [(0, vR l0), (1, vI l1)] [] (fX9_readPerson_71 l0 l1) := by
  unfold fX9_readPerson_71
  refine rz_aload_n 72 0 dX9_readPerson_71 rfl rfl ?_
  refine rz_gI 75 dX9_readPerson_72 rfl rfl fl_X9_221 (fun x1 => ?_)
  refine rz_if_ne 107 78 dX9_readPerson_75 rfl rfl ?_ ?_
  · exact rz_sub [0] rfl (rX9_readPerson_107 v d l0)
  · refine rz_aload_n 79 0 dX9_readPerson_78 rfl rfl ?_
    refine rz_callV 82 dX9_readPerson_79 rfl (tX9_isDies v (d + 4) l0) rfl rfl rfl rfl ml_X9_181 im_X9_isDies se_X9_X9_isDies in_X9 co_X9_isDies rfl rfl (fun x2 => ?_)
    refine rz_if_eq 107 85 dX9_readPerson_82 rfl rfl ?_ ?_
    · exact rz_sub [0] rfl (rX9_readPerson_107 v d l0)
    · refine rz_aload_n 86 0 dX9_readPerson_85 rfl rfl ?_
      refine rz_callV 89 dX9_readPerson_86 rfl (tX9_next v (d + 4) l0) rfl rfl rfl rfl ml_X9_231 im_X9_next se_X9_X9_next in_X9 co_X9_next rfl rfl (fun _ => ?_)
      refine rz_aload_n 90 0 dX9_readPerson_89 rfl rfl ?_
      refine rz_gR 93 dX9_readPerson_90 rfl rfl fl_X9_35 (fun x3 => ?_)
      refine rz_sipush 96 dX9_readPerson_93 rfl cs_3457 ?_
      refine rz_iload_n 97 1 dX9_readPerson_96 rfl rfl ?_
      refine rz_iadd 98 dX9_readPerson_97 rfl ?_
      refine rz_aload_n 99 0 dX9_readPerson_98 rfl rfl ?_
      refine rz_iconst 100 dX9_readPerson_99 rfl ci_1 ?_
      refine rz_sipush 103 dX9_readPerson_100 rfl cs_200 ?_
      refine rz_callV 106 dX9_readPerson_103 rfl (tX9_count v (d + 3) l0 (1 : Int32) (200 : Int32)) rfl rfl rfl rfl ml_X9_260 im_X9_count se_X9_X9_count in_X9 co_X9_count rfl rfl (fun x4 => ?_)
      refine rz_iast 107 dX9_readPerson_106 rfl ?_
      exact rz_sub [0] rfl (rX9_readPerson_107 v d l0)
def fX9_readPerson_25 (l0 : Nat) (l1 : Int32) : mM Unit := bGI 9 l0 12 (fun x1 => bIf (x1 ≤ 0) (bCallV 9 l0 (fX9_readNew l0 (0 : Int32) l1) (fun _ => bGI 9 l0 12 (fun x2 => bIf (x2 = 0) (bCallV 9 l0 (fX9_isOf l0) (fun x3 => bIf (x3 = 0) (fX9_readPerson_71 l0 l1) (bCallV 9 l0 (fX9_next l0) (fun _ => bGR 9 l0 24 (fun x4 => bCallV 9 l0 (fX9_readPersonName l0) (fun x5 => bSI x4 ((3449 : Int32) + l1) x5 (fX9_readPerson_71 l0 l1))))))) (fX9_readPerson_71 l0 l1)))) (bRet ()))
set_option maxRecDepth 20000 in
theorem rX9_readPerson_25 (v : mE) (d : Nat) (l0 : Nat) (l1 : Int32) : Rz v RX9 cX9_readPerson 2 none false emU (d + 6) 25 [(0, vR l0), (1, vI l1)] [] (fX9_readPerson_25 l0 l1) := by
  unfold fX9_readPerson_25
  refine rz_aload_n 26 0 dX9_readPerson_25 rfl rfl ?_
  refine rz_gI 29 dX9_readPerson_26 rfl rfl fl_X9_221 (fun x1 => ?_)
  refine rz_if_le 33 32 dX9_readPerson_29 rfl rfl ?_ ?_
  · refine rz_aload_n 34 0 dX9_readPerson_33 rfl rfl ?_
    refine rz_iconst 35 dX9_readPerson_34 rfl ci_0 ?_
    refine rz_iload_n 36 1 dX9_readPerson_35 rfl rfl ?_
    refine rz_callV 39 dX9_readPerson_36 rfl (tX9_readNew v (d + 0) l0 (0 : Int32) l1) rfl rfl rfl rfl ml_X9_263 im_X9_readNew se_X9_X9_readNew in_X9 co_X9_readNew rfl rfl (fun _ => ?_)
    refine rz_aload_n 40 0 dX9_readPerson_39 rfl rfl ?_
    refine rz_gI 43 dX9_readPerson_40 rfl rfl fl_X9_221 (fun x2 => ?_)
    refine rz_if_ne 71 46 dX9_readPerson_43 rfl rfl ?_ ?_
    · exact rz_sub [0, 1] rfl (rX9_readPerson_71 v d l0 l1)
    · refine rz_aload_n 47 0 dX9_readPerson_46 rfl rfl ?_
      refine rz_callV 50 dX9_readPerson_47 rfl (tX9_isOf v (d + 4) l0) rfl rfl rfl rfl ml_X9_178 im_X9_isOf se_X9_X9_isOf in_X9 co_X9_isOf rfl rfl (fun x3 => ?_)
      refine rz_if_eq 71 53 dX9_readPerson_50 rfl rfl ?_ ?_
      · exact rz_sub [0, 1] rfl (rX9_readPerson_71 v d l0 l1)
      · refine rz_aload_n 54 0 dX9_readPerson_53 rfl rfl ?_
        refine rz_callV 57 dX9_readPerson_54 rfl (tX9_next v (d + 4) l0) rfl rfl rfl rfl ml_X9_231 im_X9_next se_X9_X9_next in_X9 co_X9_next rfl rfl (fun _ => ?_)
        refine rz_aload_n 58 0 dX9_readPerson_57 rfl rfl ?_
        refine rz_gR 61 dX9_readPerson_58 rfl rfl fl_X9_35 (fun x4 => ?_)
        refine rz_sipush 64 dX9_readPerson_61 rfl cs_3449 ?_
        refine rz_iload_n 65 1 dX9_readPerson_64 rfl rfl ?_
        refine rz_iadd 66 dX9_readPerson_65 rfl ?_
        refine rz_aload_n 67 0 dX9_readPerson_66 rfl rfl ?_
        refine rz_callV 70 dX9_readPerson_67 rfl (tX9_readPersonName v (d + 0) l0) rfl rfl rfl rfl ml_X9_266 im_X9_readPersonName se_X9_X9_readPersonName in_X9 co_X9_readPersonName rfl rfl (fun x5 => ?_)
        refine rz_iast 71 dX9_readPerson_70 rfl ?_
        exact rz_sub [0, 1] rfl (rX9_readPerson_71 v d l0 l1)
  · exact rz_return rfl rfl dX9_readPerson_32
def fX9_readPerson (l0 : Nat) : mM Unit := bGR 9 l0 24 (fun x1 => bAI 11 x1 (3447 : Int32) (fun x2 => bIf (x2 = (8 : Int32)) (bGI 9 l0 15 (fun x3 => bCallV 9 l0 (fX9_fail l0 (6 : Int32) x3) (fun _ => fX9_readPerson_25 l0 x2))) (fX9_readPerson_25 l0 x2)))
set_option maxRecDepth 20000 in
theorem rX9_readPerson (v : mE) (d : Nat) (l0 : Nat) : Rz v RX9 cX9_readPerson 2 none false emU (d + 6) 0 [(0, vR l0)] [] (fX9_readPerson l0) := by
  unfold fX9_readPerson
  refine rz_aload_n 1 0 dX9_readPerson_0 rfl rfl ?_
  refine rz_gR 4 dX9_readPerson_1 rfl rfl fl_X9_35 (fun x1 => ?_)
  refine rz_sipush 7 dX9_readPerson_4 rfl cs_3447 ?_
  refine rz_iald 8 dX9_readPerson_7 rfl (fun x2 => ?_)
  refine rz_istore_n (lv' := [(1, vI x2), (0, vR l0)]) 9 dX9_readPerson_8 rfl rfl rfl ?_
  refine rz_iload_n 10 0 dX9_readPerson_9 rfl rfl ?_
  refine rz_bipush 12 dX9_readPerson_10 rfl cb_8 ?_
  refine rz_icmp_ne 25 15 dX9_readPerson_12 rfl rfl ?_ ?_
  · exact rz_sub [1, 0] rfl (rX9_readPerson_25 v d l0 x2)
  · refine rz_aload_n 16 1 dX9_readPerson_15 rfl rfl ?_
    refine rz_bipush 18 dX9_readPerson_16 rfl cb_6 ?_
    refine rz_aload_n 19 1 dX9_readPerson_18 rfl rfl ?_
    refine rz_gI 22 dX9_readPerson_19 rfl rfl fl_X9_107 (fun x3 => ?_)
    refine rz_callV 25 dX9_readPerson_22 rfl (tX9_fail v (d + 5) l0 (6 : Int32) x3) rfl rfl rfl rfl ml_X9_227 im_X9_fail se_X9_X9_fail in_X9 co_X9_fail rfl rfl (fun _ => ?_)
    exact rz_sub [1, 0] rfl (rX9_readPerson_25 v d l0 x2)
theorem tX9_readPerson (v : mE) (d : Nat) (l0 : Nat) : Mt v yX9_readPerson cX9_readPerson 2 none emU (d + 6) [vR l0] (fX9_readPerson l0) := mt_of rfl rfl (fun h => by cases h) rfl rfl (rX9_readPerson v d l0)
theorem dX9_readRope_0 : decode cX9_readRope 0 = .ok (.aload_n 0, 1) := by decide +kernel
theorem dX9_readRope_1 : decode cX9_readRope 1 = .ok (.getfield 249, 3) := by decide +kernel
theorem dX9_readRope_4 : decode cX9_readRope 4 = .ok (.istore_n 1, 1) := by decide +kernel
theorem dX9_readRope_5 : decode cX9_readRope 5 = .ok (.iload_n 1, 1) := by decide +kernel
theorem dX9_readRope_6 : decode cX9_readRope 6 = .ok (.bipush 6, 2) := by decide +kernel
theorem dX9_readRope_8 : decode cX9_readRope 8 = .ok (.if_icmp .ne 13, 3) := by decide +kernel
theorem dX9_readRope_11 : decode cX9_readRope 11 = .ok (.aload_n 0, 1) := by decide +kernel
theorem dX9_readRope_12 : decode cX9_readRope 12 = .ok (.bipush 6, 2) := by decide +kernel
theorem dX9_readRope_14 : decode cX9_readRope 14 = .ok (.aload_n 0, 1) := by decide +kernel
theorem dX9_readRope_15 : decode cX9_readRope 15 = .ok (.getfield 107, 3) := by decide +kernel
theorem dX9_readRope_18 : decode cX9_readRope 18 = .ok (.invokevirtual 227, 3) := by decide +kernel
theorem dX9_readRope_21 : decode cX9_readRope 21 = .ok (.aload_n 0, 1) := by decide +kernel
theorem dX9_readRope_22 : decode cX9_readRope 22 = .ok (.getfield 221, 3) := by decide +kernel
theorem dX9_readRope_25 : decode cX9_readRope 25 = .ok (.ifCond .le 4, 3) := by decide +kernel
theorem dX9_readRope_28 : decode cX9_readRope 28 = .ok (.return_, 1) := by decide +kernel
theorem dX9_readRope_29 : decode cX9_readRope 29 = .ok (.aload_n 0, 1) := by decide +kernel
theorem dX9_readRope_30 : decode cX9_readRope 30 = .ok (.bipush 8, 2) := by decide +kernel
theorem dX9_readRope_32 : decode cX9_readRope 32 = .ok (.iload_n 1, 1) := by decide +kernel
theorem dX9_readRope_33 : decode cX9_readRope 33 = .ok (.invokevirtual 263, 3) := by decide +kernel
theorem dX9_readRope_36 : decode cX9_readRope 36 = .ok (.aload_n 0, 1) := by decide +kernel
theorem dX9_readRope_37 : decode cX9_readRope 37 = .ok (.aload_n 0, 1) := by decide +kernel
theorem dX9_readRope_38 : decode cX9_readRope 38 = .ok (.invokevirtual 178, 3) := by decide +kernel
theorem dX9_readRope_41 : decode cX9_readRope 41 = .ok (.invokevirtual 252, 3) := by decide +kernel
theorem dX9_readRope_44 : decode cX9_readRope 44 = .ok (.aload_n 0, 1) := by decide +kernel
theorem dX9_readRope_45 : decode cX9_readRope 45 = .ok (.invokevirtual 266, 3) := by decide +kernel
theorem dX9_readRope_48 : decode cX9_readRope 48 = .ok (.istore_n 2, 1) := by decide +kernel
theorem dX9_readRope_49 : decode cX9_readRope 49 = .ok (.iconst 0, 1) := by decide +kernel
theorem dX9_readRope_50 : decode cX9_readRope 50 = .ok (.istore_n 3, 1) := by decide +kernel
theorem dX9_readRope_51 : decode cX9_readRope 51 = .ok (.iconst 1, 1) := by decide +kernel
theorem dX9_readRope_52 : decode cX9_readRope 52 = .ok (.istore 4, 2) := by decide +kernel
theorem dX9_readRope_54 : decode cX9_readRope 54 = .ok (.iload 4, 2) := by decide +kernel
theorem dX9_readRope_56 : decode cX9_readRope 56 = .ok (.ifCond .eq 129, 3) := by decide +kernel
theorem dX9_readRope_59 : decode cX9_readRope 59 = .ok (.aload_n 0, 1) := by decide +kernel
theorem dX9_readRope_60 : decode cX9_readRope 60 = .ok (.getfield 221, 3) := by decide +kernel
theorem dX9_readRope_63 : decode cX9_readRope 63 = .ok (.ifCond .ne 122, 3) := by decide +kernel
theorem dX9_readRope_66 : decode cX9_readRope 66 = .ok (.aload_n 0, 1) := by decide +kernel
theorem dX9_readRope_67 : decode cX9_readRope 67 = .ok (.getfield 221, 3) := by decide +kernel
theorem dX9_readRope_70 : decode cX9_readRope 70 = .ok (.ifCond .ne 25, 3) := by decide +kernel
theorem dX9_readRope_73 : decode cX9_readRope 73 = .ok (.aload_n 0, 1) := by decide +kernel
theorem dX9_readRope_74 : decode cX9_readRope 74 = .ok (.invokevirtual 154, 3) := by decide +kernel
theorem dX9_readRope_77 : decode cX9_readRope 77 = .ok (.ifCond .eq 18, 3) := by decide +kernel
theorem dX9_readRope_80 : decode cX9_readRope 80 = .ok (.iload_n 3, 1) := by decide +kernel
theorem dX9_readRope_81 : decode cX9_readRope 81 = .ok (.iconst 4, 1) := by decide +kernel
theorem dX9_readRope_82 : decode cX9_readRope 82 = .ok (.if_icmp .ne 13, 3) := by decide +kernel
theorem dX9_readRope_85 : decode cX9_readRope 85 = .ok (.aload_n 0, 1) := by decide +kernel
theorem dX9_readRope_86 : decode cX9_readRope 86 = .ok (.bipush 6, 2) := by decide +kernel
theorem dX9_readRope_88 : decode cX9_readRope 88 = .ok (.aload_n 0, 1) := by decide +kernel
theorem dX9_readRope_89 : decode cX9_readRope 89 = .ok (.getfield 107, 3) := by decide +kernel
theorem dX9_readRope_92 : decode cX9_readRope 92 = .ok (.invokevirtual 227, 3) := by decide +kernel
theorem dX9_readRope_95 : decode cX9_readRope 95 = .ok (.aload_n 0, 1) := by decide +kernel
theorem dX9_readRope_96 : decode cX9_readRope 96 = .ok (.aload_n 0, 1) := by decide +kernel
theorem dX9_readRope_97 : decode cX9_readRope 97 = .ok (.invokevirtual 154, 3) := by decide +kernel
theorem dX9_readRope_100 : decode cX9_readRope 100 = .ok (.invokevirtual 252, 3) := by decide +kernel
theorem dX9_readRope_103 : decode cX9_readRope 103 = .ok (.aload_n 0, 1) := by decide +kernel
theorem dX9_readRope_104 : decode cX9_readRope 104 = .ok (.iconst 1, 1) := by decide +kernel
theorem dX9_readRope_105 : decode cX9_readRope 105 = .ok (.sipush 200, 3) := by decide +kernel
theorem dX9_readRope_108 : decode cX9_readRope 108 = .ok (.invokevirtual 260, 3) := by decide +kernel
theorem dX9_readRope_111 : decode cX9_readRope 111 = .ok (.istore 5, 2) := by decide +kernel
theorem dX9_readRope_113 : decode cX9_readRope 113 = .ok (.aload_n 0, 1) := by decide +kernel
theorem dX9_readRope_114 : decode cX9_readRope 114 = .ok (.aload_n 0, 1) := by decide +kernel
theorem dX9_readRope_115 : decode cX9_readRope 115 = .ok (.invokevirtual 157, 3) := by decide +kernel
theorem dX9_readRope_118 : decode cX9_readRope 118 = .ok (.invokevirtual 252, 3) := by decide +kernel
theorem dX9_readRope_121 : decode cX9_readRope 121 = .ok (.aload_n 0, 1) := by decide +kernel
theorem dX9_readRope_122 : decode cX9_readRope 122 = .ok (.iconst 0, 1) := by decide +kernel
theorem dX9_readRope_123 : decode cX9_readRope 123 = .ok (.sipush 300, 3) := by decide +kernel
theorem dX9_readRope_126 : decode cX9_readRope 126 = .ok (.invokevirtual 260, 3) := by decide +kernel
theorem dX9_readRope_129 : decode cX9_readRope 129 = .ok (.istore 6, 2) := by decide +kernel
theorem dX9_readRope_131 : decode cX9_readRope 131 = .ok (.aload_n 0, 1) := by decide +kernel
theorem dX9_readRope_132 : decode cX9_readRope 132 = .ok (.getfield 221, 3) := by decide +kernel
theorem dX9_readRope_135 : decode cX9_readRope 135 = .ok (.ifCond .le 4, 3) := by decide +kernel
theorem dX9_readRope_138 : decode cX9_readRope 138 = .ok (.return_, 1) := by decide +kernel
theorem dX9_readRope_139 : decode cX9_readRope 139 = .ok (.aload_n 0, 1) := by decide +kernel
theorem dX9_readRope_140 : decode cX9_readRope 140 = .ok (.getfield 35, 3) := by decide +kernel
theorem dX9_readRope_143 : decode cX9_readRope 143 = .ok (.sipush 3537, 3) := by decide +kernel
theorem dX9_readRope_146 : decode cX9_readRope 146 = .ok (.bipush 8, 2) := by decide +kernel
theorem dX9_readRope_148 : decode cX9_readRope 148 = .ok (.iload_n 1, 1) := by decide +kernel
theorem dX9_readRope_149 : decode cX9_readRope 149 = .ok (.imul, 1) := by decide +kernel
theorem dX9_readRope_150 : decode cX9_readRope 150 = .ok (.iadd, 1) := by decide +kernel
theorem dX9_readRope_151 : decode cX9_readRope 151 = .ok (.iload_n 3, 1) := by decide +kernel
theorem dX9_readRope_152 : decode cX9_readRope 152 = .ok (.iadd, 1) := by decide +kernel
theorem dX9_readRope_153 : decode cX9_readRope 153 = .ok (.iload 5, 2) := by decide +kernel
theorem dX9_readRope_155 : decode cX9_readRope 155 = .ok (.iastore, 1) := by decide +kernel
theorem dX9_readRope_156 : decode cX9_readRope 156 = .ok (.aload_n 0, 1) := by decide +kernel
theorem dX9_readRope_157 : decode cX9_readRope 157 = .ok (.getfield 35, 3) := by decide +kernel
theorem dX9_readRope_160 : decode cX9_readRope 160 = .ok (.sipush 3633, 3) := by decide +kernel
theorem dX9_readRope_163 : decode cX9_readRope 163 = .ok (.bipush 8, 2) := by decide +kernel
theorem dX9_readRope_165 : decode cX9_readRope 165 = .ok (.iload_n 1, 1) := by decide +kernel
theorem dX9_readRope_166 : decode cX9_readRope 166 = .ok (.imul, 1) := by decide +kernel
theorem dX9_readRope_167 : decode cX9_readRope 167 = .ok (.iadd, 1) := by decide +kernel
theorem dX9_readRope_168 : decode cX9_readRope 168 = .ok (.iload_n 3, 1) := by decide +kernel
theorem dX9_readRope_169 : decode cX9_readRope 169 = .ok (.iadd, 1) := by decide +kernel
theorem dX9_readRope_170 : decode cX9_readRope 170 = .ok (.iload 6, 2) := by decide +kernel
theorem dX9_readRope_172 : decode cX9_readRope 172 = .ok (.iastore, 1) := by decide +kernel
theorem dX9_readRope_173 : decode cX9_readRope 173 = .ok (.iinc 3 1, 3) := by decide +kernel
theorem dX9_readRope_176 : decode cX9_readRope 176 = .ok (.aload_n 0, 1) := by decide +kernel
theorem dX9_readRope_177 : decode cX9_readRope 177 = .ok (.invokevirtual 154, 3) := by decide +kernel
theorem dX9_readRope_180 : decode cX9_readRope 180 = .ok (.istore 4, 2) := by decide +kernel
theorem dX9_readRope_182 : decode cX9_readRope 182 = .ok (.goto (-128), 3) := by decide +kernel
theorem dX9_readRope_185 : decode cX9_readRope 185 = .ok (.iconst 0, 1) := by decide +kernel
theorem dX9_readRope_186 : decode cX9_readRope 186 = .ok (.istore 5, 2) := by decide +kernel
theorem dX9_readRope_188 : decode cX9_readRope 188 = .ok (.iconst 0, 1) := by decide +kernel
theorem dX9_readRope_189 : decode cX9_readRope 189 = .ok (.istore 6, 2) := by decide +kernel
theorem dX9_readRope_191 : decode cX9_readRope 191 = .ok (.aload_n 0, 1) := by decide +kernel
theorem dX9_readRope_192 : decode cX9_readRope 192 = .ok (.getfield 221, 3) := by decide +kernel
theorem dX9_readRope_195 : decode cX9_readRope 195 = .ok (.ifCond .ne 17, 3) := by decide +kernel
theorem dX9_readRope_198 : decode cX9_readRope 198 = .ok (.aload_n 0, 1) := by decide +kernel
theorem dX9_readRope_199 : decode cX9_readRope 199 = .ok (.invokevirtual 146, 3) := by decide +kernel
theorem dX9_readRope_202 : decode cX9_readRope 202 = .ok (.ifCond .eq 10, 3) := by decide +kernel
theorem dX9_readRope_205 : decode cX9_readRope 205 = .ok (.aload_n 0, 1) := by decide +kernel
theorem dX9_readRope_206 : decode cX9_readRope 206 = .ok (.invokevirtual 231, 3) := by decide +kernel
theorem dX9_readRope_209 : decode cX9_readRope 209 = .ok (.iconst 1, 1) := by decide +kernel
theorem dX9_readRope_210 : decode cX9_readRope 210 = .ok (.istore 5, 2) := by decide +kernel
theorem dX9_readRope_212 : decode cX9_readRope 212 = .ok (.aload_n 0, 1) := by decide +kernel
theorem dX9_readRope_213 : decode cX9_readRope 213 = .ok (.getfield 221, 3) := by decide +kernel
theorem dX9_readRope_216 : decode cX9_readRope 216 = .ok (.ifCond .ne 23, 3) := by decide +kernel
theorem dX9_readRope_219 : decode cX9_readRope 219 = .ok (.aload_n 0, 1) := by decide +kernel
theorem dX9_readRope_220 : decode cX9_readRope 220 = .ok (.invokevirtual 187, 3) := by decide +kernel
theorem dX9_readRope_223 : decode cX9_readRope 223 = .ok (.ifCond .eq 16, 3) := by decide +kernel
theorem dX9_readRope_226 : decode cX9_readRope 226 = .ok (.aload_n 0, 1) := by decide +kernel
theorem dX9_readRope_227 : decode cX9_readRope 227 = .ok (.invokevirtual 231, 3) := by decide +kernel
theorem dX9_readRope_230 : decode cX9_readRope 230 = .ok (.aload_n 0, 1) := by decide +kernel
theorem dX9_readRope_231 : decode cX9_readRope 231 = .ok (.iconst 0, 1) := by decide +kernel
theorem dX9_readRope_232 : decode cX9_readRope 232 = .ok (.bipush 15, 2) := by decide +kernel
theorem dX9_readRope_234 : decode cX9_readRope 234 = .ok (.invokevirtual 260, 3) := by decide +kernel
theorem dX9_readRope_237 : decode cX9_readRope 237 = .ok (.istore 6, 2) := by decide +kernel
theorem dX9_readRope_239 : decode cX9_readRope 239 = .ok (.aload_n 0, 1) := by decide +kernel
theorem dX9_readRope_240 : decode cX9_readRope 240 = .ok (.getfield 221, 3) := by decide +kernel
theorem dX9_readRope_243 : decode cX9_readRope 243 = .ok (.ifCond .le 4, 3) := by decide +kernel
theorem dX9_readRope_246 : decode cX9_readRope 246 = .ok (.return_, 1) := by decide +kernel
theorem dX9_readRope_247 : decode cX9_readRope 247 = .ok (.aload_n 0, 1) := by decide +kernel
theorem dX9_readRope_248 : decode cX9_readRope 248 = .ok (.getfield 35, 3) := by decide +kernel
theorem dX9_readRope_251 : decode cX9_readRope 251 = .ok (.sipush 3477, 3) := by decide +kernel
theorem dX9_readRope_254 : decode cX9_readRope 254 = .ok (.iload_n 1, 1) := by decide +kernel
theorem dX9_readRope_255 : decode cX9_readRope 255 = .ok (.iadd, 1) := by decide +kernel
theorem dX9_readRope_256 : decode cX9_readRope 256 = .ok (.iload_n 2, 1) := by decide +kernel
theorem dX9_readRope_257 : decode cX9_readRope 257 = .ok (.iastore, 1) := by decide +kernel
theorem dX9_readRope_258 : decode cX9_readRope 258 = .ok (.aload_n 0, 1) := by decide +kernel
theorem dX9_readRope_259 : decode cX9_readRope 259 = .ok (.getfield 35, 3) := by decide +kernel
theorem dX9_readRope_262 : decode cX9_readRope 262 = .ok (.sipush 3501, 3) := by decide +kernel
theorem dX9_readRope_265 : decode cX9_readRope 265 = .ok (.iload_n 1, 1) := by decide +kernel
theorem dX9_readRope_266 : decode cX9_readRope 266 = .ok (.iadd, 1) := by decide +kernel
theorem dX9_readRope_267 : decode cX9_readRope 267 = .ok (.iload 5, 2) := by decide +kernel
theorem dX9_readRope_269 : decode cX9_readRope 269 = .ok (.iastore, 1) := by decide +kernel
theorem dX9_readRope_270 : decode cX9_readRope 270 = .ok (.aload_n 0, 1) := by decide +kernel
theorem dX9_readRope_271 : decode cX9_readRope 271 = .ok (.getfield 35, 3) := by decide +kernel
theorem dX9_readRope_274 : decode cX9_readRope 274 = .ok (.sipush 3513, 3) := by decide +kernel
theorem dX9_readRope_277 : decode cX9_readRope 277 = .ok (.iload_n 1, 1) := by decide +kernel
theorem dX9_readRope_278 : decode cX9_readRope 278 = .ok (.iadd, 1) := by decide +kernel
theorem dX9_readRope_279 : decode cX9_readRope 279 = .ok (.iload 6, 2) := by decide +kernel
theorem dX9_readRope_281 : decode cX9_readRope 281 = .ok (.iastore, 1) := by decide +kernel
theorem dX9_readRope_282 : decode cX9_readRope 282 = .ok (.aload_n 0, 1) := by decide +kernel
theorem dX9_readRope_283 : decode cX9_readRope 283 = .ok (.getfield 35, 3) := by decide +kernel
theorem dX9_readRope_286 : decode cX9_readRope 286 = .ok (.sipush 3525, 3) := by decide +kernel
theorem dX9_readRope_289 : decode cX9_readRope 289 = .ok (.iload_n 1, 1) := by decide +kernel
theorem dX9_readRope_290 : decode cX9_readRope 290 = .ok (.iadd, 1) := by decide +kernel
theorem dX9_readRope_291 : decode cX9_readRope 291 = .ok (.iload_n 3, 1) := by decide +kernel
theorem dX9_readRope_292 : decode cX9_readRope 292 = .ok (.iastore, 1) := by decide +kernel
theorem dX9_readRope_293 : decode cX9_readRope 293 = .ok (.aload_n 0, 1) := by decide +kernel
theorem dX9_readRope_294 : decode cX9_readRope 294 = .ok (.dup, 1) := by decide +kernel
theorem dX9_readRope_295 : decode cX9_readRope 295 = .ok (.getfield 249, 3) := by decide +kernel
theorem dX9_readRope_298 : decode cX9_readRope 298 = .ok (.iconst 1, 1) := by decide +kernel
theorem dX9_readRope_299 : decode cX9_readRope 299 = .ok (.iadd, 1) := by decide +kernel
theorem dX9_readRope_300 : decode cX9_readRope 300 = .ok (.putfield 249, 3) := by decide +kernel
theorem dX9_readRope_303 : decode cX9_readRope 303 = .ok (.return_, 1) := by decide +kernel
def fX9_readRope_239 (l0 : Nat) (l1 : Int32) (l2 : Int32) (l3 : Int32) (l5 : Int32) (l6 : Int32) : mM Unit := bGI 9 l0 12 (fun x1 => bIf (x1 ≤ 0) (bGR 9 l0 24 (fun x2 => bSI x2 ((3477 : Int32) + l1) l2 (bGR 9 l0 24 (fun x3 => bSI x3 ((3501 : Int32) + l1) l5 (bGR 9 l0 24 (fun x4 => bSI x4 ((3513 : Int32) + l1) l6 (bGR 9 l0 24 (fun x5 => bSI x5 ((3525 : Int32) + l1) l3 (bGI 9 l0 21 (fun x6 => bPI 9 l0 21 (x6 + (1 : Int32)) (bRet ()))))))))))) (bRet ()))
set_option maxRecDepth 20000 in
theorem rX9_readRope_239 (v : mE) (d : Nat) (l0 : Nat) (l1 : Int32) (l2 : Int32) (l3 : Int32) (l5 : Int32) (l6 : Int32) : Rz v RX9 cX9_readRope 7 none false emU (d + 6) 239 [(0, vR l0), (1, vI l1), (2, vI l2), (3, vI l3), (5, vI l5), (6, vI l6)] [] (fX9_readRope_239 l0 l1 l2 l3 l5 l6) := by
  unfold fX9_readRope_239
  refine rz_aload_n 240 0 dX9_readRope_239 rfl rfl ?_
  refine rz_gI 243 dX9_readRope_240 rfl rfl fl_X9_221 (fun x1 => ?_)
  refine rz_if_le 247 246 dX9_readRope_243 rfl rfl ?_ ?_
  · refine rz_aload_n 248 0 dX9_readRope_247 rfl rfl ?_
    refine rz_gR 251 dX9_readRope_248 rfl rfl fl_X9_35 (fun x2 => ?_)
    refine rz_sipush 254 dX9_readRope_251 rfl cs_3477 ?_
    refine rz_iload_n 255 1 dX9_readRope_254 rfl rfl ?_
    refine rz_iadd 256 dX9_readRope_255 rfl ?_
    refine rz_iload_n 257 2 dX9_readRope_256 rfl rfl ?_
    refine rz_iast 258 dX9_readRope_257 rfl ?_
    refine rz_aload_n 259 0 dX9_readRope_258 rfl rfl ?_
    refine rz_gR 262 dX9_readRope_259 rfl rfl fl_X9_35 (fun x3 => ?_)
    refine rz_sipush 265 dX9_readRope_262 rfl cs_3501 ?_
    refine rz_iload_n 266 1 dX9_readRope_265 rfl rfl ?_
    refine rz_iadd 267 dX9_readRope_266 rfl ?_
    refine rz_iload 269 4 dX9_readRope_267 rfl rfl ?_
    refine rz_iast 270 dX9_readRope_269 rfl ?_
    refine rz_aload_n 271 0 dX9_readRope_270 rfl rfl ?_
    refine rz_gR 274 dX9_readRope_271 rfl rfl fl_X9_35 (fun x4 => ?_)
    refine rz_sipush 277 dX9_readRope_274 rfl cs_3513 ?_
    refine rz_iload_n 278 1 dX9_readRope_277 rfl rfl ?_
    refine rz_iadd 279 dX9_readRope_278 rfl ?_
    refine rz_iload 281 5 dX9_readRope_279 rfl rfl ?_
    refine rz_iast 282 dX9_readRope_281 rfl ?_
    refine rz_aload_n 283 0 dX9_readRope_282 rfl rfl ?_
    refine rz_gR 286 dX9_readRope_283 rfl rfl fl_X9_35 (fun x5 => ?_)
    refine rz_sipush 289 dX9_readRope_286 rfl cs_3525 ?_
    refine rz_iload_n 290 1 dX9_readRope_289 rfl rfl ?_
    refine rz_iadd 291 dX9_readRope_290 rfl ?_
    refine rz_iload_n 292 3 dX9_readRope_291 rfl rfl ?_
    refine rz_iast 293 dX9_readRope_292 rfl ?_
    refine rz_aload_n 294 0 dX9_readRope_293 rfl rfl ?_
    refine rz_dup 295 dX9_readRope_294 rfl rfl ?_
    refine rz_gI 298 dX9_readRope_295 rfl rfl fl_X9_249 (fun x6 => ?_)
    refine rz_iconst 299 dX9_readRope_298 rfl ci_1 ?_
    refine rz_iadd 300 dX9_readRope_299 rfl ?_
    refine rz_pI 303 dX9_readRope_300 rfl rfl rfl rfl fl_X9_249 ?_
    exact rz_return rfl rfl dX9_readRope_303
  · exact rz_return rfl rfl dX9_readRope_246
def fX9_readRope_212 (l0 : Nat) (l1 : Int32) (l2 : Int32) (l3 : Int32) (l5 : Int32) (l6 : Int32) : mM Unit := bGI 9 l0 12 (fun x1 => bIf (x1 = 0) (bCallV 9 l0 (fX9_isSlips l0) (fun x2 => bIf (x2 = 0) (fX9_readRope_239 l0 l1 l2 l3 l5 l6) (bCallV 9 l0 (fX9_next l0) (fun _ => bCallV 9 l0 (fX9_count l0 (0 : Int32) (15 : Int32)) (fun x3 => fX9_readRope_239 l0 l1 l2 l3 l5 x3))))) (fX9_readRope_239 l0 l1 l2 l3 l5 l6))
set_option maxRecDepth 20000 in
theorem rX9_readRope_212 (v : mE) (d : Nat) (l0 : Nat) (l1 : Int32) (l2 : Int32) (l3 : Int32) (l5 : Int32) (l6 : Int32) : Rz v RX9 cX9_readRope 7 none false emU (d + 6) 212 [(0, vR l0), (1, vI l1), (2, vI l2), (3, vI l3), (5, vI l5), (6, vI l6)] [] (fX9_readRope_212 l0 l1 l2 l3 l5 l6) := by
  unfold fX9_readRope_212
  refine rz_aload_n 213 0 dX9_readRope_212 rfl rfl ?_
  refine rz_gI 216 dX9_readRope_213 rfl rfl fl_X9_221 (fun x1 => ?_)
  refine rz_if_ne 239 219 dX9_readRope_216 rfl rfl ?_ ?_
  · exact rz_sub [0, 1, 2, 3, 4, 5] rfl (rX9_readRope_239 v d l0 l1 l2 l3 l5 l6)
  · refine rz_aload_n 220 0 dX9_readRope_219 rfl rfl ?_
    refine rz_callV 223 dX9_readRope_220 rfl (tX9_isSlips v (d + 4) l0) rfl rfl rfl rfl ml_X9_187 im_X9_isSlips se_X9_X9_isSlips in_X9 co_X9_isSlips rfl rfl (fun x2 => ?_)
    refine rz_if_eq 239 226 dX9_readRope_223 rfl rfl ?_ ?_
    · exact rz_sub [0, 1, 2, 3, 4, 5] rfl (rX9_readRope_239 v d l0 l1 l2 l3 l5 l6)
    · refine rz_aload_n 227 0 dX9_readRope_226 rfl rfl ?_
      refine rz_callV 230 dX9_readRope_227 rfl (tX9_next v (d + 4) l0) rfl rfl rfl rfl ml_X9_231 im_X9_next se_X9_X9_next in_X9 co_X9_next rfl rfl (fun _ => ?_)
      refine rz_aload_n 231 0 dX9_readRope_230 rfl rfl ?_
      refine rz_iconst 232 dX9_readRope_231 rfl ci_0 ?_
      refine rz_bipush 234 dX9_readRope_232 rfl cb_15 ?_
      refine rz_callV 237 dX9_readRope_234 rfl (tX9_count v (d + 3) l0 (0 : Int32) (15 : Int32)) rfl rfl rfl rfl ml_X9_260 im_X9_count se_X9_X9_count in_X9 co_X9_count rfl rfl (fun x3 => ?_)
      refine rz_istore (lv' := [(6, vI x3), (0, vR l0), (1, vI l1), (2, vI l2), (3, vI l3), (5, vI l5)]) 239 dX9_readRope_237 rfl rfl rfl ?_
      exact rz_sub [1, 2, 3, 4, 5, 0] rfl (rX9_readRope_239 v d l0 l1 l2 l3 l5 x3)
def fX9_readRope_185 (l0 : Nat) (l1 : Int32) (l2 : Int32) (l3 : Int32) : mM Unit := bGI 9 l0 12 (fun x1 => bIf (x1 = 0) (bCallV 9 l0 (fX9_isHoly l0) (fun x2 => bIf (x2 = 0) (fX9_readRope_212 l0 l1 l2 l3 (0 : Int32) (0 : Int32)) (bCallV 9 l0 (fX9_next l0) (fun _ => fX9_readRope_212 l0 l1 l2 l3 (1 : Int32) (0 : Int32))))) (fX9_readRope_212 l0 l1 l2 l3 (0 : Int32) (0 : Int32)))
set_option maxRecDepth 20000 in
theorem rX9_readRope_185 (v : mE) (d : Nat) (l0 : Nat) (l1 : Int32) (l2 : Int32) (l3 : Int32) : Rz v RX9 cX9_readRope 7 none false emU (d + 6) 185 [(0, vR l0), (1, vI l1), (2, vI l2), (3, vI l3)] [] (fX9_readRope_185 l0 l1 l2 l3) := by
  unfold fX9_readRope_185
  refine rz_iconst 186 dX9_readRope_185 rfl ci_0 ?_
  refine rz_istore (lv' := [(5, vI (0 : Int32)), (0, vR l0), (1, vI l1), (2, vI l2), (3, vI l3)]) 188 dX9_readRope_186 rfl rfl rfl ?_
  refine rz_iconst 189 dX9_readRope_188 rfl ci_0 ?_
  refine rz_istore (lv' := [(6, vI (0 : Int32)), (5, vI (0 : Int32)), (0, vR l0), (1, vI l1), (2, vI l2), (3, vI l3)]) 191 dX9_readRope_189 rfl rfl rfl ?_
  refine rz_aload_n 192 2 dX9_readRope_191 rfl rfl ?_
  refine rz_gI 195 dX9_readRope_192 rfl rfl fl_X9_221 (fun x1 => ?_)
  refine rz_if_ne 212 198 dX9_readRope_195 rfl rfl ?_ ?_
  · exact rz_sub [2, 3, 4, 5, 1, 0] rfl (rX9_readRope_212 v d l0 l1 l2 l3 (0 : Int32) (0 : Int32))
  · refine rz_aload_n 199 2 dX9_readRope_198 rfl rfl ?_
    refine rz_callV 202 dX9_readRope_199 rfl (tX9_isHoly v (d + 4) l0) rfl rfl rfl rfl ml_X9_146 im_X9_isHoly se_X9_X9_isHoly in_X9 co_X9_isHoly rfl rfl (fun x2 => ?_)
    refine rz_if_eq 212 205 dX9_readRope_202 rfl rfl ?_ ?_
    · exact rz_sub [2, 3, 4, 5, 1, 0] rfl (rX9_readRope_212 v d l0 l1 l2 l3 (0 : Int32) (0 : Int32))
    · refine rz_aload_n 206 2 dX9_readRope_205 rfl rfl ?_
      refine rz_callV 209 dX9_readRope_206 rfl (tX9_next v (d + 4) l0) rfl rfl rfl rfl ml_X9_231 im_X9_next se_X9_X9_next in_X9 co_X9_next rfl rfl (fun _ => ?_)
      refine rz_iconst 210 dX9_readRope_209 rfl ci_1 ?_
      refine rz_istore (lv' := [(5, vI (1 : Int32)), (6, vI (0 : Int32)), (0, vR l0), (1, vI l1), (2, vI l2), (3, vI l3)]) 212 dX9_readRope_210 rfl rfl rfl ?_
      exact rz_sub [2, 3, 4, 5, 0, 1] rfl (rX9_readRope_212 v d l0 l1 l2 l3 (1 : Int32) (0 : Int32))
def fX9_readRope_95 (r54 : Nat → Int32 → Int32 → Int32 → Int32 → mM Unit) (l0 : Nat) (l1 : Int32) (l2 : Int32) (l3 : Int32) : mM Unit := bCallV 9 l0 (fX9_isYards l0) (fun x1 => bCallV 9 l0 (fX9_must l0 x1) (fun _ => bCallV 9 l0 (fX9_count l0 (1 : Int32) (200 : Int32)) (fun x2 => bCallV 9 l0 (fX9_isAge l0) (fun x3 => bCallV 9 l0 (fX9_must l0 x3) (fun _ => bCallV 9 l0 (fX9_count l0 (0 : Int32) (300 : Int32)) (fun x4 => bGI 9 l0 12 (fun x5 => bIf (x5 ≤ 0) (bGR 9 l0 24 (fun x6 => bSI x6 (((3537 : Int32) + ((8 : Int32) * l1)) + l3) x2 (bGR 9 l0 24 (fun x7 => bSI x7 (((3633 : Int32) + ((8 : Int32) * l1)) + l3) x4 (bCallV 9 l0 (fX9_isYards l0) (fun x8 => r54 l0 l1 l2 (l3 + 1) x8)))))) (bRet ()))))))))
set_option maxRecDepth 20000 in
theorem rX9_readRope_95 (v : mE) (d : Nat) (r54 : Nat → Int32 → Int32 → Int32 → Int32 → mM Unit) (h54 : ∀ (y0 : Nat) (y1 : Int32) (y2 : Int32) (y3 : Int32) (y4 : Int32), Rz v RX9 cX9_readRope 7 none false emU (d + 6) 54 [(0, vR y0), (1, vI y1), (2, vI y2), (3, vI y3), (4, vI y4)] [] (r54 y0 y1 y2 y3 y4)) (l0 : Nat) (l1 : Int32) (l2 : Int32) (l3 : Int32) : Rz v RX9 cX9_readRope 7 none false emU (d + 6) 95 [(0, vR l0), (1, vI l1), (2, vI l2), (3, vI l3)] [] (fX9_readRope_95 r54 l0 l1 l2 l3) := by
  unfold fX9_readRope_95
  refine rz_aload_n 96 0 dX9_readRope_95 rfl rfl ?_
  refine rz_aload_n 97 0 dX9_readRope_96 rfl rfl ?_
  refine rz_callV 100 dX9_readRope_97 rfl (tX9_isYards v (d + 4) l0) rfl rfl rfl rfl ml_X9_154 im_X9_isYards se_X9_X9_isYards in_X9 co_X9_isYards rfl rfl (fun x1 => ?_)
  refine rz_callV 103 dX9_readRope_100 rfl (tX9_must v (d + 3) l0 x1) rfl rfl rfl rfl ml_X9_252 im_X9_must se_X9_X9_must in_X9 co_X9_must rfl rfl (fun _ => ?_)
  refine rz_aload_n 104 0 dX9_readRope_103 rfl rfl ?_
  refine rz_iconst 105 dX9_readRope_104 rfl ci_1 ?_
  refine rz_sipush 108 dX9_readRope_105 rfl cs_200 ?_
  refine rz_callV 111 dX9_readRope_108 rfl (tX9_count v (d + 3) l0 (1 : Int32) (200 : Int32)) rfl rfl rfl rfl ml_X9_260 im_X9_count se_X9_X9_count in_X9 co_X9_count rfl rfl (fun x2 => ?_)
  refine rz_istore (lv' := [(5, vI x2), (0, vR l0), (1, vI l1), (2, vI l2), (3, vI l3)]) 113 dX9_readRope_111 rfl rfl rfl ?_
  refine rz_aload_n 114 1 dX9_readRope_113 rfl rfl ?_
  refine rz_aload_n 115 1 dX9_readRope_114 rfl rfl ?_
  refine rz_callV 118 dX9_readRope_115 rfl (tX9_isAge v (d + 4) l0) rfl rfl rfl rfl ml_X9_157 im_X9_isAge se_X9_X9_isAge in_X9 co_X9_isAge rfl rfl (fun x3 => ?_)
  refine rz_callV 121 dX9_readRope_118 rfl (tX9_must v (d + 3) l0 x3) rfl rfl rfl rfl ml_X9_252 im_X9_must se_X9_X9_must in_X9 co_X9_must rfl rfl (fun _ => ?_)
  refine rz_aload_n 122 1 dX9_readRope_121 rfl rfl ?_
  refine rz_iconst 123 dX9_readRope_122 rfl ci_0 ?_
  refine rz_sipush 126 dX9_readRope_123 rfl cs_300 ?_
  refine rz_callV 129 dX9_readRope_126 rfl (tX9_count v (d + 3) l0 (0 : Int32) (300 : Int32)) rfl rfl rfl rfl ml_X9_260 im_X9_count se_X9_X9_count in_X9 co_X9_count rfl rfl (fun x4 => ?_)
  refine rz_istore (lv' := [(6, vI x4), (5, vI x2), (0, vR l0), (1, vI l1), (2, vI l2), (3, vI l3)]) 131 dX9_readRope_129 rfl rfl rfl ?_
  refine rz_aload_n 132 2 dX9_readRope_131 rfl rfl ?_
  refine rz_gI 135 dX9_readRope_132 rfl rfl fl_X9_221 (fun x5 => ?_)
  refine rz_if_le 139 138 dX9_readRope_135 rfl rfl ?_ ?_
  · refine rz_aload_n 140 2 dX9_readRope_139 rfl rfl ?_
    refine rz_gR 143 dX9_readRope_140 rfl rfl fl_X9_35 (fun x6 => ?_)
    refine rz_sipush 146 dX9_readRope_143 rfl cs_3537 ?_
    refine rz_bipush 148 dX9_readRope_146 rfl cb_8 ?_
    refine rz_iload_n 149 3 dX9_readRope_148 rfl rfl ?_
    refine rz_imul 150 dX9_readRope_149 rfl ?_
    refine rz_iadd 151 dX9_readRope_150 rfl ?_
    refine rz_iload_n 152 5 dX9_readRope_151 rfl rfl ?_
    refine rz_iadd 153 dX9_readRope_152 rfl ?_
    refine rz_iload 155 1 dX9_readRope_153 rfl rfl ?_
    refine rz_iast 156 dX9_readRope_155 rfl ?_
    refine rz_aload_n 157 2 dX9_readRope_156 rfl rfl ?_
    refine rz_gR 160 dX9_readRope_157 rfl rfl fl_X9_35 (fun x7 => ?_)
    refine rz_sipush 163 dX9_readRope_160 rfl cs_3633 ?_
    refine rz_bipush 165 dX9_readRope_163 rfl cb_8 ?_
    refine rz_iload_n 166 3 dX9_readRope_165 rfl rfl ?_
    refine rz_imul 167 dX9_readRope_166 rfl ?_
    refine rz_iadd 168 dX9_readRope_167 rfl ?_
    refine rz_iload_n 169 5 dX9_readRope_168 rfl rfl ?_
    refine rz_iadd 170 dX9_readRope_169 rfl ?_
    refine rz_iload 172 0 dX9_readRope_170 rfl rfl ?_
    refine rz_iast 173 dX9_readRope_172 rfl ?_
    refine rz_iinc (lv' := [(3, vI (l3 + 1)), (6, vI x4), (5, vI x2), (0, vR l0), (1, vI l1), (2, vI l2)]) 176 5 dX9_readRope_173 rfl rfl (cn_1 _) rfl rfl ?_
    refine rz_aload_n 177 3 dX9_readRope_176 rfl rfl ?_
    refine rz_callV 180 dX9_readRope_177 rfl (tX9_isYards v (d + 4) l0) rfl rfl rfl rfl ml_X9_154 im_X9_isYards se_X9_X9_isYards in_X9 co_X9_isYards rfl rfl (fun x8 => ?_)
    refine rz_istore (lv' := [(4, vI x8), (3, vI (l3 + 1)), (6, vI x4), (5, vI x2), (0, vR l0), (1, vI l1), (2, vI l2)]) 182 dX9_readRope_180 rfl rfl rfl ?_
    refine rz_goto 54 dX9_readRope_182 rfl ?_
    exact rz_sub [4, 5, 6, 1, 0] rfl (h54 l0 l1 l2 (l3 + 1) x8)
  · exact rz_return rfl rfl dX9_readRope_138
def fX9_readRope_54 : Nat → Nat → Int32 → Int32 → Int32 → Int32 → mM Unit
  | 0 => fun _ _ _ _ _ => fun _ => none
  | n + 1 => fun l0 l1 l2 l3 l4 => let r54 := fX9_readRope_54 n; bIf (l4 = 0) (fX9_readRope_185 l0 l1 l2 l3) (bGI 9 l0 12 (fun x1 => bIf (x1 = 0) (bGI 9 l0 12 (fun x2 => bIf (x2 = 0) (bCallV 9 l0 (fX9_isYards l0) (fun x3 => bIf (x3 = 0) (fX9_readRope_95 r54 l0 l1 l2 l3) (bIf (l3 = (4 : Int32)) (bGI 9 l0 15 (fun x4 => bCallV 9 l0 (fX9_fail l0 (6 : Int32) x4) (fun _ => fX9_readRope_95 r54 l0 l1 l2 l3))) (fX9_readRope_95 r54 l0 l1 l2 l3)))) (fX9_readRope_95 r54 l0 l1 l2 l3))) (fX9_readRope_185 l0 l1 l2 l3)))
theorem qX9_readRope_54  (n : Nat) (l0 : Nat) (l1 : Int32) (l2 : Int32) (l3 : Int32) (l4 : Int32) : fX9_readRope_54 (n + 1) l0 l1 l2 l3 l4 = bIf (l4 = 0) (fX9_readRope_185 l0 l1 l2 l3) (bGI 9 l0 12 (fun x1 => bIf (x1 = 0) (bGI 9 l0 12 (fun x2 => bIf (x2 = 0) (bCallV 9 l0 (fX9_isYards l0) (fun x3 => bIf (x3 = 0) (fX9_readRope_95 (fX9_readRope_54 n) l0 l1 l2 l3) (bIf (l3 = (4 : Int32)) (bGI 9 l0 15 (fun x4 => bCallV 9 l0 (fX9_fail l0 (6 : Int32) x4) (fun _ => fX9_readRope_95 (fX9_readRope_54 n) l0 l1 l2 l3))) (fX9_readRope_95 (fX9_readRope_54 n) l0 l1 l2 l3)))) (fX9_readRope_95 (fX9_readRope_54 n) l0 l1 l2 l3))) (fX9_readRope_185 l0 l1 l2 l3))) := rfl
set_option maxRecDepth 20000 in
theorem rX9_readRope_54 (v : mE) (d : Nat) : ∀ (n : Nat) (l0 : Nat) (l1 : Int32) (l2 : Int32) (l3 : Int32) (l4 : Int32), Rz v RX9 cX9_readRope 7 none false emU (d + 6) 54 [(0, vR l0), (1, vI l1), (2, vI l2), (3, vI l3), (4, vI l4)] [] (fX9_readRope_54 n l0 l1 l2 l3 l4)
  | 0, _, _, _, _, _ => fun _ _ _ hm => by cases hm
  | n + 1, l0, l1, l2, l3, l4 => by
    have h54 := rX9_readRope_54 v d n
    unfold fX9_readRope_54
    generalize fX9_readRope_54 n = r54 at h54 ⊢
    refine rz_iload 56 4 dX9_readRope_54 rfl rfl ?_
    refine rz_if_eq 185 59 dX9_readRope_56 rfl rfl ?_ ?_
    · exact rz_sub [0, 1, 2, 3] rfl (rX9_readRope_185 v d l0 l1 l2 l3)
    · refine rz_aload_n 60 0 dX9_readRope_59 rfl rfl ?_
      refine rz_gI 63 dX9_readRope_60 rfl rfl fl_X9_221 (fun x1 => ?_)
      refine rz_if_ne 185 66 dX9_readRope_63 rfl rfl ?_ ?_
      · exact rz_sub [0, 1, 2, 3] rfl (rX9_readRope_185 v d l0 l1 l2 l3)
      · refine rz_aload_n 67 0 dX9_readRope_66 rfl rfl ?_
        refine rz_gI 70 dX9_readRope_67 rfl rfl fl_X9_221 (fun x2 => ?_)
        refine rz_if_ne 95 73 dX9_readRope_70 rfl rfl ?_ ?_
        · exact rz_sub [0, 1, 2, 3] rfl (rX9_readRope_95 v d r54 h54 l0 l1 l2 l3)
        · refine rz_aload_n 74 0 dX9_readRope_73 rfl rfl ?_
          refine rz_callV 77 dX9_readRope_74 rfl (tX9_isYards v (d + 4) l0) rfl rfl rfl rfl ml_X9_154 im_X9_isYards se_X9_X9_isYards in_X9 co_X9_isYards rfl rfl (fun x3 => ?_)
          refine rz_if_eq 95 80 dX9_readRope_77 rfl rfl ?_ ?_
          · exact rz_sub [0, 1, 2, 3] rfl (rX9_readRope_95 v d r54 h54 l0 l1 l2 l3)
          · refine rz_iload_n 81 3 dX9_readRope_80 rfl rfl ?_
            refine rz_iconst 82 dX9_readRope_81 rfl ci_4 ?_
            refine rz_icmp_ne 95 85 dX9_readRope_82 rfl rfl ?_ ?_
            · exact rz_sub [0, 1, 2, 3] rfl (rX9_readRope_95 v d r54 h54 l0 l1 l2 l3)
            · refine rz_aload_n 86 0 dX9_readRope_85 rfl rfl ?_
              refine rz_bipush 88 dX9_readRope_86 rfl cb_6 ?_
              refine rz_aload_n 89 0 dX9_readRope_88 rfl rfl ?_
              refine rz_gI 92 dX9_readRope_89 rfl rfl fl_X9_107 (fun x4 => ?_)
              refine rz_callV 95 dX9_readRope_92 rfl (tX9_fail v (d + 5) l0 (6 : Int32) x4) rfl rfl rfl rfl ml_X9_227 im_X9_fail se_X9_X9_fail in_X9 co_X9_fail rfl rfl (fun _ => ?_)
              exact rz_sub [0, 1, 2, 3] rfl (rX9_readRope_95 v d r54 h54 l0 l1 l2 l3)
def fX9_readRope_21 (l0 : Nat) (l1 : Int32) : mM Unit := bGI 9 l0 12 (fun x1 => bIf (x1 ≤ 0) (bCallV 9 l0 (fX9_readNew l0 (8 : Int32) l1) (fun _ => bCallV 9 l0 (fX9_isOf l0) (fun x2 => bCallV 9 l0 (fX9_must l0 x2) (fun _ => bCallV 9 l0 (fX9_readPersonName l0) (fun x3 => fX9_readRope_54 fu l0 l1 x3 (0 : Int32) (1 : Int32)))))) (bRet ()))
set_option maxRecDepth 20000 in
theorem rX9_readRope_21 (v : mE) (d : Nat) (l0 : Nat) (l1 : Int32) : Rz v RX9 cX9_readRope 7 none false emU (d + 6) 21 [(0, vR l0), (1, vI l1)] [] (fX9_readRope_21 l0 l1) := by
  unfold fX9_readRope_21
  refine rz_aload_n 22 0 dX9_readRope_21 rfl rfl ?_
  refine rz_gI 25 dX9_readRope_22 rfl rfl fl_X9_221 (fun x1 => ?_)
  refine rz_if_le 29 28 dX9_readRope_25 rfl rfl ?_ ?_
  · refine rz_aload_n 30 0 dX9_readRope_29 rfl rfl ?_
    refine rz_bipush 32 dX9_readRope_30 rfl cb_8 ?_
    refine rz_iload_n 33 1 dX9_readRope_32 rfl rfl ?_
    refine rz_callV 36 dX9_readRope_33 rfl (tX9_readNew v (d + 0) l0 (8 : Int32) l1) rfl rfl rfl rfl ml_X9_263 im_X9_readNew se_X9_X9_readNew in_X9 co_X9_readNew rfl rfl (fun _ => ?_)
    refine rz_aload_n 37 0 dX9_readRope_36 rfl rfl ?_
    refine rz_aload_n 38 0 dX9_readRope_37 rfl rfl ?_
    refine rz_callV 41 dX9_readRope_38 rfl (tX9_isOf v (d + 4) l0) rfl rfl rfl rfl ml_X9_178 im_X9_isOf se_X9_X9_isOf in_X9 co_X9_isOf rfl rfl (fun x2 => ?_)
    refine rz_callV 44 dX9_readRope_41 rfl (tX9_must v (d + 3) l0 x2) rfl rfl rfl rfl ml_X9_252 im_X9_must se_X9_X9_must in_X9 co_X9_must rfl rfl (fun _ => ?_)
    refine rz_aload_n 45 0 dX9_readRope_44 rfl rfl ?_
    refine rz_callV 48 dX9_readRope_45 rfl (tX9_readPersonName v (d + 0) l0) rfl rfl rfl rfl ml_X9_266 im_X9_readPersonName se_X9_X9_readPersonName in_X9 co_X9_readPersonName rfl rfl (fun x3 => ?_)
    refine rz_istore_n (lv' := [(2, vI x3), (0, vR l0), (1, vI l1)]) 49 dX9_readRope_48 rfl rfl rfl ?_
    refine rz_iconst 50 dX9_readRope_49 rfl ci_0 ?_
    refine rz_istore_n (lv' := [(3, vI (0 : Int32)), (2, vI x3), (0, vR l0), (1, vI l1)]) 51 dX9_readRope_50 rfl rfl rfl ?_
    refine rz_iconst 52 dX9_readRope_51 rfl ci_1 ?_
    refine rz_istore (lv' := [(4, vI (1 : Int32)), (3, vI (0 : Int32)), (2, vI x3), (0, vR l0), (1, vI l1)]) 54 dX9_readRope_52 rfl rfl rfl ?_
    exact rz_sub [3, 4, 2, 1, 0] rfl (rX9_readRope_54 v d fu l0 l1 x3 (0 : Int32) (1 : Int32))
  · exact rz_return rfl rfl dX9_readRope_28
def fX9_readRope (l0 : Nat) : mM Unit := bGI 9 l0 21 (fun x1 => bIf (x1 = (6 : Int32)) (bGI 9 l0 15 (fun x2 => bCallV 9 l0 (fX9_fail l0 (6 : Int32) x2) (fun _ => fX9_readRope_21 l0 x1))) (fX9_readRope_21 l0 x1))
set_option maxRecDepth 20000 in
theorem rX9_readRope (v : mE) (d : Nat) (l0 : Nat) : Rz v RX9 cX9_readRope 7 none false emU (d + 6) 0 [(0, vR l0)] [] (fX9_readRope l0) := by
  unfold fX9_readRope
  refine rz_aload_n 1 0 dX9_readRope_0 rfl rfl ?_
  refine rz_gI 4 dX9_readRope_1 rfl rfl fl_X9_249 (fun x1 => ?_)
  refine rz_istore_n (lv' := [(1, vI x1), (0, vR l0)]) 5 dX9_readRope_4 rfl rfl rfl ?_
  refine rz_iload_n 6 0 dX9_readRope_5 rfl rfl ?_
  refine rz_bipush 8 dX9_readRope_6 rfl cb_6 ?_
  refine rz_icmp_ne 21 11 dX9_readRope_8 rfl rfl ?_ ?_
  · exact rz_sub [1, 0] rfl (rX9_readRope_21 v d l0 x1)
  · refine rz_aload_n 12 1 dX9_readRope_11 rfl rfl ?_
    refine rz_bipush 14 dX9_readRope_12 rfl cb_6 ?_
    refine rz_aload_n 15 1 dX9_readRope_14 rfl rfl ?_
    refine rz_gI 18 dX9_readRope_15 rfl rfl fl_X9_107 (fun x2 => ?_)
    refine rz_callV 21 dX9_readRope_18 rfl (tX9_fail v (d + 5) l0 (6 : Int32) x2) rfl rfl rfl rfl ml_X9_227 im_X9_fail se_X9_X9_fail in_X9 co_X9_fail rfl rfl (fun _ => ?_)
    exact rz_sub [1, 0] rfl (rX9_readRope_21 v d l0 x1)
theorem tX9_readRope (v : mE) (d : Nat) (l0 : Nat) : Mt v yX9_readRope cX9_readRope 7 none emU (d + 6) [vR l0] (fX9_readRope l0) := mt_of rfl rfl (fun h => by cases h) rfl rfl (rX9_readRope v d l0)
theorem dX9_readFlood_0 : decode cX9_readFlood 0 = .ok (.aload_n 0, 1) := by decide +kernel
theorem dX9_readFlood_1 : decode cX9_readFlood 1 = .ok (.getfield 35, 3) := by decide +kernel
theorem dX9_readFlood_4 : decode cX9_readFlood 4 = .ok (.sipush 3448, 3) := by decide +kernel
theorem dX9_readFlood_7 : decode cX9_readFlood 7 = .ok (.iaload, 1) := by decide +kernel
theorem dX9_readFlood_8 : decode cX9_readFlood 8 = .ok (.istore_n 1, 1) := by decide +kernel
theorem dX9_readFlood_9 : decode cX9_readFlood 9 = .ok (.iload_n 1, 1) := by decide +kernel
theorem dX9_readFlood_10 : decode cX9_readFlood 10 = .ok (.iconst 4, 1) := by decide +kernel
theorem dX9_readFlood_11 : decode cX9_readFlood 11 = .ok (.if_icmp .ne 13, 3) := by decide +kernel
theorem dX9_readFlood_14 : decode cX9_readFlood 14 = .ok (.aload_n 0, 1) := by decide +kernel
theorem dX9_readFlood_15 : decode cX9_readFlood 15 = .ok (.bipush 6, 2) := by decide +kernel
theorem dX9_readFlood_17 : decode cX9_readFlood 17 = .ok (.aload_n 0, 1) := by decide +kernel
theorem dX9_readFlood_18 : decode cX9_readFlood 18 = .ok (.getfield 107, 3) := by decide +kernel
theorem dX9_readFlood_21 : decode cX9_readFlood 21 = .ok (.invokevirtual 227, 3) := by decide +kernel
theorem dX9_readFlood_24 : decode cX9_readFlood 24 = .ok (.aload_n 0, 1) := by decide +kernel
theorem dX9_readFlood_25 : decode cX9_readFlood 25 = .ok (.getfield 221, 3) := by decide +kernel
theorem dX9_readFlood_28 : decode cX9_readFlood 28 = .ok (.ifCond .le 4, 3) := by decide +kernel
theorem dX9_readFlood_31 : decode cX9_readFlood 31 = .ok (.return_, 1) := by decide +kernel
theorem dX9_readFlood_32 : decode cX9_readFlood 32 = .ok (.aload_n 0, 1) := by decide +kernel
theorem dX9_readFlood_33 : decode cX9_readFlood 33 = .ok (.invokevirtual 231, 3) := by decide +kernel
theorem dX9_readFlood_36 : decode cX9_readFlood 36 = .ok (.aload_n 0, 1) := by decide +kernel
theorem dX9_readFlood_37 : decode cX9_readFlood 37 = .ok (.iconst 0, 1) := by decide +kernel
theorem dX9_readFlood_38 : decode cX9_readFlood 38 = .ok (.sipush 200, 3) := by decide +kernel
theorem dX9_readFlood_41 : decode cX9_readFlood 41 = .ok (.invokevirtual 260, 3) := by decide +kernel
theorem dX9_readFlood_44 : decode cX9_readFlood 44 = .ok (.istore_n 2, 1) := by decide +kernel
theorem dX9_readFlood_45 : decode cX9_readFlood 45 = .ok (.aload_n 0, 1) := by decide +kernel
theorem dX9_readFlood_46 : decode cX9_readFlood 46 = .ok (.aload_n 0, 1) := by decide +kernel
theorem dX9_readFlood_47 : decode cX9_readFlood 47 = .ok (.invokevirtual 193, 3) := by decide +kernel
theorem dX9_readFlood_50 : decode cX9_readFlood 50 = .ok (.invokevirtual 252, 3) := by decide +kernel
theorem dX9_readFlood_53 : decode cX9_readFlood 53 = .ok (.aload_n 0, 1) := by decide +kernel
theorem dX9_readFlood_54 : decode cX9_readFlood 54 = .ok (.iload_n 2, 1) := by decide +kernel
theorem dX9_readFlood_55 : decode cX9_readFlood 55 = .ok (.sipush 200, 3) := by decide +kernel
theorem dX9_readFlood_58 : decode cX9_readFlood 58 = .ok (.invokevirtual 260, 3) := by decide +kernel
theorem dX9_readFlood_61 : decode cX9_readFlood 61 = .ok (.istore_n 3, 1) := by decide +kernel
theorem dX9_readFlood_62 : decode cX9_readFlood 62 = .ok (.aload_n 0, 1) := by decide +kernel
theorem dX9_readFlood_63 : decode cX9_readFlood 63 = .ok (.aload_n 0, 1) := by decide +kernel
theorem dX9_readFlood_64 : decode cX9_readFlood 64 = .ok (.invokevirtual 172, 3) := by decide +kernel
theorem dX9_readFlood_67 : decode cX9_readFlood 67 = .ok (.invokevirtual 252, 3) := by decide +kernel
theorem dX9_readFlood_70 : decode cX9_readFlood 70 = .ok (.aload_n 0, 1) := by decide +kernel
theorem dX9_readFlood_71 : decode cX9_readFlood 71 = .ok (.iconst 1, 1) := by decide +kernel
theorem dX9_readFlood_72 : decode cX9_readFlood 72 = .ok (.sipush 999, 3) := by decide +kernel
theorem dX9_readFlood_75 : decode cX9_readFlood 75 = .ok (.invokevirtual 260, 3) := by decide +kernel
theorem dX9_readFlood_78 : decode cX9_readFlood 78 = .ok (.istore 4, 2) := by decide +kernel
theorem dX9_readFlood_80 : decode cX9_readFlood 80 = .ok (.aload_n 0, 1) := by decide +kernel
theorem dX9_readFlood_81 : decode cX9_readFlood 81 = .ok (.getfield 221, 3) := by decide +kernel
theorem dX9_readFlood_84 : decode cX9_readFlood 84 = .ok (.ifCond .le 4, 3) := by decide +kernel
theorem dX9_readFlood_87 : decode cX9_readFlood 87 = .ok (.return_, 1) := by decide +kernel
theorem dX9_readFlood_88 : decode cX9_readFlood 88 = .ok (.aload_n 0, 1) := by decide +kernel
theorem dX9_readFlood_89 : decode cX9_readFlood 89 = .ok (.getfield 35, 3) := by decide +kernel
theorem dX9_readFlood_92 : decode cX9_readFlood 92 = .ok (.sipush 3465, 3) := by decide +kernel
theorem dX9_readFlood_95 : decode cX9_readFlood 95 = .ok (.iload_n 1, 1) := by decide +kernel
theorem dX9_readFlood_96 : decode cX9_readFlood 96 = .ok (.iadd, 1) := by decide +kernel
theorem dX9_readFlood_97 : decode cX9_readFlood 97 = .ok (.iload_n 2, 1) := by decide +kernel
theorem dX9_readFlood_98 : decode cX9_readFlood 98 = .ok (.iastore, 1) := by decide +kernel
theorem dX9_readFlood_99 : decode cX9_readFlood 99 = .ok (.aload_n 0, 1) := by decide +kernel
theorem dX9_readFlood_100 : decode cX9_readFlood 100 = .ok (.getfield 35, 3) := by decide +kernel
theorem dX9_readFlood_103 : decode cX9_readFlood 103 = .ok (.sipush 3469, 3) := by decide +kernel
theorem dX9_readFlood_106 : decode cX9_readFlood 106 = .ok (.iload_n 1, 1) := by decide +kernel
theorem dX9_readFlood_107 : decode cX9_readFlood 107 = .ok (.iadd, 1) := by decide +kernel
theorem dX9_readFlood_108 : decode cX9_readFlood 108 = .ok (.iload_n 3, 1) := by decide +kernel
theorem dX9_readFlood_109 : decode cX9_readFlood 109 = .ok (.iastore, 1) := by decide +kernel
theorem dX9_readFlood_110 : decode cX9_readFlood 110 = .ok (.aload_n 0, 1) := by decide +kernel
theorem dX9_readFlood_111 : decode cX9_readFlood 111 = .ok (.getfield 35, 3) := by decide +kernel
theorem dX9_readFlood_114 : decode cX9_readFlood 114 = .ok (.sipush 3473, 3) := by decide +kernel
theorem dX9_readFlood_117 : decode cX9_readFlood 117 = .ok (.iload_n 1, 1) := by decide +kernel
theorem dX9_readFlood_118 : decode cX9_readFlood 118 = .ok (.iadd, 1) := by decide +kernel
theorem dX9_readFlood_119 : decode cX9_readFlood 119 = .ok (.iload 4, 2) := by decide +kernel
theorem dX9_readFlood_121 : decode cX9_readFlood 121 = .ok (.iastore, 1) := by decide +kernel
theorem dX9_readFlood_122 : decode cX9_readFlood 122 = .ok (.aload_n 0, 1) := by decide +kernel
theorem dX9_readFlood_123 : decode cX9_readFlood 123 = .ok (.getfield 35, 3) := by decide +kernel
theorem dX9_readFlood_126 : decode cX9_readFlood 126 = .ok (.sipush 3448, 3) := by decide +kernel
theorem dX9_readFlood_129 : decode cX9_readFlood 129 = .ok (.dup2, 1) := by decide +kernel
theorem dX9_readFlood_130 : decode cX9_readFlood 130 = .ok (.iaload, 1) := by decide +kernel
theorem dX9_readFlood_131 : decode cX9_readFlood 131 = .ok (.iconst 1, 1) := by decide +kernel
theorem dX9_readFlood_132 : decode cX9_readFlood 132 = .ok (.iadd, 1) := by decide +kernel
theorem dX9_readFlood_133 : decode cX9_readFlood 133 = .ok (.iastore, 1) := by decide +kernel
theorem dX9_readFlood_134 : decode cX9_readFlood 134 = .ok (.return_, 1) := by decide +kernel
def fX9_readFlood_24 (l0 : Nat) (l1 : Int32) : mM Unit := bGI 9 l0 12 (fun x1 => bIf (x1 ≤ 0) (bCallV 9 l0 (fX9_next l0) (fun _ => bCallV 9 l0 (fX9_count l0 (0 : Int32) (200 : Int32)) (fun x2 => bCallV 9 l0 (fX9_isTo l0) (fun x3 => bCallV 9 l0 (fX9_must l0 x3) (fun _ => bCallV 9 l0 (fX9_count l0 x2 (200 : Int32)) (fun x4 => bCallV 9 l0 (fX9_isBy l0) (fun x5 => bCallV 9 l0 (fX9_must l0 x5) (fun _ => bCallV 9 l0 (fX9_count l0 (1 : Int32) (999 : Int32)) (fun x6 => bGI 9 l0 12 (fun x7 => bIf (x7 ≤ 0) (bGR 9 l0 24 (fun x8 => bSI x8 ((3465 : Int32) + l1) x2 (bGR 9 l0 24 (fun x9 => bSI x9 ((3469 : Int32) + l1) x4 (bGR 9 l0 24 (fun x10 => bSI x10 ((3473 : Int32) + l1) x6 (bGR 9 l0 24 (fun x11 => bAI 11 x11 (3448 : Int32) (fun x12 => bSI x11 (3448 : Int32) (x12 + (1 : Int32)) (bRet ())))))))))) (bRet ()))))))))))) (bRet ()))
set_option maxRecDepth 20000 in
theorem rX9_readFlood_24 (v : mE) (d : Nat) (l0 : Nat) (l1 : Int32) : Rz v RX9 cX9_readFlood 5 none false emU (d + 3) 24 [(0, vR l0), (1, vI l1)] [] (fX9_readFlood_24 l0 l1) := by
  unfold fX9_readFlood_24
  refine rz_aload_n 25 0 dX9_readFlood_24 rfl rfl ?_
  refine rz_gI 28 dX9_readFlood_25 rfl rfl fl_X9_221 (fun x1 => ?_)
  refine rz_if_le 32 31 dX9_readFlood_28 rfl rfl ?_ ?_
  · refine rz_aload_n 33 0 dX9_readFlood_32 rfl rfl ?_
    refine rz_callV 36 dX9_readFlood_33 rfl (tX9_next v (d + 1) l0) rfl rfl rfl rfl ml_X9_231 im_X9_next se_X9_X9_next in_X9 co_X9_next rfl rfl (fun _ => ?_)
    refine rz_aload_n 37 0 dX9_readFlood_36 rfl rfl ?_
    refine rz_iconst 38 dX9_readFlood_37 rfl ci_0 ?_
    refine rz_sipush 41 dX9_readFlood_38 rfl cs_200 ?_
    refine rz_callV 44 dX9_readFlood_41 rfl (tX9_count v (d + 0) l0 (0 : Int32) (200 : Int32)) rfl rfl rfl rfl ml_X9_260 im_X9_count se_X9_X9_count in_X9 co_X9_count rfl rfl (fun x2 => ?_)
    refine rz_istore_n (lv' := [(2, vI x2), (0, vR l0), (1, vI l1)]) 45 dX9_readFlood_44 rfl rfl rfl ?_
    refine rz_aload_n 46 1 dX9_readFlood_45 rfl rfl ?_
    refine rz_aload_n 47 1 dX9_readFlood_46 rfl rfl ?_
    refine rz_callV 50 dX9_readFlood_47 rfl (tX9_isTo v (d + 1) l0) rfl rfl rfl rfl ml_X9_193 im_X9_isTo se_X9_X9_isTo in_X9 co_X9_isTo rfl rfl (fun x3 => ?_)
    refine rz_callV 53 dX9_readFlood_50 rfl (tX9_must v (d + 0) l0 x3) rfl rfl rfl rfl ml_X9_252 im_X9_must se_X9_X9_must in_X9 co_X9_must rfl rfl (fun _ => ?_)
    refine rz_aload_n 54 1 dX9_readFlood_53 rfl rfl ?_
    refine rz_iload_n 55 0 dX9_readFlood_54 rfl rfl ?_
    refine rz_sipush 58 dX9_readFlood_55 rfl cs_200 ?_
    refine rz_callV 61 dX9_readFlood_58 rfl (tX9_count v (d + 0) l0 x2 (200 : Int32)) rfl rfl rfl rfl ml_X9_260 im_X9_count se_X9_X9_count in_X9 co_X9_count rfl rfl (fun x4 => ?_)
    refine rz_istore_n (lv' := [(3, vI x4), (2, vI x2), (0, vR l0), (1, vI l1)]) 62 dX9_readFlood_61 rfl rfl rfl ?_
    refine rz_aload_n 63 2 dX9_readFlood_62 rfl rfl ?_
    refine rz_aload_n 64 2 dX9_readFlood_63 rfl rfl ?_
    refine rz_callV 67 dX9_readFlood_64 rfl (tX9_isBy v (d + 1) l0) rfl rfl rfl rfl ml_X9_172 im_X9_isBy se_X9_X9_isBy in_X9 co_X9_isBy rfl rfl (fun x5 => ?_)
    refine rz_callV 70 dX9_readFlood_67 rfl (tX9_must v (d + 0) l0 x5) rfl rfl rfl rfl ml_X9_252 im_X9_must se_X9_X9_must in_X9 co_X9_must rfl rfl (fun _ => ?_)
    refine rz_aload_n 71 2 dX9_readFlood_70 rfl rfl ?_
    refine rz_iconst 72 dX9_readFlood_71 rfl ci_1 ?_
    refine rz_sipush 75 dX9_readFlood_72 rfl cs_999 ?_
    refine rz_callV 78 dX9_readFlood_75 rfl (tX9_count v (d + 0) l0 (1 : Int32) (999 : Int32)) rfl rfl rfl rfl ml_X9_260 im_X9_count se_X9_X9_count in_X9 co_X9_count rfl rfl (fun x6 => ?_)
    refine rz_istore (lv' := [(4, vI x6), (3, vI x4), (2, vI x2), (0, vR l0), (1, vI l1)]) 80 dX9_readFlood_78 rfl rfl rfl ?_
    refine rz_aload_n 81 3 dX9_readFlood_80 rfl rfl ?_
    refine rz_gI 84 dX9_readFlood_81 rfl rfl fl_X9_221 (fun x7 => ?_)
    refine rz_if_le 88 87 dX9_readFlood_84 rfl rfl ?_ ?_
    · refine rz_aload_n 89 3 dX9_readFlood_88 rfl rfl ?_
      refine rz_gR 92 dX9_readFlood_89 rfl rfl fl_X9_35 (fun x8 => ?_)
      refine rz_sipush 95 dX9_readFlood_92 rfl cs_3465 ?_
      refine rz_iload_n 96 4 dX9_readFlood_95 rfl rfl ?_
      refine rz_iadd 97 dX9_readFlood_96 rfl ?_
      refine rz_iload_n 98 2 dX9_readFlood_97 rfl rfl ?_
      refine rz_iast 99 dX9_readFlood_98 rfl ?_
      refine rz_aload_n 100 3 dX9_readFlood_99 rfl rfl ?_
      refine rz_gR 103 dX9_readFlood_100 rfl rfl fl_X9_35 (fun x9 => ?_)
      refine rz_sipush 106 dX9_readFlood_103 rfl cs_3469 ?_
      refine rz_iload_n 107 4 dX9_readFlood_106 rfl rfl ?_
      refine rz_iadd 108 dX9_readFlood_107 rfl ?_
      refine rz_iload_n 109 1 dX9_readFlood_108 rfl rfl ?_
      refine rz_iast 110 dX9_readFlood_109 rfl ?_
      refine rz_aload_n 111 3 dX9_readFlood_110 rfl rfl ?_
      refine rz_gR 114 dX9_readFlood_111 rfl rfl fl_X9_35 (fun x10 => ?_)
      refine rz_sipush 117 dX9_readFlood_114 rfl cs_3473 ?_
      refine rz_iload_n 118 4 dX9_readFlood_117 rfl rfl ?_
      refine rz_iadd 119 dX9_readFlood_118 rfl ?_
      refine rz_iload 121 0 dX9_readFlood_119 rfl rfl ?_
      refine rz_iast 122 dX9_readFlood_121 rfl ?_
      refine rz_aload_n 123 3 dX9_readFlood_122 rfl rfl ?_
      refine rz_gR 126 dX9_readFlood_123 rfl rfl fl_X9_35 (fun x11 => ?_)
      refine rz_sipush 129 dX9_readFlood_126 rfl cs_3448 ?_
      refine rz_dup2 130 dX9_readFlood_129 rfl rfl rfl ?_
      refine rz_iald 131 dX9_readFlood_130 rfl (fun x12 => ?_)
      refine rz_iconst 132 dX9_readFlood_131 rfl ci_1 ?_
      refine rz_iadd 133 dX9_readFlood_132 rfl ?_
      refine rz_iast 134 dX9_readFlood_133 rfl ?_
      exact rz_return rfl rfl dX9_readFlood_134
    · exact rz_return rfl rfl dX9_readFlood_87
  · exact rz_return rfl rfl dX9_readFlood_31
def fX9_readFlood (l0 : Nat) : mM Unit := bGR 9 l0 24 (fun x1 => bAI 11 x1 (3448 : Int32) (fun x2 => bIf (x2 = (4 : Int32)) (bGI 9 l0 15 (fun x3 => bCallV 9 l0 (fX9_fail l0 (6 : Int32) x3) (fun _ => fX9_readFlood_24 l0 x2))) (fX9_readFlood_24 l0 x2)))
set_option maxRecDepth 20000 in
theorem rX9_readFlood (v : mE) (d : Nat) (l0 : Nat) : Rz v RX9 cX9_readFlood 5 none false emU (d + 3) 0 [(0, vR l0)] [] (fX9_readFlood l0) := by
  unfold fX9_readFlood
  refine rz_aload_n 1 0 dX9_readFlood_0 rfl rfl ?_
  refine rz_gR 4 dX9_readFlood_1 rfl rfl fl_X9_35 (fun x1 => ?_)
  refine rz_sipush 7 dX9_readFlood_4 rfl cs_3448 ?_
  refine rz_iald 8 dX9_readFlood_7 rfl (fun x2 => ?_)
  refine rz_istore_n (lv' := [(1, vI x2), (0, vR l0)]) 9 dX9_readFlood_8 rfl rfl rfl ?_
  refine rz_iload_n 10 0 dX9_readFlood_9 rfl rfl ?_
  refine rz_iconst 11 dX9_readFlood_10 rfl ci_4 ?_
  refine rz_icmp_ne 24 14 dX9_readFlood_11 rfl rfl ?_ ?_
  · exact rz_sub [1, 0] rfl (rX9_readFlood_24 v d l0 x2)
  · refine rz_aload_n 15 1 dX9_readFlood_14 rfl rfl ?_
    refine rz_bipush 17 dX9_readFlood_15 rfl cb_6 ?_
    refine rz_aload_n 18 1 dX9_readFlood_17 rfl rfl ?_
    refine rz_gI 21 dX9_readFlood_18 rfl rfl fl_X9_107 (fun x3 => ?_)
    refine rz_callV 24 dX9_readFlood_21 rfl (tX9_fail v (d + 2) l0 (6 : Int32) x3) rfl rfl rfl rfl ml_X9_227 im_X9_fail se_X9_X9_fail in_X9 co_X9_fail rfl rfl (fun _ => ?_)
    exact rz_sub [1, 0] rfl (rX9_readFlood_24 v d l0 x2)
theorem tX9_readFlood (v : mE) (d : Nat) (l0 : Nat) : Mt v yX9_readFlood cX9_readFlood 5 none emU (d + 3) [vR l0] (fX9_readFlood l0) := mt_of rfl rfl (fun h => by cases h) rfl rfl (rX9_readFlood v d l0)
theorem dX9_well_0 : decode cX9_well 0 = .ok (.aload_n 0, 1) := by decide +kernel
theorem dX9_well_1 : decode cX9_well 1 = .ok (.iconst 0, 1) := by decide +kernel
theorem dX9_well_2 : decode cX9_well 2 = .ok (.putfield 62, 3) := by decide +kernel
theorem dX9_well_5 : decode cX9_well 5 = .ok (.aload_n 0, 1) := by decide +kernel
theorem dX9_well_6 : decode cX9_well 6 = .ok (.iconst 0, 1) := by decide +kernel
theorem dX9_well_7 : decode cX9_well 7 = .ok (.putfield 65, 3) := by decide +kernel
theorem dX9_well_10 : decode cX9_well 10 = .ok (.aload_n 0, 1) := by decide +kernel
theorem dX9_well_11 : decode cX9_well 11 = .ok (.iload_n 1, 1) := by decide +kernel
theorem dX9_well_12 : decode cX9_well 12 = .ok (.sipush 900, 3) := by decide +kernel
theorem dX9_well_15 : decode cX9_well 15 = .ok (.invokevirtual 269, 3) := by decide +kernel
theorem dX9_well_18 : decode cX9_well 18 = .ok (.ifCond .ne 5, 3) := by decide +kernel
theorem dX9_well_21 : decode cX9_well 21 = .ok (.iconst (-1), 1) := by decide +kernel
theorem dX9_well_22 : decode cX9_well 22 = .ok (.ireturn, 1) := by decide +kernel
theorem dX9_well_23 : decode cX9_well 23 = .ok (.aload_n 0, 1) := by decide +kernel
theorem dX9_well_24 : decode cX9_well 24 = .ok (.sipush 3440, 3) := by decide +kernel
theorem dX9_well_27 : decode cX9_well 27 = .ok (.invokevirtual 58, 3) := by decide +kernel
theorem dX9_well_30 : decode cX9_well 30 = .ok (.aload_n 0, 1) := by decide +kernel
theorem dX9_well_31 : decode cX9_well 31 = .ok (.iconst 0, 1) := by decide +kernel
theorem dX9_well_32 : decode cX9_well 32 = .ok (.putfield 249, 3) := by decide +kernel
theorem dX9_well_35 : decode cX9_well 35 = .ok (.aload_n 0, 1) := by decide +kernel
theorem dX9_well_36 : decode cX9_well 36 = .ok (.iconst 0, 1) := by decide +kernel
theorem dX9_well_37 : decode cX9_well 37 = .ok (.putfield 256, 3) := by decide +kernel
theorem dX9_well_40 : decode cX9_well 40 = .ok (.aload_n 0, 1) := by decide +kernel
theorem dX9_well_41 : decode cX9_well 41 = .ok (.getfield 221, 3) := by decide +kernel
theorem dX9_well_44 : decode cX9_well 44 = .ok (.ifCond .ne 83, 3) := by decide +kernel
theorem dX9_well_47 : decode cX9_well 47 = .ok (.aload_n 0, 1) := by decide +kernel
theorem dX9_well_48 : decode cX9_well 48 = .ok (.getfield 113, 3) := by decide +kernel
theorem dX9_well_51 : decode cX9_well 51 = .ok (.ifCond .eq 76, 3) := by decide +kernel
theorem dX9_well_54 : decode cX9_well 54 = .ok (.aload_n 0, 1) := by decide +kernel
theorem dX9_well_55 : decode cX9_well 55 = .ok (.invokevirtual 160, 3) := by decide +kernel
theorem dX9_well_58 : decode cX9_well 58 = .ok (.ifCond .eq 10, 3) := by decide +kernel
theorem dX9_well_61 : decode cX9_well 61 = .ok (.aload_n 0, 1) := by decide +kernel
theorem dX9_well_62 : decode cX9_well 62 = .ok (.invokevirtual 273, 3) := by decide +kernel
theorem dX9_well_65 : decode cX9_well 65 = .ok (.goto 49, 3) := by decide +kernel
theorem dX9_well_68 : decode cX9_well 68 = .ok (.aload_n 0, 1) := by decide +kernel
theorem dX9_well_69 : decode cX9_well 69 = .ok (.invokevirtual 175, 3) := by decide +kernel
theorem dX9_well_72 : decode cX9_well 72 = .ok (.ifCond .eq 10, 3) := by decide +kernel
theorem dX9_well_75 : decode cX9_well 75 = .ok (.aload_n 0, 1) := by decide +kernel
theorem dX9_well_76 : decode cX9_well 76 = .ok (.invokevirtual 276, 3) := by decide +kernel
theorem dX9_well_79 : decode cX9_well 79 = .ok (.goto 35, 3) := by decide +kernel
theorem dX9_well_82 : decode cX9_well 82 = .ok (.aload_n 0, 1) := by decide +kernel
theorem dX9_well_83 : decode cX9_well 83 = .ok (.invokevirtual 184, 3) := by decide +kernel
theorem dX9_well_86 : decode cX9_well 86 = .ok (.ifCond .eq 10, 3) := by decide +kernel
theorem dX9_well_89 : decode cX9_well 89 = .ok (.aload_n 0, 1) := by decide +kernel
theorem dX9_well_90 : decode cX9_well 90 = .ok (.invokevirtual 279, 3) := by decide +kernel
theorem dX9_well_93 : decode cX9_well 93 = .ok (.goto 21, 3) := by decide +kernel
theorem dX9_well_96 : decode cX9_well 96 = .ok (.aload_n 0, 1) := by decide +kernel
theorem dX9_well_97 : decode cX9_well 97 = .ok (.invokevirtual 190, 3) := by decide +kernel
theorem dX9_well_100 : decode cX9_well 100 = .ok (.ifCond .eq 10, 3) := by decide +kernel
theorem dX9_well_103 : decode cX9_well 103 = .ok (.aload_n 0, 1) := by decide +kernel
theorem dX9_well_104 : decode cX9_well 104 = .ok (.invokevirtual 282, 3) := by decide +kernel
theorem dX9_well_107 : decode cX9_well 107 = .ok (.goto 7, 3) := by decide +kernel
theorem dX9_well_110 : decode cX9_well 110 = .ok (.aload_n 0, 1) := by decide +kernel
theorem dX9_well_111 : decode cX9_well 111 = .ok (.invokevirtual 234, 3) := by decide +kernel
theorem dX9_well_114 : decode cX9_well 114 = .ok (.aload_n 0, 1) := by decide +kernel
theorem dX9_well_115 : decode cX9_well 115 = .ok (.aload_n 0, 1) := by decide +kernel
theorem dX9_well_116 : decode cX9_well 116 = .ok (.bipush 59, 2) := by decide +kernel
theorem dX9_well_118 : decode cX9_well 118 = .ok (.invokevirtual 285, 3) := by decide +kernel
theorem dX9_well_121 : decode cX9_well 121 = .ok (.invokevirtual 252, 3) := by decide +kernel
theorem dX9_well_124 : decode cX9_well 124 = .ok (.goto (-84), 3) := by decide +kernel
theorem dX9_well_127 : decode cX9_well 127 = .ok (.aload_n 0, 1) := by decide +kernel
theorem dX9_well_128 : decode cX9_well 128 = .ok (.invokevirtual 288, 3) := by decide +kernel
theorem dX9_well_131 : decode cX9_well 131 = .ok (.ifCond .ne 5, 3) := by decide +kernel
theorem dX9_well_134 : decode cX9_well 134 = .ok (.iconst (-1), 1) := by decide +kernel
theorem dX9_well_135 : decode cX9_well 135 = .ok (.ireturn, 1) := by decide +kernel
theorem dX9_well_136 : decode cX9_well 136 = .ok (.iconst 0, 1) := by decide +kernel
theorem dX9_well_137 : decode cX9_well 137 = .ok (.istore_n 2, 1) := by decide +kernel
theorem dX9_well_138 : decode cX9_well 138 = .ok (.iload_n 2, 1) := by decide +kernel
theorem dX9_well_139 : decode cX9_well 139 = .ok (.sipush 860, 3) := by decide +kernel
theorem dX9_well_142 : decode cX9_well 142 = .ok (.if_icmp .ge 25, 3) := by decide +kernel
theorem dX9_well_145 : decode cX9_well 145 = .ok (.aload_n 0, 1) := by decide +kernel
theorem dX9_well_146 : decode cX9_well 146 = .ok (.getfield 35, 3) := by decide +kernel
theorem dX9_well_149 : decode cX9_well 149 = .ok (.iload_n 2, 1) := by decide +kernel
theorem dX9_well_150 : decode cX9_well 150 = .ok (.aload_n 0, 1) := by decide +kernel
theorem dX9_well_151 : decode cX9_well 151 = .ok (.getfield 35, 3) := by decide +kernel
theorem dX9_well_154 : decode cX9_well 154 = .ok (.sipush 3440, 3) := by decide +kernel
theorem dX9_well_157 : decode cX9_well 157 = .ok (.iload_n 2, 1) := by decide +kernel
theorem dX9_well_158 : decode cX9_well 158 = .ok (.iadd, 1) := by decide +kernel
theorem dX9_well_159 : decode cX9_well 159 = .ok (.iaload, 1) := by decide +kernel
theorem dX9_well_160 : decode cX9_well 160 = .ok (.iastore, 1) := by decide +kernel
theorem dX9_well_161 : decode cX9_well 161 = .ok (.iinc 2 1, 3) := by decide +kernel
theorem dX9_well_164 : decode cX9_well 164 = .ok (.goto (-26), 3) := by decide +kernel
theorem dX9_well_167 : decode cX9_well 167 = .ok (.aload_n 0, 1) := by decide +kernel
theorem dX9_well_168 : decode cX9_well 168 = .ok (.getfield 35, 3) := by decide +kernel
theorem dX9_well_171 : decode cX9_well 171 = .ok (.bipush 7, 2) := by decide +kernel
theorem dX9_well_173 : decode cX9_well 173 = .ok (.iaload, 1) := by decide +kernel
theorem dX9_well_174 : decode cX9_well 174 = .ok (.ireturn, 1) := by decide +kernel
def fX9_well_138 : Nat → Nat → Int32 → mM Int32
  | 0 => fun _ _ => fun _ => none
  | n + 1 => fun l0 l2 => let r138 := fX9_well_138 n; bIf ((860 : Int32) ≤ l2) (bGR 9 l0 24 (fun x1 => bAI 11 x1 (7 : Int32) (fun x2 => bRet x2))) (bGR 9 l0 24 (fun x3 => bGR 9 l0 24 (fun x4 => bAI 11 x4 ((3440 : Int32) + l2) (fun x5 => bSI x3 l2 x5 (r138 l0 (l2 + 1))))))
theorem qX9_well_138  (n : Nat) (l0 : Nat) (l2 : Int32) : fX9_well_138 (n + 1) l0 l2 = bIf ((860 : Int32) ≤ l2) (bGR 9 l0 24 (fun x1 => bAI 11 x1 (7 : Int32) (fun x2 => bRet x2))) (bGR 9 l0 24 (fun x3 => bGR 9 l0 24 (fun x4 => bAI 11 x4 ((3440 : Int32) + l2) (fun x5 => bSI x3 l2 x5 ((fX9_well_138 n) l0 (l2 + 1)))))) := rfl
set_option maxRecDepth 20000 in
theorem rX9_well_138 (v : mE) (d : Nat) : ∀ (n : Nat) (l0 : Nat) (l2 : Int32), Rz v RX9 cX9_well 3 (some .int) false emI (d + 7) 138 [(0, vR l0), (2, vI l2)] [] (fX9_well_138 n l0 l2)
  | 0, _, _ => fun _ _ _ hm => by cases hm
  | n + 1, l0, l2 => by
    have h138 := rX9_well_138 v d n
    unfold fX9_well_138
    generalize fX9_well_138 n = r138 at h138 ⊢
    refine rz_iload_n 139 1 dX9_well_138 rfl rfl ?_
    refine rz_sipush 142 dX9_well_139 rfl cs_860 ?_
    refine rz_icmp_ge 167 145 dX9_well_142 rfl rfl ?_ ?_
    · refine rz_aload_n 168 0 dX9_well_167 rfl rfl ?_
      refine rz_gR 171 dX9_well_168 rfl rfl fl_X9_35 (fun x1 => ?_)
      refine rz_bipush 173 dX9_well_171 rfl cb_7 ?_
      refine rz_iald 174 dX9_well_173 rfl (fun x2 => ?_)
      exact rz_ireturn rfl rfl dX9_well_174
    · refine rz_aload_n 146 0 dX9_well_145 rfl rfl ?_
      refine rz_gR 149 dX9_well_146 rfl rfl fl_X9_35 (fun x3 => ?_)
      refine rz_iload_n 150 1 dX9_well_149 rfl rfl ?_
      refine rz_aload_n 151 0 dX9_well_150 rfl rfl ?_
      refine rz_gR 154 dX9_well_151 rfl rfl fl_X9_35 (fun x4 => ?_)
      refine rz_sipush 157 dX9_well_154 rfl cs_3440 ?_
      refine rz_iload_n 158 1 dX9_well_157 rfl rfl ?_
      refine rz_iadd 159 dX9_well_158 rfl ?_
      refine rz_iald 160 dX9_well_159 rfl (fun x5 => ?_)
      refine rz_iast 161 dX9_well_160 rfl ?_
      refine rz_iinc (lv' := [(2, vI (l2 + 1)), (0, vR l0)]) 164 1 dX9_well_161 rfl rfl (cn_1 _) rfl rfl ?_
      refine rz_goto 138 dX9_well_164 rfl ?_
      exact rz_sub [1, 0] rfl (h138 l0 (l2 + 1))
def fX9_well_127 (l0 : Nat) : mM Int32 := bCallV 9 l0 (fX9_isWell l0) (fun x1 => bIf (x1 = 0) (bRet (-1 : Int32)) (fX9_well_138 fu l0 (0 : Int32)))
set_option maxRecDepth 20000 in
theorem rX9_well_127 (v : mE) (d : Nat) (l0 : Nat) : Rz v RX9 cX9_well 3 (some .int) false emI (d + 7) 127 [(0, vR l0)] [] (fX9_well_127 l0) := by
  unfold fX9_well_127
  refine rz_aload_n 128 0 dX9_well_127 rfl rfl ?_
  refine rz_callV 131 dX9_well_128 rfl (tX9_isWell v (d + 5) l0) rfl rfl rfl rfl ml_X9_288 im_X9_isWell se_X9_X9_isWell in_X9 co_X9_isWell rfl rfl (fun x1 => ?_)
  refine rz_if_ne 136 134 dX9_well_131 rfl rfl ?_ ?_
  · refine rz_iconst 137 dX9_well_136 rfl ci_0 ?_
    refine rz_istore_n (lv' := [(2, vI (0 : Int32)), (0, vR l0)]) 138 dX9_well_137 rfl rfl rfl ?_
    exact rz_sub [1, 0] rfl (rX9_well_138 v d fu l0 (0 : Int32))
  · refine rz_iconst 135 dX9_well_134 rfl ci_m1 ?_
    exact rz_ireturn rfl rfl dX9_well_135
def fX9_well_114 (r40 : Nat → mM Int32) (l0 : Nat) : mM Int32 := bCallV 9 l0 (fX9_isSign l0 (59 : Int32)) (fun x1 => bCallV 9 l0 (fX9_must l0 x1) (fun _ => r40 l0))
set_option maxRecDepth 20000 in
theorem rX9_well_114 (v : mE) (d : Nat) (r40 : Nat → mM Int32) (h40 : ∀ (y0 : Nat), Rz v RX9 cX9_well 3 (some .int) false emI (d + 7) 40 [(0, vR y0)] [] (r40 y0)) (l0 : Nat) : Rz v RX9 cX9_well 3 (some .int) false emI (d + 7) 114 [(0, vR l0)] [] (fX9_well_114 r40 l0) := by
  unfold fX9_well_114
  refine rz_aload_n 115 0 dX9_well_114 rfl rfl ?_
  refine rz_aload_n 116 0 dX9_well_115 rfl rfl ?_
  refine rz_bipush 118 dX9_well_116 rfl cb_59 ?_
  refine rz_callV 121 dX9_well_118 rfl (tX9_isSign v (d + 6) l0 (59 : Int32)) rfl rfl rfl rfl ml_X9_285 im_X9_isSign se_X9_X9_isSign in_X9 co_X9_isSign rfl rfl (fun x1 => ?_)
  refine rz_callV 124 dX9_well_121 rfl (tX9_must v (d + 4) l0 x1) rfl rfl rfl rfl ml_X9_252 im_X9_must se_X9_X9_must in_X9 co_X9_must rfl rfl (fun _ => ?_)
  refine rz_goto 40 dX9_well_124 rfl ?_
  exact rz_sub [0] rfl (h40 l0)
def fX9_well_40 : Nat → Nat → mM Int32
  | 0 => fun _ => fun _ => none
  | n + 1 => fun l0 => let r40 := fX9_well_40 n; bGI 9 l0 12 (fun x1 => bIf (x1 = 0) (bGI 9 l0 14 (fun x2 => bIf (x2 = 0) (fX9_well_127 l0) (bCallV 9 l0 (fX9_isWater l0) (fun x3 => bIf (x3 = 0) (bCallV 9 l0 (fX9_isPersonWord l0) (fun x4 => bIf (x4 = 0) (bCallV 9 l0 (fX9_isRopeWord l0) (fun x5 => bIf (x5 = 0) (bCallV 9 l0 (fX9_isFlood l0) (fun x6 => bIf (x6 = 0) (bCallV 9 l0 (fX9_wrong l0) (fun _ => fX9_well_114 r40 l0)) (bCallV 9 l0 (fX9_readFlood l0) (fun _ => fX9_well_114 r40 l0)))) (bCallV 9 l0 (fX9_readRope l0) (fun _ => fX9_well_114 r40 l0)))) (bCallV 9 l0 (fX9_readPerson l0) (fun _ => fX9_well_114 r40 l0)))) (bCallV 9 l0 (fX9_readWater l0) (fun _ => fX9_well_114 r40 l0)))))) (fX9_well_127 l0))
theorem qX9_well_40  (n : Nat) (l0 : Nat) : fX9_well_40 (n + 1) l0 = bGI 9 l0 12 (fun x1 => bIf (x1 = 0) (bGI 9 l0 14 (fun x2 => bIf (x2 = 0) (fX9_well_127 l0) (bCallV 9 l0 (fX9_isWater l0) (fun x3 => bIf (x3 = 0) (bCallV 9 l0 (fX9_isPersonWord l0) (fun x4 => bIf (x4 = 0) (bCallV 9 l0 (fX9_isRopeWord l0) (fun x5 => bIf (x5 = 0) (bCallV 9 l0 (fX9_isFlood l0) (fun x6 => bIf (x6 = 0) (bCallV 9 l0 (fX9_wrong l0) (fun _ => fX9_well_114 (fX9_well_40 n) l0)) (bCallV 9 l0 (fX9_readFlood l0) (fun _ => fX9_well_114 (fX9_well_40 n) l0)))) (bCallV 9 l0 (fX9_readRope l0) (fun _ => fX9_well_114 (fX9_well_40 n) l0)))) (bCallV 9 l0 (fX9_readPerson l0) (fun _ => fX9_well_114 (fX9_well_40 n) l0)))) (bCallV 9 l0 (fX9_readWater l0) (fun _ => fX9_well_114 (fX9_well_40 n) l0)))))) (fX9_well_127 l0)) := rfl
set_option maxRecDepth 20000 in
theorem rX9_well_40 (v : mE) (d : Nat) : ∀ (n : Nat) (l0 : Nat), Rz v RX9 cX9_well 3 (some .int) false emI (d + 7) 40 [(0, vR l0)] [] (fX9_well_40 n l0)
  | 0, _ => fun _ _ _ hm => by cases hm
  | n + 1, l0 => by
    have h40 := rX9_well_40 v d n
    unfold fX9_well_40
    generalize fX9_well_40 n = r40 at h40 ⊢
    refine rz_aload_n 41 0 dX9_well_40 rfl rfl ?_
    refine rz_gI 44 dX9_well_41 rfl rfl fl_X9_221 (fun x1 => ?_)
    refine rz_if_ne 127 47 dX9_well_44 rfl rfl ?_ ?_
    · exact rz_sub [0] rfl (rX9_well_127 v d l0)
    · refine rz_aload_n 48 0 dX9_well_47 rfl rfl ?_
      refine rz_gI 51 dX9_well_48 rfl rfl fl_X9_113 (fun x2 => ?_)
      refine rz_if_eq 127 54 dX9_well_51 rfl rfl ?_ ?_
      · exact rz_sub [0] rfl (rX9_well_127 v d l0)
      · refine rz_aload_n 55 0 dX9_well_54 rfl rfl ?_
        refine rz_callV 58 dX9_well_55 rfl (tX9_isWater v (d + 5) l0) rfl rfl rfl rfl ml_X9_160 im_X9_isWater se_X9_X9_isWater in_X9 co_X9_isWater rfl rfl (fun x3 => ?_)
        refine rz_if_eq 68 61 dX9_well_58 rfl rfl ?_ ?_
        · refine rz_aload_n 69 0 dX9_well_68 rfl rfl ?_
          refine rz_callV 72 dX9_well_69 rfl (tX9_isPersonWord v (d + 5) l0) rfl rfl rfl rfl ml_X9_175 im_X9_isPersonWord se_X9_X9_isPersonWord in_X9 co_X9_isPersonWord rfl rfl (fun x4 => ?_)
          refine rz_if_eq 82 75 dX9_well_72 rfl rfl ?_ ?_
          · refine rz_aload_n 83 0 dX9_well_82 rfl rfl ?_
            refine rz_callV 86 dX9_well_83 rfl (tX9_isRopeWord v (d + 5) l0) rfl rfl rfl rfl ml_X9_184 im_X9_isRopeWord se_X9_X9_isRopeWord in_X9 co_X9_isRopeWord rfl rfl (fun x5 => ?_)
            refine rz_if_eq 96 89 dX9_well_86 rfl rfl ?_ ?_
            · refine rz_aload_n 97 0 dX9_well_96 rfl rfl ?_
              refine rz_callV 100 dX9_well_97 rfl (tX9_isFlood v (d + 5) l0) rfl rfl rfl rfl ml_X9_190 im_X9_isFlood se_X9_X9_isFlood in_X9 co_X9_isFlood rfl rfl (fun x6 => ?_)
              refine rz_if_eq 110 103 dX9_well_100 rfl rfl ?_ ?_
              · refine rz_aload_n 111 0 dX9_well_110 rfl rfl ?_
                refine rz_callV 114 dX9_well_111 rfl (tX9_wrong v (d + 5) l0) rfl rfl rfl rfl ml_X9_234 im_X9_wrong se_X9_X9_wrong in_X9 co_X9_wrong rfl rfl (fun _ => ?_)
                exact rz_sub [0] rfl (rX9_well_114 v d r40 h40 l0)
              · refine rz_aload_n 104 0 dX9_well_103 rfl rfl ?_
                refine rz_callV 107 dX9_well_104 rfl (tX9_readFlood v (d + 3) l0) rfl rfl rfl rfl ml_X9_282 im_X9_readFlood se_X9_X9_readFlood in_X9 co_X9_readFlood rfl rfl (fun _ => ?_)
                refine rz_goto 114 dX9_well_107 rfl ?_
                exact rz_sub [0] rfl (rX9_well_114 v d r40 h40 l0)
            · refine rz_aload_n 90 0 dX9_well_89 rfl rfl ?_
              refine rz_callV 93 dX9_well_90 rfl (tX9_readRope v (d + 0) l0) rfl rfl rfl rfl ml_X9_279 im_X9_readRope se_X9_X9_readRope in_X9 co_X9_readRope rfl rfl (fun _ => ?_)
              refine rz_goto 114 dX9_well_93 rfl ?_
              exact rz_sub [0] rfl (rX9_well_114 v d r40 h40 l0)
          · refine rz_aload_n 76 0 dX9_well_75 rfl rfl ?_
            refine rz_callV 79 dX9_well_76 rfl (tX9_readPerson v (d + 0) l0) rfl rfl rfl rfl ml_X9_276 im_X9_readPerson se_X9_X9_readPerson in_X9 co_X9_readPerson rfl rfl (fun _ => ?_)
            refine rz_goto 114 dX9_well_79 rfl ?_
            exact rz_sub [0] rfl (rX9_well_114 v d r40 h40 l0)
        · refine rz_aload_n 62 0 dX9_well_61 rfl rfl ?_
          refine rz_callV 65 dX9_well_62 rfl (tX9_readWater v (d + 3) l0) rfl rfl rfl rfl ml_X9_273 im_X9_readWater se_X9_X9_readWater in_X9 co_X9_readWater rfl rfl (fun _ => ?_)
          refine rz_goto 114 dX9_well_65 rfl ?_
          exact rz_sub [0] rfl (rX9_well_114 v d r40 h40 l0)
def fX9_well (l0 : Nat) (l1 : Int32) : mM Int32 := bPI 9 l0 1 (0 : Int32) (bPI 9 l0 0 (0 : Int32) (bCallV 9 l0 (fX9_opens l0 l1 (900 : Int32)) (fun x1 => bIf (x1 = 0) (bRet (-1 : Int32)) (bCallV 9 l0 (fX9_clear l0 (3440 : Int32)) (fun _ => bPI 9 l0 21 (0 : Int32) (bPZ 9 l0 23 (0 : Int32) (fX9_well_40 fu l0)))))))
set_option maxRecDepth 20000 in
theorem rX9_well (v : mE) (d : Nat) (l0 : Nat) (l1 : Int32) : Rz v RX9 cX9_well 3 (some .int) false emI (d + 7) 0 [(0, vR l0), (1, vI l1)] [] (fX9_well l0 l1) := by
  unfold fX9_well
  refine rz_aload_n 1 0 dX9_well_0 rfl rfl ?_
  refine rz_iconst 2 dX9_well_1 rfl ci_0 ?_
  refine rz_pI 5 dX9_well_2 rfl rfl rfl rfl fl_X9_62 ?_
  refine rz_aload_n 6 0 dX9_well_5 rfl rfl ?_
  refine rz_iconst 7 dX9_well_6 rfl ci_0 ?_
  refine rz_pI 10 dX9_well_7 rfl rfl rfl rfl fl_X9_65 ?_
  refine rz_aload_n 11 0 dX9_well_10 rfl rfl ?_
  refine rz_iload_n 12 1 dX9_well_11 rfl rfl ?_
  refine rz_sipush 15 dX9_well_12 rfl cs_900 ?_
  refine rz_callV 18 dX9_well_15 rfl (tX9_opens v (d + 4) l0 l1 (900 : Int32)) rfl rfl rfl rfl ml_X9_269 im_X9_opens se_X9_X9_opens in_X9 co_X9_opens rfl rfl (fun x1 => ?_)
  refine rz_if_ne 23 21 dX9_well_18 rfl rfl ?_ ?_
  · refine rz_aload_n 24 0 dX9_well_23 rfl rfl ?_
    refine rz_sipush 27 dX9_well_24 rfl cs_3440 ?_
    refine rz_callV 30 dX9_well_27 rfl (tX9_clear v (d + 6) l0 (3440 : Int32)) rfl rfl rfl rfl ml_X9_58 im_X9_clear se_X9_X9_clear in_X9 co_X9_clear rfl rfl (fun _ => ?_)
    refine rz_aload_n 31 0 dX9_well_30 rfl rfl ?_
    refine rz_iconst 32 dX9_well_31 rfl ci_0 ?_
    refine rz_pI 35 dX9_well_32 rfl rfl rfl rfl fl_X9_249 ?_
    refine rz_aload_n 36 0 dX9_well_35 rfl rfl ?_
    refine rz_iconst 37 dX9_well_36 rfl ci_0 ?_
    refine rz_pZ 40 dX9_well_37 rfl rfl rfl rfl fl_X9_256 ?_
    exact rz_sub [0] rfl (rX9_well_40 v d fu l0)
  · refine rz_iconst 22 dX9_well_21 rfl ci_m1 ?_
    exact rz_ireturn rfl rfl dX9_well_22
theorem tX9_well (v : mE) (d : Nat) (l0 : Nat) (l1 : Int32) : Mt v yX9_well cX9_well 3 (some .int) emI (d + 7) [vR l0, vI l1] (fX9_well l0 l1) := mt_of rfl rfl (fun h => by cases h) rfl rfl (rX9_well v d l0 l1)
theorem dX9_ruleStep_0 : decode cX9_ruleStep 0 = .ok (.aload_n 0, 1) := by decide +kernel
theorem dX9_ruleStep_1 : decode cX9_ruleStep 1 = .ok (.getfield 221, 3) := by decide +kernel
theorem dX9_ruleStep_4 : decode cX9_ruleStep 4 = .ok (.ifCond .le 4, 3) := by decide +kernel
theorem dX9_ruleStep_7 : decode cX9_ruleStep 7 = .ok (.return_, 1) := by decide +kernel
theorem dX9_ruleStep_8 : decode cX9_ruleStep 8 = .ok (.sipush 3766, 3) := by decide +kernel
theorem dX9_ruleStep_11 : decode cX9_ruleStep 11 = .ok (.iconst 4, 1) := by decide +kernel
theorem dX9_ruleStep_12 : decode cX9_ruleStep 12 = .ok (.aload_n 0, 1) := by decide +kernel
theorem dX9_ruleStep_13 : decode cX9_ruleStep 13 = .ok (.getfield 291, 3) := by decide +kernel
theorem dX9_ruleStep_16 : decode cX9_ruleStep 16 = .ok (.imul, 1) := by decide +kernel
theorem dX9_ruleStep_17 : decode cX9_ruleStep 17 = .ok (.iadd, 1) := by decide +kernel
theorem dX9_ruleStep_18 : decode cX9_ruleStep 18 = .ok (.istore 4, 2) := by decide +kernel
theorem dX9_ruleStep_20 : decode cX9_ruleStep 20 = .ok (.aload_n 0, 1) := by decide +kernel
theorem dX9_ruleStep_21 : decode cX9_ruleStep 21 = .ok (.getfield 35, 3) := by decide +kernel
theorem dX9_ruleStep_24 : decode cX9_ruleStep 24 = .ok (.iload 4, 2) := by decide +kernel
theorem dX9_ruleStep_26 : decode cX9_ruleStep 26 = .ok (.iload_n 1, 1) := by decide +kernel
theorem dX9_ruleStep_27 : decode cX9_ruleStep 27 = .ok (.iastore, 1) := by decide +kernel
theorem dX9_ruleStep_28 : decode cX9_ruleStep 28 = .ok (.aload_n 0, 1) := by decide +kernel
theorem dX9_ruleStep_29 : decode cX9_ruleStep 29 = .ok (.getfield 35, 3) := by decide +kernel
theorem dX9_ruleStep_32 : decode cX9_ruleStep 32 = .ok (.iload 4, 2) := by decide +kernel
theorem dX9_ruleStep_34 : decode cX9_ruleStep 34 = .ok (.iconst 1, 1) := by decide +kernel
theorem dX9_ruleStep_35 : decode cX9_ruleStep 35 = .ok (.iadd, 1) := by decide +kernel
theorem dX9_ruleStep_36 : decode cX9_ruleStep 36 = .ok (.iload_n 2, 1) := by decide +kernel
theorem dX9_ruleStep_37 : decode cX9_ruleStep 37 = .ok (.iastore, 1) := by decide +kernel
theorem dX9_ruleStep_38 : decode cX9_ruleStep 38 = .ok (.aload_n 0, 1) := by decide +kernel
theorem dX9_ruleStep_39 : decode cX9_ruleStep 39 = .ok (.getfield 35, 3) := by decide +kernel
theorem dX9_ruleStep_42 : decode cX9_ruleStep 42 = .ok (.iload 4, 2) := by decide +kernel
theorem dX9_ruleStep_44 : decode cX9_ruleStep 44 = .ok (.iconst 2, 1) := by decide +kernel
theorem dX9_ruleStep_45 : decode cX9_ruleStep 45 = .ok (.iadd, 1) := by decide +kernel
theorem dX9_ruleStep_46 : decode cX9_ruleStep 46 = .ok (.iload_n 3, 1) := by decide +kernel
theorem dX9_ruleStep_47 : decode cX9_ruleStep 47 = .ok (.iastore, 1) := by decide +kernel
theorem dX9_ruleStep_48 : decode cX9_ruleStep 48 = .ok (.aload_n 0, 1) := by decide +kernel
theorem dX9_ruleStep_49 : decode cX9_ruleStep 49 = .ok (.dup, 1) := by decide +kernel
theorem dX9_ruleStep_50 : decode cX9_ruleStep 50 = .ok (.getfield 291, 3) := by decide +kernel
theorem dX9_ruleStep_53 : decode cX9_ruleStep 53 = .ok (.iconst 1, 1) := by decide +kernel
theorem dX9_ruleStep_54 : decode cX9_ruleStep 54 = .ok (.iadd, 1) := by decide +kernel
theorem dX9_ruleStep_55 : decode cX9_ruleStep 55 = .ok (.putfield 291, 3) := by decide +kernel
theorem dX9_ruleStep_58 : decode cX9_ruleStep 58 = .ok (.return_, 1) := by decide +kernel
def fX9_ruleStep (l0 : Nat) (l1 : Int32) (l2 : Int32) (l3 : Int32) : mM Unit := bGI 9 l0 12 (fun x1 => bIf (x1 ≤ 0) (bGI 9 l0 19 (fun x2 => bGR 9 l0 24 (fun x3 => bSI x3 ((3766 : Int32) + ((4 : Int32) * x2)) l1 (bGR 9 l0 24 (fun x4 => bSI x4 (((3766 : Int32) + ((4 : Int32) * x2)) + (1 : Int32)) l2 (bGR 9 l0 24 (fun x5 => bSI x5 (((3766 : Int32) + ((4 : Int32) * x2)) + (2 : Int32)) l3 (bGI 9 l0 19 (fun x6 => bPI 9 l0 19 (x6 + (1 : Int32)) (bRet ())))))))))) (bRet ()))
set_option maxRecDepth 20000 in
theorem rX9_ruleStep (v : mE) (d : Nat) (l0 : Nat) (l1 : Int32) (l2 : Int32) (l3 : Int32) : Rz v RX9 cX9_ruleStep 5 none false emU (d + 0) 0 [(0, vR l0), (1, vI l1), (2, vI l2), (3, vI l3)] [] (fX9_ruleStep l0 l1 l2 l3) := by
  unfold fX9_ruleStep
  refine rz_aload_n 1 0 dX9_ruleStep_0 rfl rfl ?_
  refine rz_gI 4 dX9_ruleStep_1 rfl rfl fl_X9_221 (fun x1 => ?_)
  refine rz_if_le 8 7 dX9_ruleStep_4 rfl rfl ?_ ?_
  · refine rz_sipush 11 dX9_ruleStep_8 rfl cs_3766 ?_
    refine rz_iconst 12 dX9_ruleStep_11 rfl ci_4 ?_
    refine rz_aload_n 13 0 dX9_ruleStep_12 rfl rfl ?_
    refine rz_gI 16 dX9_ruleStep_13 rfl rfl fl_X9_291 (fun x2 => ?_)
    refine rz_imul 17 dX9_ruleStep_16 rfl ?_
    refine rz_iadd 18 dX9_ruleStep_17 rfl ?_
    refine rz_istore (lv' := [(4, vI ((3766 : Int32) + ((4 : Int32) * x2))), (0, vR l0), (1, vI l1), (2, vI l2), (3, vI l3)]) 20 dX9_ruleStep_18 rfl rfl rfl ?_
    refine rz_aload_n 21 1 dX9_ruleStep_20 rfl rfl ?_
    refine rz_gR 24 dX9_ruleStep_21 rfl rfl fl_X9_35 (fun x3 => ?_)
    refine rz_iload 26 0 dX9_ruleStep_24 rfl rfl ?_
    refine rz_iload_n 27 2 dX9_ruleStep_26 rfl rfl ?_
    refine rz_iast 28 dX9_ruleStep_27 rfl ?_
    refine rz_aload_n 29 1 dX9_ruleStep_28 rfl rfl ?_
    refine rz_gR 32 dX9_ruleStep_29 rfl rfl fl_X9_35 (fun x4 => ?_)
    refine rz_iload 34 0 dX9_ruleStep_32 rfl rfl ?_
    refine rz_iconst 35 dX9_ruleStep_34 rfl ci_1 ?_
    refine rz_iadd 36 dX9_ruleStep_35 rfl ?_
    refine rz_iload_n 37 3 dX9_ruleStep_36 rfl rfl ?_
    refine rz_iast 38 dX9_ruleStep_37 rfl ?_
    refine rz_aload_n 39 1 dX9_ruleStep_38 rfl rfl ?_
    refine rz_gR 42 dX9_ruleStep_39 rfl rfl fl_X9_35 (fun x5 => ?_)
    refine rz_iload 44 0 dX9_ruleStep_42 rfl rfl ?_
    refine rz_iconst 45 dX9_ruleStep_44 rfl ci_2 ?_
    refine rz_iadd 46 dX9_ruleStep_45 rfl ?_
    refine rz_iload_n 47 4 dX9_ruleStep_46 rfl rfl ?_
    refine rz_iast 48 dX9_ruleStep_47 rfl ?_
    refine rz_aload_n 49 1 dX9_ruleStep_48 rfl rfl ?_
    refine rz_dup 50 dX9_ruleStep_49 rfl rfl ?_
    refine rz_gI 53 dX9_ruleStep_50 rfl rfl fl_X9_291 (fun x6 => ?_)
    refine rz_iconst 54 dX9_ruleStep_53 rfl ci_1 ?_
    refine rz_iadd 55 dX9_ruleStep_54 rfl ?_
    refine rz_pI 58 dX9_ruleStep_55 rfl rfl rfl rfl fl_X9_291 ?_
    exact rz_return rfl rfl dX9_ruleStep_58
  · exact rz_return rfl rfl dX9_ruleStep_7
theorem tX9_ruleStep (v : mE) (d : Nat) (l0 : Nat) (l1 : Int32) (l2 : Int32) (l3 : Int32) : Mt v yX9_ruleStep cX9_ruleStep 5 none emU (d + 0) [vR l0, vI l1, vI l2, vI l3] (fX9_ruleStep l0 l1 l2 l3) := mt_of rfl rfl (fun h => by cases h) rfl rfl (rX9_ruleStep v d l0 l1 l2 l3)
theorem dX9_readBoth_0 : decode cX9_readBoth 0 = .ok (.aload_n 0, 1) := by decide +kernel
theorem dX9_readBoth_1 : decode cX9_readBoth 1 = .ok (.iload_n 1, 1) := by decide +kernel
theorem dX9_readBoth_2 : decode cX9_readBoth 2 = .ok (.invokevirtual 297, 3) := by decide +kernel
theorem dX9_readBoth_5 : decode cX9_readBoth 5 = .ok (.aload_n 0, 1) := by decide +kernel
theorem dX9_readBoth_6 : decode cX9_readBoth 6 = .ok (.getfield 221, 3) := by decide +kernel
theorem dX9_readBoth_9 : decode cX9_readBoth 9 = .ok (.ifCond .ne 30, 3) := by decide +kernel
theorem dX9_readBoth_12 : decode cX9_readBoth 12 = .ok (.aload_n 0, 1) := by decide +kernel
theorem dX9_readBoth_13 : decode cX9_readBoth 13 = .ok (.invokevirtual 205, 3) := by decide +kernel
theorem dX9_readBoth_16 : decode cX9_readBoth 16 = .ok (.ifCond .eq 23, 3) := by decide +kernel
theorem dX9_readBoth_19 : decode cX9_readBoth 19 = .ok (.aload_n 0, 1) := by decide +kernel
theorem dX9_readBoth_20 : decode cX9_readBoth 20 = .ok (.invokevirtual 231, 3) := by decide +kernel
theorem dX9_readBoth_23 : decode cX9_readBoth 23 = .ok (.aload_n 0, 1) := by decide +kernel
theorem dX9_readBoth_24 : decode cX9_readBoth 24 = .ok (.iload_n 1, 1) := by decide +kernel
theorem dX9_readBoth_25 : decode cX9_readBoth 25 = .ok (.invokevirtual 297, 3) := by decide +kernel
theorem dX9_readBoth_28 : decode cX9_readBoth 28 = .ok (.aload_n 0, 1) := by decide +kernel
theorem dX9_readBoth_29 : decode cX9_readBoth 29 = .ok (.bipush 9, 2) := by decide +kernel
theorem dX9_readBoth_31 : decode cX9_readBoth 31 = .ok (.iconst 0, 1) := by decide +kernel
theorem dX9_readBoth_32 : decode cX9_readBoth 32 = .ok (.iconst 0, 1) := by decide +kernel
theorem dX9_readBoth_33 : decode cX9_readBoth 33 = .ok (.invokevirtual 300, 3) := by decide +kernel
theorem dX9_readBoth_36 : decode cX9_readBoth 36 = .ok (.goto (-31), 3) := by decide +kernel
theorem dX9_readBoth_39 : decode cX9_readBoth 39 = .ok (.return_, 1) := by decide +kernel
def fX9_readBoth_5 (kX9_readOne : Nat → Int32 → mM Unit) : Nat → Nat → Int32 → mM Unit
  | 0 => fun _ _ => fun _ => none
  | n + 1 => fun l0 l1 => let r5 := fX9_readBoth_5 kX9_readOne n; bGI 9 l0 12 (fun x1 => bIf (x1 = 0) (bCallV 9 l0 (fX9_isAnd l0) (fun x2 => bIf (x2 = 0) (bRet ()) (bCallV 9 l0 (fX9_next l0) (fun _ => bCallV 9 l0 (kX9_readOne l0 l1) (fun _ => bCallV 9 l0 (fX9_ruleStep l0 (9 : Int32) (0 : Int32) (0 : Int32)) (fun _ => r5 l0 l1)))))) (bRet ()))
theorem qX9_readBoth_5 (kX9_readOne : Nat → Int32 → mM Unit) (n : Nat) (l0 : Nat) (l1 : Int32) : fX9_readBoth_5 kX9_readOne (n + 1) l0 l1 = bGI 9 l0 12 (fun x1 => bIf (x1 = 0) (bCallV 9 l0 (fX9_isAnd l0) (fun x2 => bIf (x2 = 0) (bRet ()) (bCallV 9 l0 (fX9_next l0) (fun _ => bCallV 9 l0 (kX9_readOne l0 l1) (fun _ => bCallV 9 l0 (fX9_ruleStep l0 (9 : Int32) (0 : Int32) (0 : Int32)) (fun _ => (fX9_readBoth_5 kX9_readOne n) l0 l1)))))) (bRet ())) := rfl
set_option maxRecDepth 20000 in
theorem rX9_readBoth_5 (v : mE) (d : Nat) (kX9_readOne : Nat → Int32 → mM Unit) (khX9_readOne : ∀ (z0 : Nat) (z1 : Int32), Mt v yX9_readOne cX9_readOne 7 none emU (d + 3) [vR z0, vI z1] (kX9_readOne z0 z1)) : ∀ (n : Nat) (l0 : Nat) (l1 : Int32), Rz v RX9 cX9_readBoth 2 none false emU (d + 4) 5 [(0, vR l0), (1, vI l1)] [] (fX9_readBoth_5 kX9_readOne n l0 l1)
  | 0, _, _ => fun _ _ _ hm => by cases hm
  | n + 1, l0, l1 => by
    have h5 := rX9_readBoth_5 v d kX9_readOne khX9_readOne n
    unfold fX9_readBoth_5
    generalize fX9_readBoth_5 kX9_readOne n = r5 at h5 ⊢
    refine rz_aload_n 6 0 dX9_readBoth_5 rfl rfl ?_
    refine rz_gI 9 dX9_readBoth_6 rfl rfl fl_X9_221 (fun x1 => ?_)
    refine rz_if_ne 39 12 dX9_readBoth_9 rfl rfl ?_ ?_
    · exact rz_return rfl rfl dX9_readBoth_39
    · refine rz_aload_n 13 0 dX9_readBoth_12 rfl rfl ?_
      refine rz_callV 16 dX9_readBoth_13 rfl (tX9_isAnd v (d + 2) l0) rfl rfl rfl rfl ml_X9_205 im_X9_isAnd se_X9_X9_isAnd in_X9 co_X9_isAnd rfl rfl (fun x2 => ?_)
      refine rz_if_eq 39 19 dX9_readBoth_16 rfl rfl ?_ ?_
      · exact rz_return rfl rfl dX9_readBoth_39
      · refine rz_aload_n 20 0 dX9_readBoth_19 rfl rfl ?_
        refine rz_callV 23 dX9_readBoth_20 rfl (tX9_next v (d + 2) l0) rfl rfl rfl rfl ml_X9_231 im_X9_next se_X9_X9_next in_X9 co_X9_next rfl rfl (fun _ => ?_)
        refine rz_aload_n 24 0 dX9_readBoth_23 rfl rfl ?_
        refine rz_iload_n 25 1 dX9_readBoth_24 rfl rfl ?_
        refine rz_callV 28 dX9_readBoth_25 rfl (khX9_readOne l0 l1) rfl rfl rfl rfl ml_X9_297 im_X9_readOne se_X9_X9_readOne in_X9 co_X9_readOne rfl rfl (fun _ => ?_)
        refine rz_aload_n 29 0 dX9_readBoth_28 rfl rfl ?_
        refine rz_bipush 31 dX9_readBoth_29 rfl cb_9 ?_
        refine rz_iconst 32 dX9_readBoth_31 rfl ci_0 ?_
        refine rz_iconst 33 dX9_readBoth_32 rfl ci_0 ?_
        refine rz_callV 36 dX9_readBoth_33 rfl (tX9_ruleStep v (d + 3) l0 (9 : Int32) (0 : Int32) (0 : Int32)) rfl rfl rfl rfl ml_X9_300 im_X9_ruleStep se_X9_X9_ruleStep in_X9 co_X9_ruleStep rfl rfl (fun _ => ?_)
        refine rz_goto 5 dX9_readBoth_36 rfl ?_
        exact rz_sub [0, 1] rfl (h5 l0 l1)
def fX9_readBoth (kX9_readOne : Nat → Int32 → mM Unit) (l0 : Nat) (l1 : Int32) : mM Unit := bCallV 9 l0 (kX9_readOne l0 l1) (fun _ => fX9_readBoth_5 kX9_readOne fu l0 l1)
set_option maxRecDepth 20000 in
theorem rX9_readBoth (v : mE) (d : Nat) (kX9_readOne : Nat → Int32 → mM Unit) (khX9_readOne : ∀ (z0 : Nat) (z1 : Int32), Mt v yX9_readOne cX9_readOne 7 none emU (d + 3) [vR z0, vI z1] (kX9_readOne z0 z1)) (l0 : Nat) (l1 : Int32) : Rz v RX9 cX9_readBoth 2 none false emU (d + 4) 0 [(0, vR l0), (1, vI l1)] [] (fX9_readBoth kX9_readOne l0 l1) := by
  unfold fX9_readBoth
  refine rz_aload_n 1 0 dX9_readBoth_0 rfl rfl ?_
  refine rz_iload_n 2 1 dX9_readBoth_1 rfl rfl ?_
  refine rz_callV 5 dX9_readBoth_2 rfl (khX9_readOne l0 l1) rfl rfl rfl rfl ml_X9_297 im_X9_readOne se_X9_X9_readOne in_X9 co_X9_readOne rfl rfl (fun _ => ?_)
  exact rz_sub [0, 1] rfl (rX9_readBoth_5 v d kX9_readOne khX9_readOne fu l0 l1)
theorem dX9_readEither_0 : decode cX9_readEither 0 = .ok (.aload_n 0, 1) := by decide +kernel
theorem dX9_readEither_1 : decode cX9_readEither 1 = .ok (.iload_n 1, 1) := by decide +kernel
theorem dX9_readEither_2 : decode cX9_readEither 2 = .ok (.invokevirtual 307, 3) := by decide +kernel
theorem dX9_readEither_5 : decode cX9_readEither 5 = .ok (.aload_n 0, 1) := by decide +kernel
theorem dX9_readEither_6 : decode cX9_readEither 6 = .ok (.getfield 221, 3) := by decide +kernel
theorem dX9_readEither_9 : decode cX9_readEither 9 = .ok (.ifCond .ne 30, 3) := by decide +kernel
theorem dX9_readEither_12 : decode cX9_readEither 12 = .ok (.aload_n 0, 1) := by decide +kernel
theorem dX9_readEither_13 : decode cX9_readEither 13 = .ok (.invokevirtual 202, 3) := by decide +kernel
theorem dX9_readEither_16 : decode cX9_readEither 16 = .ok (.ifCond .eq 23, 3) := by decide +kernel
theorem dX9_readEither_19 : decode cX9_readEither 19 = .ok (.aload_n 0, 1) := by decide +kernel
theorem dX9_readEither_20 : decode cX9_readEither 20 = .ok (.invokevirtual 231, 3) := by decide +kernel
theorem dX9_readEither_23 : decode cX9_readEither 23 = .ok (.aload_n 0, 1) := by decide +kernel
theorem dX9_readEither_24 : decode cX9_readEither 24 = .ok (.iload_n 1, 1) := by decide +kernel
theorem dX9_readEither_25 : decode cX9_readEither 25 = .ok (.invokevirtual 307, 3) := by decide +kernel
theorem dX9_readEither_28 : decode cX9_readEither 28 = .ok (.aload_n 0, 1) := by decide +kernel
theorem dX9_readEither_29 : decode cX9_readEither 29 = .ok (.bipush 10, 2) := by decide +kernel
theorem dX9_readEither_31 : decode cX9_readEither 31 = .ok (.iconst 0, 1) := by decide +kernel
theorem dX9_readEither_32 : decode cX9_readEither 32 = .ok (.iconst 0, 1) := by decide +kernel
theorem dX9_readEither_33 : decode cX9_readEither 33 = .ok (.invokevirtual 300, 3) := by decide +kernel
theorem dX9_readEither_36 : decode cX9_readEither 36 = .ok (.goto (-31), 3) := by decide +kernel
theorem dX9_readEither_39 : decode cX9_readEither 39 = .ok (.return_, 1) := by decide +kernel
def fX9_readEither_5 (kX9_readBoth : Nat → Int32 → mM Unit) : Nat → Nat → Int32 → mM Unit
  | 0 => fun _ _ => fun _ => none
  | n + 1 => fun l0 l1 => let r5 := fX9_readEither_5 kX9_readBoth n; bGI 9 l0 12 (fun x1 => bIf (x1 = 0) (bCallV 9 l0 (fX9_isOr l0) (fun x2 => bIf (x2 = 0) (bRet ()) (bCallV 9 l0 (fX9_next l0) (fun _ => bCallV 9 l0 (kX9_readBoth l0 l1) (fun _ => bCallV 9 l0 (fX9_ruleStep l0 (10 : Int32) (0 : Int32) (0 : Int32)) (fun _ => r5 l0 l1)))))) (bRet ()))
theorem qX9_readEither_5 (kX9_readBoth : Nat → Int32 → mM Unit) (n : Nat) (l0 : Nat) (l1 : Int32) : fX9_readEither_5 kX9_readBoth (n + 1) l0 l1 = bGI 9 l0 12 (fun x1 => bIf (x1 = 0) (bCallV 9 l0 (fX9_isOr l0) (fun x2 => bIf (x2 = 0) (bRet ()) (bCallV 9 l0 (fX9_next l0) (fun _ => bCallV 9 l0 (kX9_readBoth l0 l1) (fun _ => bCallV 9 l0 (fX9_ruleStep l0 (10 : Int32) (0 : Int32) (0 : Int32)) (fun _ => (fX9_readEither_5 kX9_readBoth n) l0 l1)))))) (bRet ())) := rfl
set_option maxRecDepth 20000 in
theorem rX9_readEither_5 (v : mE) (d : Nat) (kX9_readBoth : Nat → Int32 → mM Unit) (khX9_readBoth : ∀ (z0 : Nat) (z1 : Int32), Mt v yX9_readBoth cX9_readBoth 2 none emU (d + 3) [vR z0, vI z1] (kX9_readBoth z0 z1)) : ∀ (n : Nat) (l0 : Nat) (l1 : Int32), Rz v RX9 cX9_readEither 2 none false emU (d + 4) 5 [(0, vR l0), (1, vI l1)] [] (fX9_readEither_5 kX9_readBoth n l0 l1)
  | 0, _, _ => fun _ _ _ hm => by cases hm
  | n + 1, l0, l1 => by
    have h5 := rX9_readEither_5 v d kX9_readBoth khX9_readBoth n
    unfold fX9_readEither_5
    generalize fX9_readEither_5 kX9_readBoth n = r5 at h5 ⊢
    refine rz_aload_n 6 0 dX9_readEither_5 rfl rfl ?_
    refine rz_gI 9 dX9_readEither_6 rfl rfl fl_X9_221 (fun x1 => ?_)
    refine rz_if_ne 39 12 dX9_readEither_9 rfl rfl ?_ ?_
    · exact rz_return rfl rfl dX9_readEither_39
    · refine rz_aload_n 13 0 dX9_readEither_12 rfl rfl ?_
      refine rz_callV 16 dX9_readEither_13 rfl (tX9_isOr v (d + 2) l0) rfl rfl rfl rfl ml_X9_202 im_X9_isOr se_X9_X9_isOr in_X9 co_X9_isOr rfl rfl (fun x2 => ?_)
      refine rz_if_eq 39 19 dX9_readEither_16 rfl rfl ?_ ?_
      · exact rz_return rfl rfl dX9_readEither_39
      · refine rz_aload_n 20 0 dX9_readEither_19 rfl rfl ?_
        refine rz_callV 23 dX9_readEither_20 rfl (tX9_next v (d + 2) l0) rfl rfl rfl rfl ml_X9_231 im_X9_next se_X9_X9_next in_X9 co_X9_next rfl rfl (fun _ => ?_)
        refine rz_aload_n 24 0 dX9_readEither_23 rfl rfl ?_
        refine rz_iload_n 25 1 dX9_readEither_24 rfl rfl ?_
        refine rz_callV 28 dX9_readEither_25 rfl (khX9_readBoth l0 l1) rfl rfl rfl rfl ml_X9_307 im_X9_readBoth se_X9_X9_readBoth in_X9 co_X9_readBoth rfl rfl (fun _ => ?_)
        refine rz_aload_n 29 0 dX9_readEither_28 rfl rfl ?_
        refine rz_bipush 31 dX9_readEither_29 rfl cb_10 ?_
        refine rz_iconst 32 dX9_readEither_31 rfl ci_0 ?_
        refine rz_iconst 33 dX9_readEither_32 rfl ci_0 ?_
        refine rz_callV 36 dX9_readEither_33 rfl (tX9_ruleStep v (d + 3) l0 (10 : Int32) (0 : Int32) (0 : Int32)) rfl rfl rfl rfl ml_X9_300 im_X9_ruleStep se_X9_X9_ruleStep in_X9 co_X9_ruleStep rfl rfl (fun _ => ?_)
        refine rz_goto 5 dX9_readEither_36 rfl ?_
        exact rz_sub [0, 1] rfl (h5 l0 l1)
def fX9_readEither (kX9_readBoth : Nat → Int32 → mM Unit) (l0 : Nat) (l1 : Int32) : mM Unit := bCallV 9 l0 (kX9_readBoth l0 l1) (fun _ => fX9_readEither_5 kX9_readBoth fu l0 l1)
set_option maxRecDepth 20000 in
theorem rX9_readEither (v : mE) (d : Nat) (kX9_readBoth : Nat → Int32 → mM Unit) (khX9_readBoth : ∀ (z0 : Nat) (z1 : Int32), Mt v yX9_readBoth cX9_readBoth 2 none emU (d + 3) [vR z0, vI z1] (kX9_readBoth z0 z1)) (l0 : Nat) (l1 : Int32) : Rz v RX9 cX9_readEither 2 none false emU (d + 4) 0 [(0, vR l0), (1, vI l1)] [] (fX9_readEither kX9_readBoth l0 l1) := by
  unfold fX9_readEither
  refine rz_aload_n 1 0 dX9_readEither_0 rfl rfl ?_
  refine rz_iload_n 2 1 dX9_readEither_1 rfl rfl ?_
  refine rz_callV 5 dX9_readEither_2 rfl (khX9_readBoth l0 l1) rfl rfl rfl rfl ml_X9_307 im_X9_readBoth se_X9_X9_readBoth in_X9 co_X9_readBoth rfl rfl (fun _ => ?_)
  exact rz_sub [0, 1] rfl (rX9_readEither_5 v d kX9_readBoth khX9_readBoth fu l0 l1)
theorem dX9_readOne_0 : decode cX9_readOne 0 = .ok (.aload_n 0, 1) := by decide +kernel
theorem dX9_readOne_1 : decode cX9_readOne 1 = .ok (.getfield 221, 3) := by decide +kernel
theorem dX9_readOne_4 : decode cX9_readOne 4 = .ok (.ifCond .le 4, 3) := by decide +kernel
theorem dX9_readOne_7 : decode cX9_readOne 7 = .ok (.return_, 1) := by decide +kernel
theorem dX9_readOne_8 : decode cX9_readOne 8 = .ok (.aload_n 0, 1) := by decide +kernel
theorem dX9_readOne_9 : decode cX9_readOne 9 = .ok (.invokevirtual 208, 3) := by decide +kernel
theorem dX9_readOne_12 : decode cX9_readOne 12 = .ok (.istore_n 2, 1) := by decide +kernel
theorem dX9_readOne_13 : decode cX9_readOne 13 = .ok (.aload_n 0, 1) := by decide +kernel
theorem dX9_readOne_14 : decode cX9_readOne 14 = .ok (.bipush 40, 2) := by decide +kernel
theorem dX9_readOne_16 : decode cX9_readOne 16 = .ok (.invokevirtual 285, 3) := by decide +kernel
theorem dX9_readOne_19 : decode cX9_readOne 19 = .ok (.istore_n 3, 1) := by decide +kernel
theorem dX9_readOne_20 : decode cX9_readOne 20 = .ok (.aload_n 0, 1) := by decide +kernel
theorem dX9_readOne_21 : decode cX9_readOne 21 = .ok (.invokevirtual 211, 3) := by decide +kernel
theorem dX9_readOne_24 : decode cX9_readOne 24 = .ok (.istore 4, 2) := by decide +kernel
theorem dX9_readOne_26 : decode cX9_readOne 26 = .ok (.iload_n 2, 1) := by decide +kernel
theorem dX9_readOne_27 : decode cX9_readOne 27 = .ok (.ifCond .ne 16, 3) := by decide +kernel
theorem dX9_readOne_30 : decode cX9_readOne 30 = .ok (.iload_n 3, 1) := by decide +kernel
theorem dX9_readOne_31 : decode cX9_readOne 31 = .ok (.ifCond .ne 12, 3) := by decide +kernel
theorem dX9_readOne_34 : decode cX9_readOne 34 = .ok (.iload 4, 2) := by decide +kernel
theorem dX9_readOne_36 : decode cX9_readOne 36 = .ok (.ifCond .ge 7, 3) := by decide +kernel
theorem dX9_readOne_39 : decode cX9_readOne 39 = .ok (.aload_n 0, 1) := by decide +kernel
theorem dX9_readOne_40 : decode cX9_readOne 40 = .ok (.invokevirtual 234, 3) := by decide +kernel
theorem dX9_readOne_43 : decode cX9_readOne 43 = .ok (.aload_n 0, 1) := by decide +kernel
theorem dX9_readOne_44 : decode cX9_readOne 44 = .ok (.getfield 221, 3) := by decide +kernel
theorem dX9_readOne_47 : decode cX9_readOne 47 = .ok (.ifCond .ne 27, 3) := by decide +kernel
theorem dX9_readOne_50 : decode cX9_readOne 50 = .ok (.iload 4, 2) := by decide +kernel
theorem dX9_readOne_52 : decode cX9_readOne 52 = .ok (.ifCond .lt 22, 3) := by decide +kernel
theorem dX9_readOne_55 : decode cX9_readOne 55 = .ok (.aload_n 0, 1) := by decide +kernel
theorem dX9_readOne_56 : decode cX9_readOne 56 = .ok (.getfield 294, 3) := by decide +kernel
theorem dX9_readOne_59 : decode cX9_readOne 59 = .ok (.bipush 24, 2) := by decide +kernel
theorem dX9_readOne_61 : decode cX9_readOne 61 = .ok (.if_icmp .ne 13, 3) := by decide +kernel
theorem dX9_readOne_64 : decode cX9_readOne 64 = .ok (.aload_n 0, 1) := by decide +kernel
theorem dX9_readOne_65 : decode cX9_readOne 65 = .ok (.bipush 6, 2) := by decide +kernel
theorem dX9_readOne_67 : decode cX9_readOne 67 = .ok (.aload_n 0, 1) := by decide +kernel
theorem dX9_readOne_68 : decode cX9_readOne 68 = .ok (.getfield 107, 3) := by decide +kernel
theorem dX9_readOne_71 : decode cX9_readOne 71 = .ok (.invokevirtual 227, 3) := by decide +kernel
theorem dX9_readOne_74 : decode cX9_readOne 74 = .ok (.aload_n 0, 1) := by decide +kernel
theorem dX9_readOne_75 : decode cX9_readOne 75 = .ok (.getfield 221, 3) := by decide +kernel
theorem dX9_readOne_78 : decode cX9_readOne 78 = .ok (.ifCond .ne 19, 3) := by decide +kernel
theorem dX9_readOne_81 : decode cX9_readOne 81 = .ok (.iload_n 1, 1) := by decide +kernel
theorem dX9_readOne_82 : decode cX9_readOne 82 = .ok (.bipush 6, 2) := by decide +kernel
theorem dX9_readOne_84 : decode cX9_readOne 84 = .ok (.if_icmp .ne 13, 3) := by decide +kernel
theorem dX9_readOne_87 : decode cX9_readOne 87 = .ok (.aload_n 0, 1) := by decide +kernel
theorem dX9_readOne_88 : decode cX9_readOne 88 = .ok (.bipush 7, 2) := by decide +kernel
theorem dX9_readOne_90 : decode cX9_readOne 90 = .ok (.aload_n 0, 1) := by decide +kernel
theorem dX9_readOne_91 : decode cX9_readOne 91 = .ok (.getfield 107, 3) := by decide +kernel
theorem dX9_readOne_94 : decode cX9_readOne 94 = .ok (.invokevirtual 227, 3) := by decide +kernel
theorem dX9_readOne_97 : decode cX9_readOne 97 = .ok (.aload_n 0, 1) := by decide +kernel
theorem dX9_readOne_98 : decode cX9_readOne 98 = .ok (.getfield 221, 3) := by decide +kernel
theorem dX9_readOne_101 : decode cX9_readOne 101 = .ok (.ifCond .le 4, 3) := by decide +kernel
theorem dX9_readOne_104 : decode cX9_readOne 104 = .ok (.return_, 1) := by decide +kernel
theorem dX9_readOne_105 : decode cX9_readOne 105 = .ok (.aload_n 0, 1) := by decide +kernel
theorem dX9_readOne_106 : decode cX9_readOne 106 = .ok (.invokevirtual 231, 3) := by decide +kernel
theorem dX9_readOne_109 : decode cX9_readOne 109 = .ok (.iload_n 2, 1) := by decide +kernel
theorem dX9_readOne_110 : decode cX9_readOne 110 = .ok (.ifCond .eq 21, 3) := by decide +kernel
theorem dX9_readOne_113 : decode cX9_readOne 113 = .ok (.aload_n 0, 1) := by decide +kernel
theorem dX9_readOne_114 : decode cX9_readOne 114 = .ok (.iload_n 1, 1) := by decide +kernel
theorem dX9_readOne_115 : decode cX9_readOne 115 = .ok (.iconst 1, 1) := by decide +kernel
theorem dX9_readOne_116 : decode cX9_readOne 116 = .ok (.iadd, 1) := by decide +kernel
theorem dX9_readOne_117 : decode cX9_readOne 117 = .ok (.invokevirtual 297, 3) := by decide +kernel
theorem dX9_readOne_120 : decode cX9_readOne 120 = .ok (.aload_n 0, 1) := by decide +kernel
theorem dX9_readOne_121 : decode cX9_readOne 121 = .ok (.bipush 8, 2) := by decide +kernel
theorem dX9_readOne_123 : decode cX9_readOne 123 = .ok (.iconst 0, 1) := by decide +kernel
theorem dX9_readOne_124 : decode cX9_readOne 124 = .ok (.iconst 0, 1) := by decide +kernel
theorem dX9_readOne_125 : decode cX9_readOne 125 = .ok (.invokevirtual 300, 3) := by decide +kernel
theorem dX9_readOne_128 : decode cX9_readOne 128 = .ok (.goto 123, 3) := by decide +kernel
theorem dX9_readOne_131 : decode cX9_readOne 131 = .ok (.iload_n 3, 1) := by decide +kernel
theorem dX9_readOne_132 : decode cX9_readOne 132 = .ok (.ifCond .eq 23, 3) := by decide +kernel
theorem dX9_readOne_135 : decode cX9_readOne 135 = .ok (.aload_n 0, 1) := by decide +kernel
theorem dX9_readOne_136 : decode cX9_readOne 136 = .ok (.iload_n 1, 1) := by decide +kernel
theorem dX9_readOne_137 : decode cX9_readOne 137 = .ok (.iconst 1, 1) := by decide +kernel
theorem dX9_readOne_138 : decode cX9_readOne 138 = .ok (.iadd, 1) := by decide +kernel
theorem dX9_readOne_139 : decode cX9_readOne 139 = .ok (.invokevirtual 304, 3) := by decide +kernel
theorem dX9_readOne_142 : decode cX9_readOne 142 = .ok (.aload_n 0, 1) := by decide +kernel
theorem dX9_readOne_143 : decode cX9_readOne 143 = .ok (.aload_n 0, 1) := by decide +kernel
theorem dX9_readOne_144 : decode cX9_readOne 144 = .ok (.bipush 41, 2) := by decide +kernel
theorem dX9_readOne_146 : decode cX9_readOne 146 = .ok (.invokevirtual 285, 3) := by decide +kernel
theorem dX9_readOne_149 : decode cX9_readOne 149 = .ok (.invokevirtual 252, 3) := by decide +kernel
theorem dX9_readOne_152 : decode cX9_readOne 152 = .ok (.goto 99, 3) := by decide +kernel
theorem dX9_readOne_155 : decode cX9_readOne 155 = .ok (.aload_n 0, 1) := by decide +kernel
theorem dX9_readOne_156 : decode cX9_readOne 156 = .ok (.dup, 1) := by decide +kernel
theorem dX9_readOne_157 : decode cX9_readOne 157 = .ok (.getfield 294, 3) := by decide +kernel
theorem dX9_readOne_160 : decode cX9_readOne 160 = .ok (.iconst 1, 1) := by decide +kernel
theorem dX9_readOne_161 : decode cX9_readOne 161 = .ok (.iadd, 1) := by decide +kernel
theorem dX9_readOne_162 : decode cX9_readOne 162 = .ok (.putfield 294, 3) := by decide +kernel
theorem dX9_readOne_165 : decode cX9_readOne 165 = .ok (.iconst 0, 1) := by decide +kernel
theorem dX9_readOne_166 : decode cX9_readOne 166 = .ok (.istore 5, 2) := by decide +kernel
theorem dX9_readOne_168 : decode cX9_readOne 168 = .ok (.iconst 0, 1) := by decide +kernel
theorem dX9_readOne_169 : decode cX9_readOne 169 = .ok (.istore 6, 2) := by decide +kernel
theorem dX9_readOne_171 : decode cX9_readOne 171 = .ok (.iload 4, 2) := by decide +kernel
theorem dX9_readOne_173 : decode cX9_readOne 173 = .ok (.iconst 1, 1) := by decide +kernel
theorem dX9_readOne_174 : decode cX9_readOne 174 = .ok (.if_icmp .le 67, 3) := by decide +kernel
theorem dX9_readOne_177 : decode cX9_readOne 177 = .ok (.aload_n 0, 1) := by decide +kernel
theorem dX9_readOne_178 : decode cX9_readOne 178 = .ok (.getfield 113, 3) := by decide +kernel
theorem dX9_readOne_181 : decode cX9_readOne 181 = .ok (.iconst 3, 1) := by decide +kernel
theorem dX9_readOne_182 : decode cX9_readOne 182 = .ok (.if_icmp .ne 10, 3) := by decide +kernel
theorem dX9_readOne_185 : decode cX9_readOne 185 = .ok (.aload_n 0, 1) := by decide +kernel
theorem dX9_readOne_186 : decode cX9_readOne 186 = .ok (.getfield 132, 3) := by decide +kernel
theorem dX9_readOne_189 : decode cX9_readOne 189 = .ok (.goto 4, 3) := by decide +kernel
theorem dX9_readOne_192 : decode cX9_readOne 192 = .ok (.iconst 0, 1) := by decide +kernel
theorem dX9_readOne_193 : decode cX9_readOne 193 = .ok (.istore 5, 2) := by decide +kernel
theorem dX9_readOne_195 : decode cX9_readOne 195 = .ok (.aload_n 0, 1) := by decide +kernel
theorem dX9_readOne_196 : decode cX9_readOne 196 = .ok (.aload_n 0, 1) := by decide +kernel
theorem dX9_readOne_197 : decode cX9_readOne 197 = .ok (.bipush 60, 2) := by decide +kernel
theorem dX9_readOne_199 : decode cX9_readOne 199 = .ok (.invokevirtual 285, 3) := by decide +kernel
theorem dX9_readOne_202 : decode cX9_readOne 202 = .ok (.ifCond .ne 21, 3) := by decide +kernel
theorem dX9_readOne_205 : decode cX9_readOne 205 = .ok (.aload_n 0, 1) := by decide +kernel
theorem dX9_readOne_206 : decode cX9_readOne 206 = .ok (.bipush 62, 2) := by decide +kernel
theorem dX9_readOne_208 : decode cX9_readOne 208 = .ok (.invokevirtual 285, 3) := by decide +kernel
theorem dX9_readOne_211 : decode cX9_readOne 211 = .ok (.ifCond .ne 12, 3) := by decide +kernel
theorem dX9_readOne_214 : decode cX9_readOne 214 = .ok (.aload_n 0, 1) := by decide +kernel
theorem dX9_readOne_215 : decode cX9_readOne 215 = .ok (.bipush 61, 2) := by decide +kernel
theorem dX9_readOne_217 : decode cX9_readOne 217 = .ok (.invokevirtual 285, 3) := by decide +kernel
theorem dX9_readOne_220 : decode cX9_readOne 220 = .ok (.ifCond .eq 7, 3) := by decide +kernel
theorem dX9_readOne_223 : decode cX9_readOne 223 = .ok (.iconst 1, 1) := by decide +kernel
theorem dX9_readOne_224 : decode cX9_readOne 224 = .ok (.goto 4, 3) := by decide +kernel
theorem dX9_readOne_227 : decode cX9_readOne 227 = .ok (.iconst 0, 1) := by decide +kernel
theorem dX9_readOne_228 : decode cX9_readOne 228 = .ok (.invokevirtual 252, 3) := by decide +kernel
theorem dX9_readOne_231 : decode cX9_readOne 231 = .ok (.aload_n 0, 1) := by decide +kernel
theorem dX9_readOne_232 : decode cX9_readOne 232 = .ok (.iconst 0, 1) := by decide +kernel
theorem dX9_readOne_233 : decode cX9_readOne 233 = .ok (.sipush 999, 3) := by decide +kernel
theorem dX9_readOne_236 : decode cX9_readOne 236 = .ok (.invokevirtual 260, 3) := by decide +kernel
theorem dX9_readOne_239 : decode cX9_readOne 239 = .ok (.istore 6, 2) := by decide +kernel
theorem dX9_readOne_241 : decode cX9_readOne 241 = .ok (.aload_n 0, 1) := by decide +kernel
theorem dX9_readOne_242 : decode cX9_readOne 242 = .ok (.iload 4, 2) := by decide +kernel
theorem dX9_readOne_244 : decode cX9_readOne 244 = .ok (.iload 5, 2) := by decide +kernel
theorem dX9_readOne_246 : decode cX9_readOne 246 = .ok (.iload 6, 2) := by decide +kernel
theorem dX9_readOne_248 : decode cX9_readOne 248 = .ok (.invokevirtual 300, 3) := by decide +kernel
theorem dX9_readOne_251 : decode cX9_readOne 251 = .ok (.return_, 1) := by decide +kernel
def fX9_readOne_241 (kX9_readOne : Nat → Int32 → mM Unit) (kX9_readEither : Nat → Int32 → mM Unit) (l0 : Nat) (l4 : Int32) (l5 : Int32) (l6 : Int32) : mM Unit := bCallV 9 l0 (fX9_ruleStep l0 l4 l5 l6) (fun _ => bRet ())
set_option maxRecDepth 20000 in
theorem rX9_readOne_241 (v : mE) (d : Nat) (kX9_readOne : Nat → Int32 → mM Unit) (khX9_readOne : ∀ (z0 : Nat) (z1 : Int32), Mt v yX9_readOne cX9_readOne 7 none emU (d + 3) [vR z0, vI z1] (kX9_readOne z0 z1)) (kX9_readEither : Nat → Int32 → mM Unit) (khX9_readEither : ∀ (z0 : Nat) (z1 : Int32), Mt v yX9_readEither cX9_readEither 2 none emU (d + 3) [vR z0, vI z1] (kX9_readEither z0 z1)) (l0 : Nat) (l4 : Int32) (l5 : Int32) (l6 : Int32) : Rz v RX9 cX9_readOne 7 none false emU (d + 4) 241 [(0, vR l0), (4, vI l4), (5, vI l5), (6, vI l6)] [] (fX9_readOne_241 kX9_readOne kX9_readEither l0 l4 l5 l6) := by
  unfold fX9_readOne_241
  refine rz_aload_n 242 0 dX9_readOne_241 rfl rfl ?_
  refine rz_iload 244 1 dX9_readOne_242 rfl rfl ?_
  refine rz_iload 246 2 dX9_readOne_244 rfl rfl ?_
  refine rz_iload 248 3 dX9_readOne_246 rfl rfl ?_
  refine rz_callV 251 dX9_readOne_248 rfl (tX9_ruleStep v (d + 3) l0 l4 l5 l6) rfl rfl rfl rfl ml_X9_300 im_X9_ruleStep se_X9_X9_ruleStep in_X9 co_X9_ruleStep rfl rfl (fun _ => ?_)
  exact rz_return rfl rfl dX9_readOne_251
def fX9_readOne_228 (kX9_readOne : Nat → Int32 → mM Unit) (kX9_readEither : Nat → Int32 → mM Unit) (l0 : Nat) (l4 : Int32) (l5 : Int32) (s0 : Int32) (s1 : Nat) : mM Unit := bCallV 9 s1 (fX9_must s1 s0) (fun _ => bCallV 9 l0 (fX9_count l0 (0 : Int32) (999 : Int32)) (fun x1 => fX9_readOne_241 kX9_readOne kX9_readEither l0 l4 l5 x1))
set_option maxRecDepth 20000 in
theorem rX9_readOne_228 (v : mE) (d : Nat) (kX9_readOne : Nat → Int32 → mM Unit) (khX9_readOne : ∀ (z0 : Nat) (z1 : Int32), Mt v yX9_readOne cX9_readOne 7 none emU (d + 3) [vR z0, vI z1] (kX9_readOne z0 z1)) (kX9_readEither : Nat → Int32 → mM Unit) (khX9_readEither : ∀ (z0 : Nat) (z1 : Int32), Mt v yX9_readEither cX9_readEither 2 none emU (d + 3) [vR z0, vI z1] (kX9_readEither z0 z1)) (l0 : Nat) (l4 : Int32) (l5 : Int32) (s0 : Int32) (s1 : Nat) : Rz v RX9 cX9_readOne 7 none false emU (d + 4) 228 [(0, vR l0), (4, vI l4), (5, vI l5)] [vI s0, vR s1] (fX9_readOne_228 kX9_readOne kX9_readEither l0 l4 l5 s0 s1) := by
  unfold fX9_readOne_228
  refine rz_callV 231 dX9_readOne_228 rfl (tX9_must v (d + 1) s1 s0) rfl rfl rfl rfl ml_X9_252 im_X9_must se_X9_X9_must in_X9 co_X9_must rfl rfl (fun _ => ?_)
  refine rz_aload_n 232 0 dX9_readOne_231 rfl rfl ?_
  refine rz_iconst 233 dX9_readOne_232 rfl ci_0 ?_
  refine rz_sipush 236 dX9_readOne_233 rfl cs_999 ?_
  refine rz_callV 239 dX9_readOne_236 rfl (tX9_count v (d + 1) l0 (0 : Int32) (999 : Int32)) rfl rfl rfl rfl ml_X9_260 im_X9_count se_X9_X9_count in_X9 co_X9_count rfl rfl (fun x1 => ?_)
  refine rz_istore (lv' := [(6, vI x1), (0, vR l0), (4, vI l4), (5, vI l5)]) 241 dX9_readOne_239 rfl rfl rfl ?_
  exact rz_sub [1, 2, 3, 0] rfl (rX9_readOne_241 v d kX9_readOne khX9_readOne kX9_readEither khX9_readEither l0 l4 l5 x1)
def fX9_readOne_223 (kX9_readOne : Nat → Int32 → mM Unit) (kX9_readEither : Nat → Int32 → mM Unit) (l0 : Nat) (l4 : Int32) (l5 : Int32) (s0 : Nat) : mM Unit := fX9_readOne_228 kX9_readOne kX9_readEither l0 l4 l5 (1 : Int32) s0
set_option maxRecDepth 20000 in
theorem rX9_readOne_223 (v : mE) (d : Nat) (kX9_readOne : Nat → Int32 → mM Unit) (khX9_readOne : ∀ (z0 : Nat) (z1 : Int32), Mt v yX9_readOne cX9_readOne 7 none emU (d + 3) [vR z0, vI z1] (kX9_readOne z0 z1)) (kX9_readEither : Nat → Int32 → mM Unit) (khX9_readEither : ∀ (z0 : Nat) (z1 : Int32), Mt v yX9_readEither cX9_readEither 2 none emU (d + 3) [vR z0, vI z1] (kX9_readEither z0 z1)) (l0 : Nat) (l4 : Int32) (l5 : Int32) (s0 : Nat) : Rz v RX9 cX9_readOne 7 none false emU (d + 4) 223 [(0, vR l0), (4, vI l4), (5, vI l5)] [vR s0] (fX9_readOne_223 kX9_readOne kX9_readEither l0 l4 l5 s0) := by
  unfold fX9_readOne_223
  refine rz_iconst 224 dX9_readOne_223 rfl ci_1 ?_
  refine rz_goto 228 dX9_readOne_224 rfl ?_
  exact rz_sub [0, 1, 2] rfl (rX9_readOne_228 v d kX9_readOne khX9_readOne kX9_readEither khX9_readEither l0 l4 l5 (1 : Int32) s0)
def fX9_readOne_193 (kX9_readOne : Nat → Int32 → mM Unit) (kX9_readEither : Nat → Int32 → mM Unit) (l0 : Nat) (l4 : Int32) (s0 : Int32) : mM Unit := bCallV 9 l0 (fX9_isSign l0 (60 : Int32)) (fun x1 => bIf (x1 = 0) (bCallV 9 l0 (fX9_isSign l0 (62 : Int32)) (fun x2 => bIf (x2 = 0) (bCallV 9 l0 (fX9_isSign l0 (61 : Int32)) (fun x3 => bIf (x3 = 0) (fX9_readOne_228 kX9_readOne kX9_readEither l0 l4 s0 (0 : Int32) l0) (fX9_readOne_223 kX9_readOne kX9_readEither l0 l4 s0 l0))) (fX9_readOne_223 kX9_readOne kX9_readEither l0 l4 s0 l0))) (fX9_readOne_223 kX9_readOne kX9_readEither l0 l4 s0 l0))
set_option maxRecDepth 20000 in
theorem rX9_readOne_193 (v : mE) (d : Nat) (kX9_readOne : Nat → Int32 → mM Unit) (khX9_readOne : ∀ (z0 : Nat) (z1 : Int32), Mt v yX9_readOne cX9_readOne 7 none emU (d + 3) [vR z0, vI z1] (kX9_readOne z0 z1)) (kX9_readEither : Nat → Int32 → mM Unit) (khX9_readEither : ∀ (z0 : Nat) (z1 : Int32), Mt v yX9_readEither cX9_readEither 2 none emU (d + 3) [vR z0, vI z1] (kX9_readEither z0 z1)) (l0 : Nat) (l4 : Int32) (s0 : Int32) : Rz v RX9 cX9_readOne 7 none false emU (d + 4) 193 [(0, vR l0), (4, vI l4)] [vI s0] (fX9_readOne_193 kX9_readOne kX9_readEither l0 l4 s0) := by
  unfold fX9_readOne_193
  refine rz_istore (lv' := [(5, vI s0), (0, vR l0), (4, vI l4)]) 195 dX9_readOne_193 rfl rfl rfl ?_
  refine rz_aload_n 196 1 dX9_readOne_195 rfl rfl ?_
  refine rz_aload_n 197 1 dX9_readOne_196 rfl rfl ?_
  refine rz_bipush 199 dX9_readOne_197 rfl cb_60 ?_
  refine rz_callV 202 dX9_readOne_199 rfl (tX9_isSign v (d + 3) l0 (60 : Int32)) rfl rfl rfl rfl ml_X9_285 im_X9_isSign se_X9_X9_isSign in_X9 co_X9_isSign rfl rfl (fun x1 => ?_)
  refine rz_if_ne 223 205 dX9_readOne_202 rfl rfl ?_ ?_
  · exact rz_sub [1, 2, 0] rfl (rX9_readOne_223 v d kX9_readOne khX9_readOne kX9_readEither khX9_readEither l0 l4 s0 l0)
  · refine rz_aload_n 206 1 dX9_readOne_205 rfl rfl ?_
    refine rz_bipush 208 dX9_readOne_206 rfl cb_62 ?_
    refine rz_callV 211 dX9_readOne_208 rfl (tX9_isSign v (d + 3) l0 (62 : Int32)) rfl rfl rfl rfl ml_X9_285 im_X9_isSign se_X9_X9_isSign in_X9 co_X9_isSign rfl rfl (fun x2 => ?_)
    refine rz_if_ne 223 214 dX9_readOne_211 rfl rfl ?_ ?_
    · exact rz_sub [1, 2, 0] rfl (rX9_readOne_223 v d kX9_readOne khX9_readOne kX9_readEither khX9_readEither l0 l4 s0 l0)
    · refine rz_aload_n 215 1 dX9_readOne_214 rfl rfl ?_
      refine rz_bipush 217 dX9_readOne_215 rfl cb_61 ?_
      refine rz_callV 220 dX9_readOne_217 rfl (tX9_isSign v (d + 3) l0 (61 : Int32)) rfl rfl rfl rfl ml_X9_285 im_X9_isSign se_X9_X9_isSign in_X9 co_X9_isSign rfl rfl (fun x3 => ?_)
      refine rz_if_eq 227 223 dX9_readOne_220 rfl rfl ?_ ?_
      · refine rz_iconst 228 dX9_readOne_227 rfl ci_0 ?_
        exact rz_sub [1, 2, 0] rfl (rX9_readOne_228 v d kX9_readOne khX9_readOne kX9_readEither khX9_readEither l0 l4 s0 (0 : Int32) l0)
      · exact rz_sub [1, 2, 0] rfl (rX9_readOne_223 v d kX9_readOne khX9_readOne kX9_readEither khX9_readEither l0 l4 s0 l0)
def fX9_readOne_97 (kX9_readOne : Nat → Int32 → mM Unit) (kX9_readEither : Nat → Int32 → mM Unit) (l0 : Nat) (l1 : Int32) (l2 : Int32) (l3 : Int32) (l4 : Int32) : mM Unit := bGI 9 l0 12 (fun x1 => bIf (x1 ≤ 0) (bCallV 9 l0 (fX9_next l0) (fun _ => bIf (l2 = 0) (bIf (l3 = 0) (bGI 9 l0 20 (fun x2 => bPI 9 l0 20 (x2 + (1 : Int32)) (bIf (l4 ≤ (1 : Int32)) (fX9_readOne_241 kX9_readOne kX9_readEither l0 l4 (0 : Int32) (0 : Int32)) (bGI 9 l0 14 (fun x3 => bIf (x3 = (3 : Int32)) (bGI 9 l0 17 (fun x4 => fX9_readOne_193 kX9_readOne kX9_readEither l0 l4 x4)) (fX9_readOne_193 kX9_readOne kX9_readEither l0 l4 (0 : Int32))))))) (bCallV 9 l0 (kX9_readEither l0 (l1 + (1 : Int32))) (fun _ => bCallV 9 l0 (fX9_isSign l0 (41 : Int32)) (fun x5 => bCallV 9 l0 (fX9_must l0 x5) (fun _ => bRet ()))))) (bCallV 9 l0 (kX9_readOne l0 (l1 + (1 : Int32))) (fun _ => bCallV 9 l0 (fX9_ruleStep l0 (8 : Int32) (0 : Int32) (0 : Int32)) (fun _ => bRet ()))))) (bRet ()))
set_option maxRecDepth 20000 in
theorem rX9_readOne_97 (v : mE) (d : Nat) (kX9_readOne : Nat → Int32 → mM Unit) (khX9_readOne : ∀ (z0 : Nat) (z1 : Int32), Mt v yX9_readOne cX9_readOne 7 none emU (d + 3) [vR z0, vI z1] (kX9_readOne z0 z1)) (kX9_readEither : Nat → Int32 → mM Unit) (khX9_readEither : ∀ (z0 : Nat) (z1 : Int32), Mt v yX9_readEither cX9_readEither 2 none emU (d + 3) [vR z0, vI z1] (kX9_readEither z0 z1)) (l0 : Nat) (l1 : Int32) (l2 : Int32) (l3 : Int32) (l4 : Int32) : Rz v RX9 cX9_readOne 7 none false emU (d + 4) 97 [(0, vR l0), (1, vI l1), (2, vI l2), (3, vI l3), (4, vI l4)] [] (fX9_readOne_97 kX9_readOne kX9_readEither l0 l1 l2 l3 l4) := by
  unfold fX9_readOne_97
  refine rz_aload_n 98 0 dX9_readOne_97 rfl rfl ?_
  refine rz_gI 101 dX9_readOne_98 rfl rfl fl_X9_221 (fun x1 => ?_)
  refine rz_if_le 105 104 dX9_readOne_101 rfl rfl ?_ ?_
  · refine rz_aload_n 106 0 dX9_readOne_105 rfl rfl ?_
    refine rz_callV 109 dX9_readOne_106 rfl (tX9_next v (d + 2) l0) rfl rfl rfl rfl ml_X9_231 im_X9_next se_X9_X9_next in_X9 co_X9_next rfl rfl (fun _ => ?_)
    refine rz_iload_n 110 2 dX9_readOne_109 rfl rfl ?_
    refine rz_if_eq 131 113 dX9_readOne_110 rfl rfl ?_ ?_
    · refine rz_iload_n 132 3 dX9_readOne_131 rfl rfl ?_
      refine rz_if_eq 155 135 dX9_readOne_132 rfl rfl ?_ ?_
      · refine rz_aload_n 156 0 dX9_readOne_155 rfl rfl ?_
        refine rz_dup 157 dX9_readOne_156 rfl rfl ?_
        refine rz_gI 160 dX9_readOne_157 rfl rfl fl_X9_294 (fun x2 => ?_)
        refine rz_iconst 161 dX9_readOne_160 rfl ci_1 ?_
        refine rz_iadd 162 dX9_readOne_161 rfl ?_
        refine rz_pI 165 dX9_readOne_162 rfl rfl rfl rfl fl_X9_294 ?_
        refine rz_iconst 166 dX9_readOne_165 rfl ci_0 ?_
        refine rz_istore (lv' := [(5, vI (0 : Int32)), (0, vR l0), (1, vI l1), (2, vI l2), (3, vI l3), (4, vI l4)]) 168 dX9_readOne_166 rfl rfl rfl ?_
        refine rz_iconst 169 dX9_readOne_168 rfl ci_0 ?_
        refine rz_istore (lv' := [(6, vI (0 : Int32)), (5, vI (0 : Int32)), (0, vR l0), (1, vI l1), (2, vI l2), (3, vI l3), (4, vI l4)]) 171 dX9_readOne_169 rfl rfl rfl ?_
        refine rz_iload 173 6 dX9_readOne_171 rfl rfl ?_
        refine rz_iconst 174 dX9_readOne_173 rfl ci_1 ?_
        refine rz_icmp_le 241 177 dX9_readOne_174 rfl rfl ?_ ?_
        · exact rz_sub [2, 6, 1, 0] rfl (rX9_readOne_241 v d kX9_readOne khX9_readOne kX9_readEither khX9_readEither l0 l4 (0 : Int32) (0 : Int32))
        · refine rz_aload_n 178 2 dX9_readOne_177 rfl rfl ?_
          refine rz_gI 181 dX9_readOne_178 rfl rfl fl_X9_113 (fun x3 => ?_)
          refine rz_iconst 182 dX9_readOne_181 rfl ci_3 ?_
          refine rz_icmp_ne 192 185 dX9_readOne_182 rfl rfl ?_ ?_
          · refine rz_iconst 193 dX9_readOne_192 rfl ci_0 ?_
            exact rz_sub [2, 6] rfl (rX9_readOne_193 v d kX9_readOne khX9_readOne kX9_readEither khX9_readEither l0 l4 (0 : Int32))
          · refine rz_aload_n 186 2 dX9_readOne_185 rfl rfl ?_
            refine rz_gI 189 dX9_readOne_186 rfl rfl fl_X9_132 (fun x4 => ?_)
            refine rz_goto 193 dX9_readOne_189 rfl ?_
            exact rz_sub [2, 6] rfl (rX9_readOne_193 v d kX9_readOne khX9_readOne kX9_readEither khX9_readEither l0 l4 x4)
      · refine rz_aload_n 136 0 dX9_readOne_135 rfl rfl ?_
        refine rz_iload_n 137 1 dX9_readOne_136 rfl rfl ?_
        refine rz_iconst 138 dX9_readOne_137 rfl ci_1 ?_
        refine rz_iadd 139 dX9_readOne_138 rfl ?_
        refine rz_callV 142 dX9_readOne_139 rfl (khX9_readEither l0 (l1 + (1 : Int32))) rfl rfl rfl rfl ml_X9_304 im_X9_readEither se_X9_X9_readEither in_X9 co_X9_readEither rfl rfl (fun _ => ?_)
        refine rz_aload_n 143 0 dX9_readOne_142 rfl rfl ?_
        refine rz_aload_n 144 0 dX9_readOne_143 rfl rfl ?_
        refine rz_bipush 146 dX9_readOne_144 rfl cb_41 ?_
        refine rz_callV 149 dX9_readOne_146 rfl (tX9_isSign v (d + 3) l0 (41 : Int32)) rfl rfl rfl rfl ml_X9_285 im_X9_isSign se_X9_X9_isSign in_X9 co_X9_isSign rfl rfl (fun x5 => ?_)
        refine rz_callV 152 dX9_readOne_149 rfl (tX9_must v (d + 1) l0 x5) rfl rfl rfl rfl ml_X9_252 im_X9_must se_X9_X9_must in_X9 co_X9_must rfl rfl (fun _ => ?_)
        refine rz_goto 251 dX9_readOne_152 rfl ?_
        exact rz_return rfl rfl dX9_readOne_251
    · refine rz_aload_n 114 0 dX9_readOne_113 rfl rfl ?_
      refine rz_iload_n 115 1 dX9_readOne_114 rfl rfl ?_
      refine rz_iconst 116 dX9_readOne_115 rfl ci_1 ?_
      refine rz_iadd 117 dX9_readOne_116 rfl ?_
      refine rz_callV 120 dX9_readOne_117 rfl (khX9_readOne l0 (l1 + (1 : Int32))) rfl rfl rfl rfl ml_X9_297 im_X9_readOne se_X9_X9_readOne in_X9 co_X9_readOne rfl rfl (fun _ => ?_)
      refine rz_aload_n 121 0 dX9_readOne_120 rfl rfl ?_
      refine rz_bipush 123 dX9_readOne_121 rfl cb_8 ?_
      refine rz_iconst 124 dX9_readOne_123 rfl ci_0 ?_
      refine rz_iconst 125 dX9_readOne_124 rfl ci_0 ?_
      refine rz_callV 128 dX9_readOne_125 rfl (tX9_ruleStep v (d + 3) l0 (8 : Int32) (0 : Int32) (0 : Int32)) rfl rfl rfl rfl ml_X9_300 im_X9_ruleStep se_X9_X9_ruleStep in_X9 co_X9_ruleStep rfl rfl (fun _ => ?_)
      refine rz_goto 251 dX9_readOne_128 rfl ?_
      exact rz_return rfl rfl dX9_readOne_251
  · exact rz_return rfl rfl dX9_readOne_104
def fX9_readOne_74 (kX9_readOne : Nat → Int32 → mM Unit) (kX9_readEither : Nat → Int32 → mM Unit) (l0 : Nat) (l1 : Int32) (l2 : Int32) (l3 : Int32) (l4 : Int32) : mM Unit := bGI 9 l0 12 (fun x1 => bIf (x1 = 0) (bIf (l1 = (6 : Int32)) (bGI 9 l0 15 (fun x2 => bCallV 9 l0 (fX9_fail l0 (7 : Int32) x2) (fun _ => fX9_readOne_97 kX9_readOne kX9_readEither l0 l1 l2 l3 l4))) (fX9_readOne_97 kX9_readOne kX9_readEither l0 l1 l2 l3 l4)) (fX9_readOne_97 kX9_readOne kX9_readEither l0 l1 l2 l3 l4))
set_option maxRecDepth 20000 in
theorem rX9_readOne_74 (v : mE) (d : Nat) (kX9_readOne : Nat → Int32 → mM Unit) (khX9_readOne : ∀ (z0 : Nat) (z1 : Int32), Mt v yX9_readOne cX9_readOne 7 none emU (d + 3) [vR z0, vI z1] (kX9_readOne z0 z1)) (kX9_readEither : Nat → Int32 → mM Unit) (khX9_readEither : ∀ (z0 : Nat) (z1 : Int32), Mt v yX9_readEither cX9_readEither 2 none emU (d + 3) [vR z0, vI z1] (kX9_readEither z0 z1)) (l0 : Nat) (l1 : Int32) (l2 : Int32) (l3 : Int32) (l4 : Int32) : Rz v RX9 cX9_readOne 7 none false emU (d + 4) 74 [(0, vR l0), (1, vI l1), (2, vI l2), (3, vI l3), (4, vI l4)] [] (fX9_readOne_74 kX9_readOne kX9_readEither l0 l1 l2 l3 l4) := by
  unfold fX9_readOne_74
  refine rz_aload_n 75 0 dX9_readOne_74 rfl rfl ?_
  refine rz_gI 78 dX9_readOne_75 rfl rfl fl_X9_221 (fun x1 => ?_)
  refine rz_if_ne 97 81 dX9_readOne_78 rfl rfl ?_ ?_
  · exact rz_sub [0, 1, 2, 3, 4] rfl (rX9_readOne_97 v d kX9_readOne khX9_readOne kX9_readEither khX9_readEither l0 l1 l2 l3 l4)
  · refine rz_iload_n 82 1 dX9_readOne_81 rfl rfl ?_
    refine rz_bipush 84 dX9_readOne_82 rfl cb_6 ?_
    refine rz_icmp_ne 97 87 dX9_readOne_84 rfl rfl ?_ ?_
    · exact rz_sub [0, 1, 2, 3, 4] rfl (rX9_readOne_97 v d kX9_readOne khX9_readOne kX9_readEither khX9_readEither l0 l1 l2 l3 l4)
    · refine rz_aload_n 88 0 dX9_readOne_87 rfl rfl ?_
      refine rz_bipush 90 dX9_readOne_88 rfl cb_7 ?_
      refine rz_aload_n 91 0 dX9_readOne_90 rfl rfl ?_
      refine rz_gI 94 dX9_readOne_91 rfl rfl fl_X9_107 (fun x2 => ?_)
      refine rz_callV 97 dX9_readOne_94 rfl (tX9_fail v (d + 3) l0 (7 : Int32) x2) rfl rfl rfl rfl ml_X9_227 im_X9_fail se_X9_X9_fail in_X9 co_X9_fail rfl rfl (fun _ => ?_)
      exact rz_sub [0, 1, 2, 3, 4] rfl (rX9_readOne_97 v d kX9_readOne khX9_readOne kX9_readEither khX9_readEither l0 l1 l2 l3 l4)
def fX9_readOne_43 (kX9_readOne : Nat → Int32 → mM Unit) (kX9_readEither : Nat → Int32 → mM Unit) (l0 : Nat) (l1 : Int32) (l2 : Int32) (l3 : Int32) (l4 : Int32) : mM Unit := bGI 9 l0 12 (fun x1 => bIf (x1 = 0) (bIf (l4 < 0) (fX9_readOne_74 kX9_readOne kX9_readEither l0 l1 l2 l3 l4) (bGI 9 l0 20 (fun x2 => bIf (x2 = (24 : Int32)) (bGI 9 l0 15 (fun x3 => bCallV 9 l0 (fX9_fail l0 (6 : Int32) x3) (fun _ => fX9_readOne_74 kX9_readOne kX9_readEither l0 l1 l2 l3 l4))) (fX9_readOne_74 kX9_readOne kX9_readEither l0 l1 l2 l3 l4)))) (fX9_readOne_74 kX9_readOne kX9_readEither l0 l1 l2 l3 l4))
set_option maxRecDepth 20000 in
theorem rX9_readOne_43 (v : mE) (d : Nat) (kX9_readOne : Nat → Int32 → mM Unit) (khX9_readOne : ∀ (z0 : Nat) (z1 : Int32), Mt v yX9_readOne cX9_readOne 7 none emU (d + 3) [vR z0, vI z1] (kX9_readOne z0 z1)) (kX9_readEither : Nat → Int32 → mM Unit) (khX9_readEither : ∀ (z0 : Nat) (z1 : Int32), Mt v yX9_readEither cX9_readEither 2 none emU (d + 3) [vR z0, vI z1] (kX9_readEither z0 z1)) (l0 : Nat) (l1 : Int32) (l2 : Int32) (l3 : Int32) (l4 : Int32) : Rz v RX9 cX9_readOne 7 none false emU (d + 4) 43 [(0, vR l0), (1, vI l1), (2, vI l2), (3, vI l3), (4, vI l4)] [] (fX9_readOne_43 kX9_readOne kX9_readEither l0 l1 l2 l3 l4) := by
  unfold fX9_readOne_43
  refine rz_aload_n 44 0 dX9_readOne_43 rfl rfl ?_
  refine rz_gI 47 dX9_readOne_44 rfl rfl fl_X9_221 (fun x1 => ?_)
  refine rz_if_ne 74 50 dX9_readOne_47 rfl rfl ?_ ?_
  · exact rz_sub [0, 1, 2, 3, 4] rfl (rX9_readOne_74 v d kX9_readOne khX9_readOne kX9_readEither khX9_readEither l0 l1 l2 l3 l4)
  · refine rz_iload 52 4 dX9_readOne_50 rfl rfl ?_
    refine rz_if_lt 74 55 dX9_readOne_52 rfl rfl ?_ ?_
    · exact rz_sub [0, 1, 2, 3, 4] rfl (rX9_readOne_74 v d kX9_readOne khX9_readOne kX9_readEither khX9_readEither l0 l1 l2 l3 l4)
    · refine rz_aload_n 56 0 dX9_readOne_55 rfl rfl ?_
      refine rz_gI 59 dX9_readOne_56 rfl rfl fl_X9_294 (fun x2 => ?_)
      refine rz_bipush 61 dX9_readOne_59 rfl cb_24 ?_
      refine rz_icmp_ne 74 64 dX9_readOne_61 rfl rfl ?_ ?_
      · exact rz_sub [0, 1, 2, 3, 4] rfl (rX9_readOne_74 v d kX9_readOne khX9_readOne kX9_readEither khX9_readEither l0 l1 l2 l3 l4)
      · refine rz_aload_n 65 0 dX9_readOne_64 rfl rfl ?_
        refine rz_bipush 67 dX9_readOne_65 rfl cb_6 ?_
        refine rz_aload_n 68 0 dX9_readOne_67 rfl rfl ?_
        refine rz_gI 71 dX9_readOne_68 rfl rfl fl_X9_107 (fun x3 => ?_)
        refine rz_callV 74 dX9_readOne_71 rfl (tX9_fail v (d + 3) l0 (6 : Int32) x3) rfl rfl rfl rfl ml_X9_227 im_X9_fail se_X9_X9_fail in_X9 co_X9_fail rfl rfl (fun _ => ?_)
        exact rz_sub [0, 1, 2, 3, 4] rfl (rX9_readOne_74 v d kX9_readOne khX9_readOne kX9_readEither khX9_readEither l0 l1 l2 l3 l4)
def fX9_readOne (kX9_readOne : Nat → Int32 → mM Unit) (kX9_readEither : Nat → Int32 → mM Unit) (l0 : Nat) (l1 : Int32) : mM Unit := bGI 9 l0 12 (fun x1 => bIf (x1 ≤ 0) (bCallV 9 l0 (fX9_isNot l0) (fun x2 => bCallV 9 l0 (fX9_isSign l0 (40 : Int32)) (fun x3 => bCallV 9 l0 (fX9_caseWord l0) (fun x4 => bIf (x2 = 0) (bIf (x3 = 0) (bIf (0 ≤ x4) (fX9_readOne_43 kX9_readOne kX9_readEither l0 l1 x2 x3 x4) (bCallV 9 l0 (fX9_wrong l0) (fun _ => fX9_readOne_43 kX9_readOne kX9_readEither l0 l1 x2 x3 x4))) (fX9_readOne_43 kX9_readOne kX9_readEither l0 l1 x2 x3 x4)) (fX9_readOne_43 kX9_readOne kX9_readEither l0 l1 x2 x3 x4))))) (bRet ()))
set_option maxRecDepth 20000 in
theorem rX9_readOne (v : mE) (d : Nat) (kX9_readOne : Nat → Int32 → mM Unit) (khX9_readOne : ∀ (z0 : Nat) (z1 : Int32), Mt v yX9_readOne cX9_readOne 7 none emU (d + 3) [vR z0, vI z1] (kX9_readOne z0 z1)) (kX9_readEither : Nat → Int32 → mM Unit) (khX9_readEither : ∀ (z0 : Nat) (z1 : Int32), Mt v yX9_readEither cX9_readEither 2 none emU (d + 3) [vR z0, vI z1] (kX9_readEither z0 z1)) (l0 : Nat) (l1 : Int32) : Rz v RX9 cX9_readOne 7 none false emU (d + 4) 0 [(0, vR l0), (1, vI l1)] [] (fX9_readOne kX9_readOne kX9_readEither l0 l1) := by
  unfold fX9_readOne
  refine rz_aload_n 1 0 dX9_readOne_0 rfl rfl ?_
  refine rz_gI 4 dX9_readOne_1 rfl rfl fl_X9_221 (fun x1 => ?_)
  refine rz_if_le 8 7 dX9_readOne_4 rfl rfl ?_ ?_
  · refine rz_aload_n 9 0 dX9_readOne_8 rfl rfl ?_
    refine rz_callV 12 dX9_readOne_9 rfl (tX9_isNot v (d + 2) l0) rfl rfl rfl rfl ml_X9_208 im_X9_isNot se_X9_X9_isNot in_X9 co_X9_isNot rfl rfl (fun x2 => ?_)
    refine rz_istore_n (lv' := [(2, vI x2), (0, vR l0), (1, vI l1)]) 13 dX9_readOne_12 rfl rfl rfl ?_
    refine rz_aload_n 14 1 dX9_readOne_13 rfl rfl ?_
    refine rz_bipush 16 dX9_readOne_14 rfl cb_40 ?_
    refine rz_callV 19 dX9_readOne_16 rfl (tX9_isSign v (d + 3) l0 (40 : Int32)) rfl rfl rfl rfl ml_X9_285 im_X9_isSign se_X9_X9_isSign in_X9 co_X9_isSign rfl rfl (fun x3 => ?_)
    refine rz_istore_n (lv' := [(3, vI x3), (2, vI x2), (0, vR l0), (1, vI l1)]) 20 dX9_readOne_19 rfl rfl rfl ?_
    refine rz_aload_n 21 2 dX9_readOne_20 rfl rfl ?_
    refine rz_callV 24 dX9_readOne_21 rfl (tX9_caseWord v (d + 1) l0) rfl rfl rfl rfl ml_X9_211 im_X9_caseWord se_X9_X9_caseWord in_X9 co_X9_caseWord rfl rfl (fun x4 => ?_)
    refine rz_istore (lv' := [(4, vI x4), (3, vI x3), (2, vI x2), (0, vR l0), (1, vI l1)]) 26 dX9_readOne_24 rfl rfl rfl ?_
    refine rz_iload_n 27 2 dX9_readOne_26 rfl rfl ?_
    refine rz_if_ne 43 30 dX9_readOne_27 rfl rfl ?_ ?_
    · exact rz_sub [3, 4, 2, 1, 0] rfl (rX9_readOne_43 v d kX9_readOne khX9_readOne kX9_readEither khX9_readEither l0 l1 x2 x3 x4)
    · refine rz_iload_n 31 1 dX9_readOne_30 rfl rfl ?_
      refine rz_if_ne 43 34 dX9_readOne_31 rfl rfl ?_ ?_
      · exact rz_sub [3, 4, 2, 1, 0] rfl (rX9_readOne_43 v d kX9_readOne khX9_readOne kX9_readEither khX9_readEither l0 l1 x2 x3 x4)
      · refine rz_iload 36 0 dX9_readOne_34 rfl rfl ?_
        refine rz_if_ge 43 39 dX9_readOne_36 rfl rfl ?_ ?_
        · exact rz_sub [3, 4, 2, 1, 0] rfl (rX9_readOne_43 v d kX9_readOne khX9_readOne kX9_readEither khX9_readEither l0 l1 x2 x3 x4)
        · refine rz_aload_n 40 3 dX9_readOne_39 rfl rfl ?_
          refine rz_callV 43 dX9_readOne_40 rfl (tX9_wrong v (d + 2) l0) rfl rfl rfl rfl ml_X9_234 im_X9_wrong se_X9_X9_wrong in_X9 co_X9_wrong rfl rfl (fun _ => ?_)
          exact rz_sub [3, 4, 2, 1, 0] rfl (rX9_readOne_43 v d kX9_readOne khX9_readOne kX9_readEither khX9_readEither l0 l1 x2 x3 x4)
  · exact rz_return rfl rfl dX9_readOne_7
def gX9 : Nat → (Nat → Int32 → mM Unit) × (Nat → Int32 → mM Unit) × (Nat → Int32 → mM Unit)
  | 0 => ((fun _ _ => fun _ => none), (fun _ _ => fun _ => none), (fun _ _ => fun _ => none))
  | n + 1 => (fX9_readOne (gX9 n).1 (gX9 n).2.2, fX9_readBoth (gX9 n).1, fX9_readEither (gX9 n).2.1)
theorem gX9_ok (v : mE) (d : Nat) : ∀ n : Nat, (∀ (z0 : Nat) (z1 : Int32), Mt v yX9_readOne cX9_readOne 7 none emU (d + n + 3) [vR z0, vI z1] ((gX9 n).1 z0 z1)) ∧ (∀ (z0 : Nat) (z1 : Int32), Mt v yX9_readBoth cX9_readBoth 2 none emU (d + n + 3) [vR z0, vI z1] ((gX9 n).2.1 z0 z1)) ∧ (∀ (z0 : Nat) (z1 : Int32), Mt v yX9_readEither cX9_readEither 2 none emU (d + n + 3) [vR z0, vI z1] ((gX9 n).2.2 z0 z1))
  | 0 => ⟨(fun _ _ => (fun _ _ _ hm => by cases hm)), (fun _ _ => (fun _ _ _ hm => by cases hm)), (fun _ _ => (fun _ _ _ hm => by cases hm))⟩
  | n + 1 => by
    obtain ⟨khX9_readOne, khX9_readBoth, khX9_readEither⟩ := gX9_ok v d n
    exact ⟨(fun z0 z1 => mt_of rfl rfl (fun h => by cases h) rfl rfl (rX9_readOne v (d + n) _ khX9_readOne _ khX9_readEither z0 z1)), (fun z0 z1 => mt_of rfl rfl (fun h => by cases h) rfl rfl (rX9_readBoth v (d + n) _ khX9_readOne z0 z1)), (fun z0 z1 => mt_of rfl rfl (fun h => by cases h) rfl rfl (rX9_readEither v (d + n) _ khX9_readBoth z0 z1))⟩
def wX9_readOne (l0 : Nat) (l1 : Int32) : mM Unit := (gX9 24).1 l0 l1
theorem uX9_readOne (v : mE) (d : Nat) (l0 : Nat) (l1 : Int32) : Mt v yX9_readOne cX9_readOne 7 none emU (d + 28) [vR l0, vI l1] (wX9_readOne l0 l1) := ((gX9_ok v (d + 1) 24).1 l0 l1)
def wX9_readBoth (l0 : Nat) (l1 : Int32) : mM Unit := (gX9 24).2.1 l0 l1
theorem uX9_readBoth (v : mE) (d : Nat) (l0 : Nat) (l1 : Int32) : Mt v yX9_readBoth cX9_readBoth 2 none emU (d + 28) [vR l0, vI l1] (wX9_readBoth l0 l1) := ((gX9_ok v (d + 1) 24).2.1 l0 l1)
def wX9_readEither (l0 : Nat) (l1 : Int32) : mM Unit := (gX9 24).2.2 l0 l1
theorem uX9_readEither (v : mE) (d : Nat) (l0 : Nat) (l1 : Int32) : Mt v yX9_readEither cX9_readEither 2 none emU (d + 28) [vR l0, vI l1] (wX9_readEither l0 l1) := ((gX9_ok v (d + 1) 24).2.2 l0 l1)
theorem dX9_readRule_0 : decode cX9_readRule 0 = .ok (.aload_n 0, 1) := by decide +kernel
theorem dX9_readRule_1 : decode cX9_readRule 1 = .ok (.invokevirtual 196, 3) := by decide +kernel
theorem dX9_readRule_4 : decode cX9_readRule 4 = .ok (.ifCond .ne 7, 3) := by decide +kernel
theorem dX9_readRule_7 : decode cX9_readRule 7 = .ok (.aload_n 0, 1) := by decide +kernel
theorem dX9_readRule_8 : decode cX9_readRule 8 = .ok (.invokevirtual 234, 3) := by decide +kernel
theorem dX9_readRule_11 : decode cX9_readRule 11 = .ok (.aload_n 0, 1) := by decide +kernel
theorem dX9_readRule_12 : decode cX9_readRule 12 = .ok (.getfield 221, 3) := by decide +kernel
theorem dX9_readRule_15 : decode cX9_readRule 15 = .ok (.ifCond .ne 22, 3) := by decide +kernel
theorem dX9_readRule_18 : decode cX9_readRule 18 = .ok (.aload_n 0, 1) := by decide +kernel
theorem dX9_readRule_19 : decode cX9_readRule 19 = .ok (.getfield 310, 3) := by decide +kernel
theorem dX9_readRule_22 : decode cX9_readRule 22 = .ok (.bipush 12, 2) := by decide +kernel
theorem dX9_readRule_24 : decode cX9_readRule 24 = .ok (.if_icmp .ne 13, 3) := by decide +kernel
theorem dX9_readRule_27 : decode cX9_readRule 27 = .ok (.aload_n 0, 1) := by decide +kernel
theorem dX9_readRule_28 : decode cX9_readRule 28 = .ok (.bipush 6, 2) := by decide +kernel
theorem dX9_readRule_30 : decode cX9_readRule 30 = .ok (.aload_n 0, 1) := by decide +kernel
theorem dX9_readRule_31 : decode cX9_readRule 31 = .ok (.getfield 107, 3) := by decide +kernel
theorem dX9_readRule_34 : decode cX9_readRule 34 = .ok (.invokevirtual 227, 3) := by decide +kernel
theorem dX9_readRule_37 : decode cX9_readRule 37 = .ok (.aload_n 0, 1) := by decide +kernel
theorem dX9_readRule_38 : decode cX9_readRule 38 = .ok (.getfield 221, 3) := by decide +kernel
theorem dX9_readRule_41 : decode cX9_readRule 41 = .ok (.ifCond .le 4, 3) := by decide +kernel
theorem dX9_readRule_44 : decode cX9_readRule 44 = .ok (.return_, 1) := by decide +kernel
theorem dX9_readRule_45 : decode cX9_readRule 45 = .ok (.aload_n 0, 1) := by decide +kernel
theorem dX9_readRule_46 : decode cX9_readRule 46 = .ok (.invokevirtual 231, 3) := by decide +kernel
theorem dX9_readRule_49 : decode cX9_readRule 49 = .ok (.aload_n 0, 1) := by decide +kernel
theorem dX9_readRule_50 : decode cX9_readRule 50 = .ok (.getfield 35, 3) := by decide +kernel
theorem dX9_readRule_53 : decode cX9_readRule 53 = .ok (.sipush 3730, 3) := by decide +kernel
theorem dX9_readRule_56 : decode cX9_readRule 56 = .ok (.aload_n 0, 1) := by decide +kernel
theorem dX9_readRule_57 : decode cX9_readRule 57 = .ok (.getfield 310, 3) := by decide +kernel
theorem dX9_readRule_60 : decode cX9_readRule 60 = .ok (.iadd, 1) := by decide +kernel
theorem dX9_readRule_61 : decode cX9_readRule 61 = .ok (.aload_n 0, 1) := by decide +kernel
theorem dX9_readRule_62 : decode cX9_readRule 62 = .ok (.getfield 291, 3) := by decide +kernel
theorem dX9_readRule_65 : decode cX9_readRule 65 = .ok (.iastore, 1) := by decide +kernel
theorem dX9_readRule_66 : decode cX9_readRule 66 = .ok (.aload_n 0, 1) := by decide +kernel
theorem dX9_readRule_67 : decode cX9_readRule 67 = .ok (.iconst 0, 1) := by decide +kernel
theorem dX9_readRule_68 : decode cX9_readRule 68 = .ok (.invokevirtual 304, 3) := by decide +kernel
theorem dX9_readRule_71 : decode cX9_readRule 71 = .ok (.aload_n 0, 1) := by decide +kernel
theorem dX9_readRule_72 : decode cX9_readRule 72 = .ok (.aload_n 0, 1) := by decide +kernel
theorem dX9_readRule_73 : decode cX9_readRule 73 = .ok (.invokevirtual 199, 3) := by decide +kernel
theorem dX9_readRule_76 : decode cX9_readRule 76 = .ok (.invokevirtual 252, 3) := by decide +kernel
theorem dX9_readRule_79 : decode cX9_readRule 79 = .ok (.aload_n 0, 1) := by decide +kernel
theorem dX9_readRule_80 : decode cX9_readRule 80 = .ok (.getfield 221, 3) := by decide +kernel
theorem dX9_readRule_83 : decode cX9_readRule 83 = .ok (.ifCond .ne 10, 3) := by decide +kernel
theorem dX9_readRule_86 : decode cX9_readRule 86 = .ok (.aload_n 0, 1) := by decide +kernel
theorem dX9_readRule_87 : decode cX9_readRule 87 = .ok (.invokevirtual 215, 3) := by decide +kernel
theorem dX9_readRule_90 : decode cX9_readRule 90 = .ok (.goto 4, 3) := by decide +kernel
theorem dX9_readRule_93 : decode cX9_readRule 93 = .ok (.iconst 0, 1) := by decide +kernel
theorem dX9_readRule_94 : decode cX9_readRule 94 = .ok (.istore_n 1, 1) := by decide +kernel
theorem dX9_readRule_95 : decode cX9_readRule 95 = .ok (.aload_n 0, 1) := by decide +kernel
theorem dX9_readRule_96 : decode cX9_readRule 96 = .ok (.iload_n 1, 1) := by decide +kernel
theorem dX9_readRule_97 : decode cX9_readRule 97 = .ok (.ifCond .lt 7, 3) := by decide +kernel
theorem dX9_readRule_100 : decode cX9_readRule 100 = .ok (.iconst 1, 1) := by decide +kernel
theorem dX9_readRule_101 : decode cX9_readRule 101 = .ok (.goto 4, 3) := by decide +kernel
theorem dX9_readRule_104 : decode cX9_readRule 104 = .ok (.iconst 0, 1) := by decide +kernel
theorem dX9_readRule_105 : decode cX9_readRule 105 = .ok (.invokevirtual 252, 3) := by decide +kernel
theorem dX9_readRule_108 : decode cX9_readRule 108 = .ok (.aload_n 0, 1) := by decide +kernel
theorem dX9_readRule_109 : decode cX9_readRule 109 = .ok (.aload_n 0, 1) := by decide +kernel
theorem dX9_readRule_110 : decode cX9_readRule 110 = .ok (.bipush 59, 2) := by decide +kernel
theorem dX9_readRule_112 : decode cX9_readRule 112 = .ok (.invokevirtual 285, 3) := by decide +kernel
theorem dX9_readRule_115 : decode cX9_readRule 115 = .ok (.invokevirtual 252, 3) := by decide +kernel
theorem dX9_readRule_118 : decode cX9_readRule 118 = .ok (.aload_n 0, 1) := by decide +kernel
theorem dX9_readRule_119 : decode cX9_readRule 119 = .ok (.getfield 221, 3) := by decide +kernel
theorem dX9_readRule_122 : decode cX9_readRule 122 = .ok (.ifCond .le 4, 3) := by decide +kernel
theorem dX9_readRule_125 : decode cX9_readRule 125 = .ok (.return_, 1) := by decide +kernel
theorem dX9_readRule_126 : decode cX9_readRule 126 = .ok (.aload_n 0, 1) := by decide +kernel
theorem dX9_readRule_127 : decode cX9_readRule 127 = .ok (.getfield 35, 3) := by decide +kernel
theorem dX9_readRule_130 : decode cX9_readRule 130 = .ok (.sipush 3742, 3) := by decide +kernel
theorem dX9_readRule_133 : decode cX9_readRule 133 = .ok (.aload_n 0, 1) := by decide +kernel
theorem dX9_readRule_134 : decode cX9_readRule 134 = .ok (.getfield 310, 3) := by decide +kernel
theorem dX9_readRule_137 : decode cX9_readRule 137 = .ok (.iadd, 1) := by decide +kernel
theorem dX9_readRule_138 : decode cX9_readRule 138 = .ok (.aload_n 0, 1) := by decide +kernel
theorem dX9_readRule_139 : decode cX9_readRule 139 = .ok (.getfield 291, 3) := by decide +kernel
theorem dX9_readRule_142 : decode cX9_readRule 142 = .ok (.iastore, 1) := by decide +kernel
theorem dX9_readRule_143 : decode cX9_readRule 143 = .ok (.aload_n 0, 1) := by decide +kernel
theorem dX9_readRule_144 : decode cX9_readRule 144 = .ok (.getfield 35, 3) := by decide +kernel
theorem dX9_readRule_147 : decode cX9_readRule 147 = .ok (.sipush 3754, 3) := by decide +kernel
theorem dX9_readRule_150 : decode cX9_readRule 150 = .ok (.aload_n 0, 1) := by decide +kernel
theorem dX9_readRule_151 : decode cX9_readRule 151 = .ok (.getfield 310, 3) := by decide +kernel
theorem dX9_readRule_154 : decode cX9_readRule 154 = .ok (.iadd, 1) := by decide +kernel
theorem dX9_readRule_155 : decode cX9_readRule 155 = .ok (.iload_n 1, 1) := by decide +kernel
theorem dX9_readRule_156 : decode cX9_readRule 156 = .ok (.iastore, 1) := by decide +kernel
theorem dX9_readRule_157 : decode cX9_readRule 157 = .ok (.aload_n 0, 1) := by decide +kernel
theorem dX9_readRule_158 : decode cX9_readRule 158 = .ok (.dup, 1) := by decide +kernel
theorem dX9_readRule_159 : decode cX9_readRule 159 = .ok (.getfield 310, 3) := by decide +kernel
theorem dX9_readRule_162 : decode cX9_readRule 162 = .ok (.iconst 1, 1) := by decide +kernel
theorem dX9_readRule_163 : decode cX9_readRule 163 = .ok (.iadd, 1) := by decide +kernel
theorem dX9_readRule_164 : decode cX9_readRule 164 = .ok (.putfield 310, 3) := by decide +kernel
theorem dX9_readRule_167 : decode cX9_readRule 167 = .ok (.return_, 1) := by decide +kernel
def fX9_readRule_105 (l0 : Nat) (l1 : Int32) (s0 : Int32) (s1 : Nat) : mM Unit := bCallV 9 s1 (fX9_must s1 s0) (fun _ => bCallV 9 l0 (fX9_isSign l0 (59 : Int32)) (fun x1 => bCallV 9 l0 (fX9_must l0 x1) (fun _ => bGI 9 l0 12 (fun x2 => bIf (x2 ≤ 0) (bGR 9 l0 24 (fun x3 => bGI 9 l0 31 (fun x4 => bGI 9 l0 19 (fun x5 => bSI x3 ((3742 : Int32) + x4) x5 (bGR 9 l0 24 (fun x6 => bGI 9 l0 31 (fun x7 => bSI x6 ((3754 : Int32) + x7) l1 (bGI 9 l0 31 (fun x8 => bPI 9 l0 31 (x8 + (1 : Int32)) (bRet ())))))))))) (bRet ())))))
set_option maxRecDepth 20000 in
theorem rX9_readRule_105 (v : mE) (d : Nat) (l0 : Nat) (l1 : Int32) (s0 : Int32) (s1 : Nat) : Rz v RX9 cX9_readRule 2 none false emU (d + 29) 105 [(0, vR l0), (1, vI l1)] [vI s0, vR s1] (fX9_readRule_105 l0 l1 s0 s1) := by
  unfold fX9_readRule_105
  refine rz_callV 108 dX9_readRule_105 rfl (tX9_must v (d + 26) s1 s0) rfl rfl rfl rfl ml_X9_252 im_X9_must se_X9_X9_must in_X9 co_X9_must rfl rfl (fun _ => ?_)
  refine rz_aload_n 109 0 dX9_readRule_108 rfl rfl ?_
  refine rz_aload_n 110 0 dX9_readRule_109 rfl rfl ?_
  refine rz_bipush 112 dX9_readRule_110 rfl cb_59 ?_
  refine rz_callV 115 dX9_readRule_112 rfl (tX9_isSign v (d + 28) l0 (59 : Int32)) rfl rfl rfl rfl ml_X9_285 im_X9_isSign se_X9_X9_isSign in_X9 co_X9_isSign rfl rfl (fun x1 => ?_)
  refine rz_callV 118 dX9_readRule_115 rfl (tX9_must v (d + 26) l0 x1) rfl rfl rfl rfl ml_X9_252 im_X9_must se_X9_X9_must in_X9 co_X9_must rfl rfl (fun _ => ?_)
  refine rz_aload_n 119 0 dX9_readRule_118 rfl rfl ?_
  refine rz_gI 122 dX9_readRule_119 rfl rfl fl_X9_221 (fun x2 => ?_)
  refine rz_if_le 126 125 dX9_readRule_122 rfl rfl ?_ ?_
  · refine rz_aload_n 127 0 dX9_readRule_126 rfl rfl ?_
    refine rz_gR 130 dX9_readRule_127 rfl rfl fl_X9_35 (fun x3 => ?_)
    refine rz_sipush 133 dX9_readRule_130 rfl cs_3742 ?_
    refine rz_aload_n 134 0 dX9_readRule_133 rfl rfl ?_
    refine rz_gI 137 dX9_readRule_134 rfl rfl fl_X9_310 (fun x4 => ?_)
    refine rz_iadd 138 dX9_readRule_137 rfl ?_
    refine rz_aload_n 139 0 dX9_readRule_138 rfl rfl ?_
    refine rz_gI 142 dX9_readRule_139 rfl rfl fl_X9_291 (fun x5 => ?_)
    refine rz_iast 143 dX9_readRule_142 rfl ?_
    refine rz_aload_n 144 0 dX9_readRule_143 rfl rfl ?_
    refine rz_gR 147 dX9_readRule_144 rfl rfl fl_X9_35 (fun x6 => ?_)
    refine rz_sipush 150 dX9_readRule_147 rfl cs_3754 ?_
    refine rz_aload_n 151 0 dX9_readRule_150 rfl rfl ?_
    refine rz_gI 154 dX9_readRule_151 rfl rfl fl_X9_310 (fun x7 => ?_)
    refine rz_iadd 155 dX9_readRule_154 rfl ?_
    refine rz_iload_n 156 1 dX9_readRule_155 rfl rfl ?_
    refine rz_iast 157 dX9_readRule_156 rfl ?_
    refine rz_aload_n 158 0 dX9_readRule_157 rfl rfl ?_
    refine rz_dup 159 dX9_readRule_158 rfl rfl ?_
    refine rz_gI 162 dX9_readRule_159 rfl rfl fl_X9_310 (fun x8 => ?_)
    refine rz_iconst 163 dX9_readRule_162 rfl ci_1 ?_
    refine rz_iadd 164 dX9_readRule_163 rfl ?_
    refine rz_pI 167 dX9_readRule_164 rfl rfl rfl rfl fl_X9_310 ?_
    exact rz_return rfl rfl dX9_readRule_167
  · exact rz_return rfl rfl dX9_readRule_125
def fX9_readRule_94 (l0 : Nat) (s0 : Int32) : mM Unit := bIf (s0 < 0) (fX9_readRule_105 l0 s0 (0 : Int32) l0) (fX9_readRule_105 l0 s0 (1 : Int32) l0)
set_option maxRecDepth 20000 in
theorem rX9_readRule_94 (v : mE) (d : Nat) (l0 : Nat) (s0 : Int32) : Rz v RX9 cX9_readRule 2 none false emU (d + 29) 94 [(0, vR l0)] [vI s0] (fX9_readRule_94 l0 s0) := by
  unfold fX9_readRule_94
  refine rz_istore_n (lv' := [(1, vI s0), (0, vR l0)]) 95 dX9_readRule_94 rfl rfl rfl ?_
  refine rz_aload_n 96 1 dX9_readRule_95 rfl rfl ?_
  refine rz_iload_n 97 0 dX9_readRule_96 rfl rfl ?_
  refine rz_if_lt 104 100 dX9_readRule_97 rfl rfl ?_ ?_
  · refine rz_iconst 105 dX9_readRule_104 rfl ci_0 ?_
    exact rz_sub [1, 0] rfl (rX9_readRule_105 v d l0 s0 (0 : Int32) l0)
  · refine rz_iconst 101 dX9_readRule_100 rfl ci_1 ?_
    refine rz_goto 105 dX9_readRule_101 rfl ?_
    exact rz_sub [1, 0] rfl (rX9_readRule_105 v d l0 s0 (1 : Int32) l0)
def fX9_readRule_37 (l0 : Nat) : mM Unit := bGI 9 l0 12 (fun x1 => bIf (x1 ≤ 0) (bCallV 9 l0 (fX9_next l0) (fun _ => bGR 9 l0 24 (fun x2 => bGI 9 l0 31 (fun x3 => bGI 9 l0 19 (fun x4 => bSI x2 ((3730 : Int32) + x3) x4 (bCallV 9 l0 (wX9_readEither l0 (0 : Int32)) (fun _ => bCallV 9 l0 (fX9_isGive l0) (fun x5 => bCallV 9 l0 (fX9_must l0 x5) (fun _ => bGI 9 l0 12 (fun x6 => bIf (x6 = 0) (bCallV 9 l0 (fX9_whomWord l0) (fun x7 => fX9_readRule_94 l0 x7)) (fX9_readRule_94 l0 (0 : Int32)))))))))))) (bRet ()))
set_option maxRecDepth 20000 in
theorem rX9_readRule_37 (v : mE) (d : Nat) (l0 : Nat) : Rz v RX9 cX9_readRule 2 none false emU (d + 29) 37 [(0, vR l0)] [] (fX9_readRule_37 l0) := by
  unfold fX9_readRule_37
  refine rz_aload_n 38 0 dX9_readRule_37 rfl rfl ?_
  refine rz_gI 41 dX9_readRule_38 rfl rfl fl_X9_221 (fun x1 => ?_)
  refine rz_if_le 45 44 dX9_readRule_41 rfl rfl ?_ ?_
  · refine rz_aload_n 46 0 dX9_readRule_45 rfl rfl ?_
    refine rz_callV 49 dX9_readRule_46 rfl (tX9_next v (d + 27) l0) rfl rfl rfl rfl ml_X9_231 im_X9_next se_X9_X9_next in_X9 co_X9_next rfl rfl (fun _ => ?_)
    refine rz_aload_n 50 0 dX9_readRule_49 rfl rfl ?_
    refine rz_gR 53 dX9_readRule_50 rfl rfl fl_X9_35 (fun x2 => ?_)
    refine rz_sipush 56 dX9_readRule_53 rfl cs_3730 ?_
    refine rz_aload_n 57 0 dX9_readRule_56 rfl rfl ?_
    refine rz_gI 60 dX9_readRule_57 rfl rfl fl_X9_310 (fun x3 => ?_)
    refine rz_iadd 61 dX9_readRule_60 rfl ?_
    refine rz_aload_n 62 0 dX9_readRule_61 rfl rfl ?_
    refine rz_gI 65 dX9_readRule_62 rfl rfl fl_X9_291 (fun x4 => ?_)
    refine rz_iast 66 dX9_readRule_65 rfl ?_
    refine rz_aload_n 67 0 dX9_readRule_66 rfl rfl ?_
    refine rz_iconst 68 dX9_readRule_67 rfl ci_0 ?_
    refine rz_callV 71 dX9_readRule_68 rfl (uX9_readEither v (d + 0) l0 (0 : Int32)) rfl rfl rfl rfl ml_X9_304 im_X9_readEither se_X9_X9_readEither in_X9 co_X9_readEither rfl rfl (fun _ => ?_)
    refine rz_aload_n 72 0 dX9_readRule_71 rfl rfl ?_
    refine rz_aload_n 73 0 dX9_readRule_72 rfl rfl ?_
    refine rz_callV 76 dX9_readRule_73 rfl (tX9_isGive v (d + 27) l0) rfl rfl rfl rfl ml_X9_199 im_X9_isGive se_X9_X9_isGive in_X9 co_X9_isGive rfl rfl (fun x5 => ?_)
    refine rz_callV 79 dX9_readRule_76 rfl (tX9_must v (d + 26) l0 x5) rfl rfl rfl rfl ml_X9_252 im_X9_must se_X9_X9_must in_X9 co_X9_must rfl rfl (fun _ => ?_)
    refine rz_aload_n 80 0 dX9_readRule_79 rfl rfl ?_
    refine rz_gI 83 dX9_readRule_80 rfl rfl fl_X9_221 (fun x6 => ?_)
    refine rz_if_ne 93 86 dX9_readRule_83 rfl rfl ?_ ?_
    · refine rz_iconst 94 dX9_readRule_93 rfl ci_0 ?_
      exact rz_sub [0] rfl (rX9_readRule_94 v d l0 (0 : Int32))
    · refine rz_aload_n 87 0 dX9_readRule_86 rfl rfl ?_
      refine rz_callV 90 dX9_readRule_87 rfl (tX9_whomWord v (d + 27) l0) rfl rfl rfl rfl ml_X9_215 im_X9_whomWord se_X9_X9_whomWord in_X9 co_X9_whomWord rfl rfl (fun x7 => ?_)
      refine rz_goto 94 dX9_readRule_90 rfl ?_
      exact rz_sub [0] rfl (rX9_readRule_94 v d l0 x7)
  · exact rz_return rfl rfl dX9_readRule_44
def fX9_readRule_11 (l0 : Nat) : mM Unit := bGI 9 l0 12 (fun x1 => bIf (x1 = 0) (bGI 9 l0 31 (fun x2 => bIf (x2 = (12 : Int32)) (bGI 9 l0 15 (fun x3 => bCallV 9 l0 (fX9_fail l0 (6 : Int32) x3) (fun _ => fX9_readRule_37 l0))) (fX9_readRule_37 l0))) (fX9_readRule_37 l0))
set_option maxRecDepth 20000 in
theorem rX9_readRule_11 (v : mE) (d : Nat) (l0 : Nat) : Rz v RX9 cX9_readRule 2 none false emU (d + 29) 11 [(0, vR l0)] [] (fX9_readRule_11 l0) := by
  unfold fX9_readRule_11
  refine rz_aload_n 12 0 dX9_readRule_11 rfl rfl ?_
  refine rz_gI 15 dX9_readRule_12 rfl rfl fl_X9_221 (fun x1 => ?_)
  refine rz_if_ne 37 18 dX9_readRule_15 rfl rfl ?_ ?_
  · exact rz_sub [0] rfl (rX9_readRule_37 v d l0)
  · refine rz_aload_n 19 0 dX9_readRule_18 rfl rfl ?_
    refine rz_gI 22 dX9_readRule_19 rfl rfl fl_X9_310 (fun x2 => ?_)
    refine rz_bipush 24 dX9_readRule_22 rfl cb_12 ?_
    refine rz_icmp_ne 37 27 dX9_readRule_24 rfl rfl ?_ ?_
    · exact rz_sub [0] rfl (rX9_readRule_37 v d l0)
    · refine rz_aload_n 28 0 dX9_readRule_27 rfl rfl ?_
      refine rz_bipush 30 dX9_readRule_28 rfl cb_6 ?_
      refine rz_aload_n 31 0 dX9_readRule_30 rfl rfl ?_
      refine rz_gI 34 dX9_readRule_31 rfl rfl fl_X9_107 (fun x3 => ?_)
      refine rz_callV 37 dX9_readRule_34 rfl (tX9_fail v (d + 28) l0 (6 : Int32) x3) rfl rfl rfl rfl ml_X9_227 im_X9_fail se_X9_X9_fail in_X9 co_X9_fail rfl rfl (fun _ => ?_)
      exact rz_sub [0] rfl (rX9_readRule_37 v d l0)
def fX9_readRule (l0 : Nat) : mM Unit := bCallV 9 l0 (fX9_isIf l0) (fun x1 => bIf (x1 = 0) (bCallV 9 l0 (fX9_wrong l0) (fun _ => fX9_readRule_11 l0)) (fX9_readRule_11 l0))
set_option maxRecDepth 20000 in
theorem rX9_readRule (v : mE) (d : Nat) (l0 : Nat) : Rz v RX9 cX9_readRule 2 none false emU (d + 29) 0 [(0, vR l0)] [] (fX9_readRule l0) := by
  unfold fX9_readRule
  refine rz_aload_n 1 0 dX9_readRule_0 rfl rfl ?_
  refine rz_callV 4 dX9_readRule_1 rfl (tX9_isIf v (d + 27) l0) rfl rfl rfl rfl ml_X9_196 im_X9_isIf se_X9_X9_isIf in_X9 co_X9_isIf rfl rfl (fun x1 => ?_)
  refine rz_if_ne 11 7 dX9_readRule_4 rfl rfl ?_ ?_
  · exact rz_sub [0] rfl (rX9_readRule_11 v d l0)
  · refine rz_aload_n 8 0 dX9_readRule_7 rfl rfl ?_
    refine rz_callV 11 dX9_readRule_8 rfl (tX9_wrong v (d + 27) l0) rfl rfl rfl rfl ml_X9_234 im_X9_wrong se_X9_X9_wrong in_X9 co_X9_wrong rfl rfl (fun _ => ?_)
    exact rz_sub [0] rfl (rX9_readRule_11 v d l0)
theorem tX9_readRule (v : mE) (d : Nat) (l0 : Nat) : Mt v yX9_readRule cX9_readRule 2 none emU (d + 29) [vR l0] (fX9_readRule l0) := mt_of rfl rfl (fun h => by cases h) rfl rfl (rX9_readRule v d l0)
theorem dX9_law_0 : decode cX9_law 0 = .ok (.aload_n 0, 1) := by decide +kernel
theorem dX9_law_1 : decode cX9_law 1 = .ok (.iconst 0, 1) := by decide +kernel
theorem dX9_law_2 : decode cX9_law 2 = .ok (.putfield 62, 3) := by decide +kernel
theorem dX9_law_5 : decode cX9_law 5 = .ok (.aload_n 0, 1) := by decide +kernel
theorem dX9_law_6 : decode cX9_law 6 = .ok (.iconst 0, 1) := by decide +kernel
theorem dX9_law_7 : decode cX9_law 7 = .ok (.putfield 65, 3) := by decide +kernel
theorem dX9_law_10 : decode cX9_law 10 = .ok (.aload_n 0, 1) := by decide +kernel
theorem dX9_law_11 : decode cX9_law 11 = .ok (.iload_n 1, 1) := by decide +kernel
theorem dX9_law_12 : decode cX9_law 12 = .ok (.sipush 300, 3) := by decide +kernel
theorem dX9_law_15 : decode cX9_law 15 = .ok (.invokevirtual 269, 3) := by decide +kernel
theorem dX9_law_18 : decode cX9_law 18 = .ok (.ifCond .ne 5, 3) := by decide +kernel
theorem dX9_law_21 : decode cX9_law 21 = .ok (.iconst (-1), 1) := by decide +kernel
theorem dX9_law_22 : decode cX9_law 22 = .ok (.ireturn, 1) := by decide +kernel
theorem dX9_law_23 : decode cX9_law 23 = .ok (.aload_n 0, 1) := by decide +kernel
theorem dX9_law_24 : decode cX9_law 24 = .ok (.iconst 0, 1) := by decide +kernel
theorem dX9_law_25 : decode cX9_law 25 = .ok (.putfield 310, 3) := by decide +kernel
theorem dX9_law_28 : decode cX9_law 28 = .ok (.aload_n 0, 1) := by decide +kernel
theorem dX9_law_29 : decode cX9_law 29 = .ok (.iconst 0, 1) := by decide +kernel
theorem dX9_law_30 : decode cX9_law 30 = .ok (.putfield 291, 3) := by decide +kernel
theorem dX9_law_33 : decode cX9_law 33 = .ok (.aload_n 0, 1) := by decide +kernel
theorem dX9_law_34 : decode cX9_law 34 = .ok (.iconst 0, 1) := by decide +kernel
theorem dX9_law_35 : decode cX9_law 35 = .ok (.putfield 294, 3) := by decide +kernel
theorem dX9_law_38 : decode cX9_law 38 = .ok (.aload_n 0, 1) := by decide +kernel
theorem dX9_law_39 : decode cX9_law 39 = .ok (.getfield 221, 3) := by decide +kernel
theorem dX9_law_42 : decode cX9_law 42 = .ok (.ifCond .ne 17, 3) := by decide +kernel
theorem dX9_law_45 : decode cX9_law 45 = .ok (.aload_n 0, 1) := by decide +kernel
theorem dX9_law_46 : decode cX9_law 46 = .ok (.getfield 113, 3) := by decide +kernel
theorem dX9_law_49 : decode cX9_law 49 = .ok (.ifCond .eq 10, 3) := by decide +kernel
theorem dX9_law_52 : decode cX9_law 52 = .ok (.aload_n 0, 1) := by decide +kernel
theorem dX9_law_53 : decode cX9_law 53 = .ok (.invokevirtual 313, 3) := by decide +kernel
theorem dX9_law_56 : decode cX9_law 56 = .ok (.goto (-18), 3) := by decide +kernel
theorem dX9_law_59 : decode cX9_law 59 = .ok (.aload_n 0, 1) := by decide +kernel
theorem dX9_law_60 : decode cX9_law 60 = .ok (.invokevirtual 288, 3) := by decide +kernel
theorem dX9_law_63 : decode cX9_law 63 = .ok (.ifCond .ne 5, 3) := by decide +kernel
theorem dX9_law_66 : decode cX9_law 66 = .ok (.iconst (-1), 1) := by decide +kernel
theorem dX9_law_67 : decode cX9_law 67 = .ok (.ireturn, 1) := by decide +kernel
theorem dX9_law_68 : decode cX9_law 68 = .ok (.aload_n 0, 1) := by decide +kernel
theorem dX9_law_69 : decode cX9_law 69 = .ok (.getfield 35, 3) := by decide +kernel
theorem dX9_law_72 : decode cX9_law 72 = .ok (.sipush 289, 3) := by decide +kernel
theorem dX9_law_75 : decode cX9_law 75 = .ok (.aload_n 0, 1) := by decide +kernel
theorem dX9_law_76 : decode cX9_law 76 = .ok (.getfield 310, 3) := by decide +kernel
theorem dX9_law_79 : decode cX9_law 79 = .ok (.iastore, 1) := by decide +kernel
theorem dX9_law_80 : decode cX9_law 80 = .ok (.sipush 290, 3) := by decide +kernel
theorem dX9_law_83 : decode cX9_law 83 = .ok (.istore_n 2, 1) := by decide +kernel
theorem dX9_law_84 : decode cX9_law 84 = .ok (.iload_n 2, 1) := by decide +kernel
theorem dX9_law_85 : decode cX9_law 85 = .ok (.sipush 860, 3) := by decide +kernel
theorem dX9_law_88 : decode cX9_law 88 = .ok (.if_icmp .ge 25, 3) := by decide +kernel
theorem dX9_law_91 : decode cX9_law 91 = .ok (.aload_n 0, 1) := by decide +kernel
theorem dX9_law_92 : decode cX9_law 92 = .ok (.getfield 35, 3) := by decide +kernel
theorem dX9_law_95 : decode cX9_law 95 = .ok (.iload_n 2, 1) := by decide +kernel
theorem dX9_law_96 : decode cX9_law 96 = .ok (.aload_n 0, 1) := by decide +kernel
theorem dX9_law_97 : decode cX9_law 97 = .ok (.getfield 35, 3) := by decide +kernel
theorem dX9_law_100 : decode cX9_law 100 = .ok (.sipush 3440, 3) := by decide +kernel
theorem dX9_law_103 : decode cX9_law 103 = .ok (.iload_n 2, 1) := by decide +kernel
theorem dX9_law_104 : decode cX9_law 104 = .ok (.iadd, 1) := by decide +kernel
theorem dX9_law_105 : decode cX9_law 105 = .ok (.iaload, 1) := by decide +kernel
theorem dX9_law_106 : decode cX9_law 106 = .ok (.iastore, 1) := by decide +kernel
theorem dX9_law_107 : decode cX9_law 107 = .ok (.iinc 2 1, 3) := by decide +kernel
theorem dX9_law_110 : decode cX9_law 110 = .ok (.goto (-26), 3) := by decide +kernel
theorem dX9_law_113 : decode cX9_law 113 = .ok (.aload_n 0, 1) := by decide +kernel
theorem dX9_law_114 : decode cX9_law 114 = .ok (.getfield 310, 3) := by decide +kernel
theorem dX9_law_117 : decode cX9_law 117 = .ok (.ireturn, 1) := by decide +kernel
def fX9_law_84 : Nat → Nat → Int32 → mM Int32
  | 0 => fun _ _ => fun _ => none
  | n + 1 => fun l0 l2 => let r84 := fX9_law_84 n; bIf ((860 : Int32) ≤ l2) (bGI 9 l0 31 (fun x1 => bRet x1)) (bGR 9 l0 24 (fun x2 => bGR 9 l0 24 (fun x3 => bAI 11 x3 ((3440 : Int32) + l2) (fun x4 => bSI x2 l2 x4 (r84 l0 (l2 + 1))))))
theorem qX9_law_84  (n : Nat) (l0 : Nat) (l2 : Int32) : fX9_law_84 (n + 1) l0 l2 = bIf ((860 : Int32) ≤ l2) (bGI 9 l0 31 (fun x1 => bRet x1)) (bGR 9 l0 24 (fun x2 => bGR 9 l0 24 (fun x3 => bAI 11 x3 ((3440 : Int32) + l2) (fun x4 => bSI x2 l2 x4 ((fX9_law_84 n) l0 (l2 + 1)))))) := rfl
set_option maxRecDepth 20000 in
theorem rX9_law_84 (v : mE) (d : Nat) : ∀ (n : Nat) (l0 : Nat) (l2 : Int32), Rz v RX9 cX9_law 3 (some .int) false emI (d + 30) 84 [(0, vR l0), (2, vI l2)] [] (fX9_law_84 n l0 l2)
  | 0, _, _ => fun _ _ _ hm => by cases hm
  | n + 1, l0, l2 => by
    have h84 := rX9_law_84 v d n
    unfold fX9_law_84
    generalize fX9_law_84 n = r84 at h84 ⊢
    refine rz_iload_n 85 1 dX9_law_84 rfl rfl ?_
    refine rz_sipush 88 dX9_law_85 rfl cs_860 ?_
    refine rz_icmp_ge 113 91 dX9_law_88 rfl rfl ?_ ?_
    · refine rz_aload_n 114 0 dX9_law_113 rfl rfl ?_
      refine rz_gI 117 dX9_law_114 rfl rfl fl_X9_310 (fun x1 => ?_)
      exact rz_ireturn rfl rfl dX9_law_117
    · refine rz_aload_n 92 0 dX9_law_91 rfl rfl ?_
      refine rz_gR 95 dX9_law_92 rfl rfl fl_X9_35 (fun x2 => ?_)
      refine rz_iload_n 96 1 dX9_law_95 rfl rfl ?_
      refine rz_aload_n 97 0 dX9_law_96 rfl rfl ?_
      refine rz_gR 100 dX9_law_97 rfl rfl fl_X9_35 (fun x3 => ?_)
      refine rz_sipush 103 dX9_law_100 rfl cs_3440 ?_
      refine rz_iload_n 104 1 dX9_law_103 rfl rfl ?_
      refine rz_iadd 105 dX9_law_104 rfl ?_
      refine rz_iald 106 dX9_law_105 rfl (fun x4 => ?_)
      refine rz_iast 107 dX9_law_106 rfl ?_
      refine rz_iinc (lv' := [(2, vI (l2 + 1)), (0, vR l0)]) 110 1 dX9_law_107 rfl rfl (cn_1 _) rfl rfl ?_
      refine rz_goto 84 dX9_law_110 rfl ?_
      exact rz_sub [1, 0] rfl (h84 l0 (l2 + 1))
def fX9_law_59 (l0 : Nat) : mM Int32 := bCallV 9 l0 (fX9_isWell l0) (fun x1 => bIf (x1 = 0) (bRet (-1 : Int32)) (bGR 9 l0 24 (fun x2 => bGI 9 l0 31 (fun x3 => bSI x2 (289 : Int32) x3 (fX9_law_84 fu l0 (290 : Int32))))))
set_option maxRecDepth 20000 in
theorem rX9_law_59 (v : mE) (d : Nat) (l0 : Nat) : Rz v RX9 cX9_law 3 (some .int) false emI (d + 30) 59 [(0, vR l0)] [] (fX9_law_59 l0) := by
  unfold fX9_law_59
  refine rz_aload_n 60 0 dX9_law_59 rfl rfl ?_
  refine rz_callV 63 dX9_law_60 rfl (tX9_isWell v (d + 28) l0) rfl rfl rfl rfl ml_X9_288 im_X9_isWell se_X9_X9_isWell in_X9 co_X9_isWell rfl rfl (fun x1 => ?_)
  refine rz_if_ne 68 66 dX9_law_63 rfl rfl ?_ ?_
  · refine rz_aload_n 69 0 dX9_law_68 rfl rfl ?_
    refine rz_gR 72 dX9_law_69 rfl rfl fl_X9_35 (fun x2 => ?_)
    refine rz_sipush 75 dX9_law_72 rfl cs_289 ?_
    refine rz_aload_n 76 0 dX9_law_75 rfl rfl ?_
    refine rz_gI 79 dX9_law_76 rfl rfl fl_X9_310 (fun x3 => ?_)
    refine rz_iast 80 dX9_law_79 rfl ?_
    refine rz_sipush 83 dX9_law_80 rfl cs_290 ?_
    refine rz_istore_n (lv' := [(2, vI (290 : Int32)), (0, vR l0)]) 84 dX9_law_83 rfl rfl rfl ?_
    exact rz_sub [1, 0] rfl (rX9_law_84 v d fu l0 (290 : Int32))
  · refine rz_iconst 67 dX9_law_66 rfl ci_m1 ?_
    exact rz_ireturn rfl rfl dX9_law_67
def fX9_law_38 : Nat → Nat → mM Int32
  | 0 => fun _ => fun _ => none
  | n + 1 => fun l0 => let r38 := fX9_law_38 n; bGI 9 l0 12 (fun x1 => bIf (x1 = 0) (bGI 9 l0 14 (fun x2 => bIf (x2 = 0) (fX9_law_59 l0) (bCallV 9 l0 (fX9_readRule l0) (fun _ => r38 l0)))) (fX9_law_59 l0))
theorem qX9_law_38  (n : Nat) (l0 : Nat) : fX9_law_38 (n + 1) l0 = bGI 9 l0 12 (fun x1 => bIf (x1 = 0) (bGI 9 l0 14 (fun x2 => bIf (x2 = 0) (fX9_law_59 l0) (bCallV 9 l0 (fX9_readRule l0) (fun _ => (fX9_law_38 n) l0)))) (fX9_law_59 l0)) := rfl
set_option maxRecDepth 20000 in
theorem rX9_law_38 (v : mE) (d : Nat) : ∀ (n : Nat) (l0 : Nat), Rz v RX9 cX9_law 3 (some .int) false emI (d + 30) 38 [(0, vR l0)] [] (fX9_law_38 n l0)
  | 0, _ => fun _ _ _ hm => by cases hm
  | n + 1, l0 => by
    have h38 := rX9_law_38 v d n
    unfold fX9_law_38
    generalize fX9_law_38 n = r38 at h38 ⊢
    refine rz_aload_n 39 0 dX9_law_38 rfl rfl ?_
    refine rz_gI 42 dX9_law_39 rfl rfl fl_X9_221 (fun x1 => ?_)
    refine rz_if_ne 59 45 dX9_law_42 rfl rfl ?_ ?_
    · exact rz_sub [0] rfl (rX9_law_59 v d l0)
    · refine rz_aload_n 46 0 dX9_law_45 rfl rfl ?_
      refine rz_gI 49 dX9_law_46 rfl rfl fl_X9_113 (fun x2 => ?_)
      refine rz_if_eq 59 52 dX9_law_49 rfl rfl ?_ ?_
      · exact rz_sub [0] rfl (rX9_law_59 v d l0)
      · refine rz_aload_n 53 0 dX9_law_52 rfl rfl ?_
        refine rz_callV 56 dX9_law_53 rfl (tX9_readRule v (d + 0) l0) rfl rfl rfl rfl ml_X9_313 im_X9_readRule se_X9_X9_readRule in_X9 co_X9_readRule rfl rfl (fun _ => ?_)
        refine rz_goto 38 dX9_law_56 rfl ?_
        exact rz_sub [0] rfl (h38 l0)
def fX9_law (l0 : Nat) (l1 : Int32) : mM Int32 := bPI 9 l0 1 (0 : Int32) (bPI 9 l0 0 (0 : Int32) (bCallV 9 l0 (fX9_opens l0 l1 (300 : Int32)) (fun x1 => bIf (x1 = 0) (bRet (-1 : Int32)) (bPI 9 l0 31 (0 : Int32) (bPI 9 l0 19 (0 : Int32) (bPI 9 l0 20 (0 : Int32) (fX9_law_38 fu l0)))))))
set_option maxRecDepth 20000 in
theorem rX9_law (v : mE) (d : Nat) (l0 : Nat) (l1 : Int32) : Rz v RX9 cX9_law 3 (some .int) false emI (d + 30) 0 [(0, vR l0), (1, vI l1)] [] (fX9_law l0 l1) := by
  unfold fX9_law
  refine rz_aload_n 1 0 dX9_law_0 rfl rfl ?_
  refine rz_iconst 2 dX9_law_1 rfl ci_0 ?_
  refine rz_pI 5 dX9_law_2 rfl rfl rfl rfl fl_X9_62 ?_
  refine rz_aload_n 6 0 dX9_law_5 rfl rfl ?_
  refine rz_iconst 7 dX9_law_6 rfl ci_0 ?_
  refine rz_pI 10 dX9_law_7 rfl rfl rfl rfl fl_X9_65 ?_
  refine rz_aload_n 11 0 dX9_law_10 rfl rfl ?_
  refine rz_iload_n 12 1 dX9_law_11 rfl rfl ?_
  refine rz_sipush 15 dX9_law_12 rfl cs_300 ?_
  refine rz_callV 18 dX9_law_15 rfl (tX9_opens v (d + 27) l0 l1 (300 : Int32)) rfl rfl rfl rfl ml_X9_269 im_X9_opens se_X9_X9_opens in_X9 co_X9_opens rfl rfl (fun x1 => ?_)
  refine rz_if_ne 23 21 dX9_law_18 rfl rfl ?_ ?_
  · refine rz_aload_n 24 0 dX9_law_23 rfl rfl ?_
    refine rz_iconst 25 dX9_law_24 rfl ci_0 ?_
    refine rz_pI 28 dX9_law_25 rfl rfl rfl rfl fl_X9_310 ?_
    refine rz_aload_n 29 0 dX9_law_28 rfl rfl ?_
    refine rz_iconst 30 dX9_law_29 rfl ci_0 ?_
    refine rz_pI 33 dX9_law_30 rfl rfl rfl rfl fl_X9_291 ?_
    refine rz_aload_n 34 0 dX9_law_33 rfl rfl ?_
    refine rz_iconst 35 dX9_law_34 rfl ci_0 ?_
    refine rz_pI 38 dX9_law_35 rfl rfl rfl rfl fl_X9_294 ?_
    exact rz_sub [0] rfl (rX9_law_38 v d fu l0)
  · refine rz_iconst 22 dX9_law_21 rfl ci_m1 ?_
    exact rz_ireturn rfl rfl dX9_law_22
theorem tX9_law (v : mE) (d : Nat) (l0 : Nat) (l1 : Int32) : Mt v yX9_law cX9_law 3 (some .int) emI (d + 30) [vR l0, vI l1] (fX9_law l0 l1) := mt_of rfl rfl (fun h => by cases h) rfl rfl (rX9_law v d l0 l1)
theorem dX9_isPerson_0 : decode cX9_isPerson 0 = .ok (.iload_n 1, 1) := by decide +kernel
theorem dX9_isPerson_1 : decode cX9_isPerson 1 = .ok (.i2l, 1) := by decide +kernel
theorem dX9_isPerson_2 : decode cX9_isPerson 2 = .ok (.lconst 0, 1) := by decide +kernel
theorem dX9_isPerson_3 : decode cX9_isPerson 3 = .ok (.aload_n 0, 1) := by decide +kernel
theorem dX9_isPerson_4 : decode cX9_isPerson 4 = .ok (.getfield 35, 3) := by decide +kernel
theorem dX9_isPerson_7 : decode cX9_isPerson 7 = .ok (.bipush 7, 2) := by decide +kernel
theorem dX9_isPerson_9 : decode cX9_isPerson 9 = .ok (.iaload, 1) := by decide +kernel
theorem dX9_isPerson_10 : decode cX9_isPerson 10 = .ok (.iconst 1, 1) := by decide +kernel
theorem dX9_isPerson_11 : decode cX9_isPerson 11 = .ok (.isub, 1) := by decide +kernel
theorem dX9_isPerson_12 : decode cX9_isPerson 12 = .ok (.i2l, 1) := by decide +kernel
theorem dX9_isPerson_13 : decode cX9_isPerson 13 = .ok (.invokestatic 97, 3) := by decide +kernel
theorem dX9_isPerson_16 : decode cX9_isPerson 16 = .ok (.ireturn, 1) := by decide +kernel
def fX9_isPerson (l0 : Nat) (l1 : Int32) : mM Int32 := bGR 9 l0 24 (fun x1 => bAI 11 x1 (7 : Int32) (fun x2 => bCall (fX9_isIn (Int32.toInt64 l1) (0 : Int64) (Int32.toInt64 (x2 - (1 : Int32)))) (fun x3 => bRetZ x3)))
set_option maxRecDepth 20000 in
theorem rX9_isPerson (v : mE) (d : Nat) (l0 : Nat) (l1 : Int32) : Rz v RX9 cX9_isPerson 2 (some .boolean) false emI (d + 1) 0 [(0, vR l0), (1, vI l1)] [] (fX9_isPerson l0 l1) := by
  unfold fX9_isPerson
  refine rz_iload_n 1 1 dX9_isPerson_0 rfl rfl ?_
  refine rz_i2l 2 dX9_isPerson_1 rfl ?_
  refine rz_lconst 3 dX9_isPerson_2 rfl cl_0 ?_
  refine rz_aload_n 4 0 dX9_isPerson_3 rfl rfl ?_
  refine rz_gR 7 dX9_isPerson_4 rfl rfl fl_X9_35 (fun x1 => ?_)
  refine rz_bipush 9 dX9_isPerson_7 rfl cb_7 ?_
  refine rz_iald 10 dX9_isPerson_9 rfl (fun x2 => ?_)
  refine rz_iconst 11 dX9_isPerson_10 rfl ci_1 ?_
  refine rz_isub 12 dX9_isPerson_11 rfl ?_
  refine rz_i2l 13 dX9_isPerson_12 rfl ?_
  refine rz_callS 16 dX9_isPerson_13 rfl (tX9_isIn v (d + 0) (Int32.toInt64 l1) (0 : Int64) (Int32.toInt64 (x2 - (1 : Int32)))) rfl rfl ml_X9_97 sm_X9_isIn in_X9 co_X9_isIn rfl rfl (fun x3 => ?_)
  exact rz_zreturn rfl rfl dX9_isPerson_16
theorem tX9_isPerson (v : mE) (d : Nat) (l0 : Nat) (l1 : Int32) : Mt v yX9_isPerson cX9_isPerson 2 (some .boolean) emI (d + 1) [vR l0, vI l1] (fX9_isPerson l0 l1) := mt_of rfl rfl (fun h => by cases h) rfl rfl (rX9_isPerson v d l0 l1)
theorem dX9_isRope_0 : decode cX9_isRope 0 = .ok (.iload_n 1, 1) := by decide +kernel
theorem dX9_isRope_1 : decode cX9_isRope 1 = .ok (.i2l, 1) := by decide +kernel
theorem dX9_isRope_2 : decode cX9_isRope 2 = .ok (.lconst 0, 1) := by decide +kernel
theorem dX9_isRope_3 : decode cX9_isRope 3 = .ok (.ldc2_w 316, 3) := by decide +kernel
theorem dX9_isRope_6 : decode cX9_isRope 6 = .ok (.invokestatic 97, 3) := by decide +kernel
theorem dX9_isRope_9 : decode cX9_isRope 9 = .ok (.ifCond .eq 19, 3) := by decide +kernel
theorem dX9_isRope_12 : decode cX9_isRope 12 = .ok (.aload_n 0, 1) := by decide +kernel
theorem dX9_isRope_13 : decode cX9_isRope 13 = .ok (.getfield 35, 3) := by decide +kernel
theorem dX9_isRope_16 : decode cX9_isRope 16 = .ok (.bipush 85, 2) := by decide +kernel
theorem dX9_isRope_18 : decode cX9_isRope 18 = .ok (.iload_n 1, 1) := by decide +kernel
theorem dX9_isRope_19 : decode cX9_isRope 19 = .ok (.iadd, 1) := by decide +kernel
theorem dX9_isRope_20 : decode cX9_isRope 20 = .ok (.iaload, 1) := by decide +kernel
theorem dX9_isRope_21 : decode cX9_isRope 21 = .ok (.ifCond .le 7, 3) := by decide +kernel
theorem dX9_isRope_24 : decode cX9_isRope 24 = .ok (.iconst 1, 1) := by decide +kernel
theorem dX9_isRope_25 : decode cX9_isRope 25 = .ok (.goto 4, 3) := by decide +kernel
theorem dX9_isRope_28 : decode cX9_isRope 28 = .ok (.iconst 0, 1) := by decide +kernel
theorem dX9_isRope_29 : decode cX9_isRope 29 = .ok (.ireturn, 1) := by decide +kernel
def fX9_isRope (l0 : Nat) (l1 : Int32) : mM Int32 := bCall (fX9_isIn (Int32.toInt64 l1) (0 : Int64) (11 : Int64)) (fun x1 => bIf (x1 = 0) (bRetZ (0 : Int32)) (bGR 9 l0 24 (fun x2 => bAI 11 x2 ((85 : Int32) + l1) (fun x3 => bIf (x3 ≤ 0) (bRetZ (0 : Int32)) (bRetZ (1 : Int32))))))
set_option maxRecDepth 20000 in
theorem rX9_isRope (v : mE) (d : Nat) (l0 : Nat) (l1 : Int32) : Rz v RX9 cX9_isRope 2 (some .boolean) false emI (d + 1) 0 [(0, vR l0), (1, vI l1)] [] (fX9_isRope l0 l1) := by
  unfold fX9_isRope
  refine rz_iload_n 1 1 dX9_isRope_0 rfl rfl ?_
  refine rz_i2l 2 dX9_isRope_1 rfl ?_
  refine rz_lconst 3 dX9_isRope_2 rfl cl_0 ?_
  refine rz_ldc2 6 dX9_isRope_3 rfl cu_X9_316 ?_
  refine rz_callS 9 dX9_isRope_6 rfl (tX9_isIn v (d + 0) (Int32.toInt64 l1) (0 : Int64) (11 : Int64)) rfl rfl ml_X9_97 sm_X9_isIn in_X9 co_X9_isIn rfl rfl (fun x1 => ?_)
  refine rz_if_eq 28 12 dX9_isRope_9 rfl rfl ?_ ?_
  · refine rz_iconst 29 dX9_isRope_28 rfl ci_0 ?_
    exact rz_zreturn rfl rfl dX9_isRope_29
  · refine rz_aload_n 13 0 dX9_isRope_12 rfl rfl ?_
    refine rz_gR 16 dX9_isRope_13 rfl rfl fl_X9_35 (fun x2 => ?_)
    refine rz_bipush 18 dX9_isRope_16 rfl cb_85 ?_
    refine rz_iload_n 19 1 dX9_isRope_18 rfl rfl ?_
    refine rz_iadd 20 dX9_isRope_19 rfl ?_
    refine rz_iald 21 dX9_isRope_20 rfl (fun x3 => ?_)
    refine rz_if_le 28 24 dX9_isRope_21 rfl rfl ?_ ?_
    · refine rz_iconst 29 dX9_isRope_28 rfl ci_0 ?_
      exact rz_zreturn rfl rfl dX9_isRope_29
    · refine rz_iconst 25 dX9_isRope_24 rfl ci_1 ?_
      refine rz_goto 29 dX9_isRope_25 rfl ?_
      exact rz_zreturn rfl rfl dX9_isRope_29
theorem tX9_isRope (v : mE) (d : Nat) (l0 : Nat) (l1 : Int32) : Mt v yX9_isRope cX9_isRope 2 (some .boolean) emI (d + 1) [vR l0, vI l1] (fX9_isRope l0 l1) := mt_of rfl rfl (fun h => by cases h) rfl rfl (rX9_isRope v d l0 l1)
theorem dX9_ropes_0 : decode cX9_ropes 0 = .ok (.iconst 0, 1) := by decide +kernel
theorem dX9_ropes_1 : decode cX9_ropes 1 = .ok (.istore_n 1, 1) := by decide +kernel
theorem dX9_ropes_2 : decode cX9_ropes 2 = .ok (.iconst 0, 1) := by decide +kernel
theorem dX9_ropes_3 : decode cX9_ropes 3 = .ok (.istore_n 2, 1) := by decide +kernel
theorem dX9_ropes_4 : decode cX9_ropes 4 = .ok (.iload_n 2, 1) := by decide +kernel
theorem dX9_ropes_5 : decode cX9_ropes 5 = .ok (.bipush 12, 2) := by decide +kernel
theorem dX9_ropes_7 : decode cX9_ropes 7 = .ok (.if_icmp .ge 25, 3) := by decide +kernel
theorem dX9_ropes_10 : decode cX9_ropes 10 = .ok (.iload_n 1, 1) := by decide +kernel
theorem dX9_ropes_11 : decode cX9_ropes 11 = .ok (.aload_n 0, 1) := by decide +kernel
theorem dX9_ropes_12 : decode cX9_ropes 12 = .ok (.iload_n 2, 1) := by decide +kernel
theorem dX9_ropes_13 : decode cX9_ropes 13 = .ok (.invokevirtual 318, 3) := by decide +kernel
theorem dX9_ropes_16 : decode cX9_ropes 16 = .ok (.ifCond .eq 7, 3) := by decide +kernel
theorem dX9_ropes_19 : decode cX9_ropes 19 = .ok (.iconst 1, 1) := by decide +kernel
theorem dX9_ropes_20 : decode cX9_ropes 20 = .ok (.goto 4, 3) := by decide +kernel
theorem dX9_ropes_23 : decode cX9_ropes 23 = .ok (.iconst 0, 1) := by decide +kernel
theorem dX9_ropes_24 : decode cX9_ropes 24 = .ok (.iadd, 1) := by decide +kernel
theorem dX9_ropes_25 : decode cX9_ropes 25 = .ok (.istore_n 1, 1) := by decide +kernel
theorem dX9_ropes_26 : decode cX9_ropes 26 = .ok (.iinc 2 1, 3) := by decide +kernel
theorem dX9_ropes_29 : decode cX9_ropes 29 = .ok (.goto (-25), 3) := by decide +kernel
theorem dX9_ropes_32 : decode cX9_ropes 32 = .ok (.iload_n 1, 1) := by decide +kernel
theorem dX9_ropes_33 : decode cX9_ropes 33 = .ok (.ireturn, 1) := by decide +kernel
def fX9_ropes_24 (r4 : Nat → Int32 → Int32 → mM Int32) (l0 : Nat) (l2 : Int32) (s0 : Int32) (s1 : Int32) : mM Int32 := r4 l0 (s1 + s0) (l2 + 1)
set_option maxRecDepth 20000 in
theorem rX9_ropes_24 (v : mE) (d : Nat) (r4 : Nat → Int32 → Int32 → mM Int32) (h4 : ∀ (y0 : Nat) (y1 : Int32) (y2 : Int32), Rz v RX9 cX9_ropes 3 (some .int) false emI (d + 2) 4 [(0, vR y0), (1, vI y1), (2, vI y2)] [] (r4 y0 y1 y2)) (l0 : Nat) (l2 : Int32) (s0 : Int32) (s1 : Int32) : Rz v RX9 cX9_ropes 3 (some .int) false emI (d + 2) 24 [(0, vR l0), (2, vI l2)] [vI s0, vI s1] (fX9_ropes_24 r4 l0 l2 s0 s1) := by
  unfold fX9_ropes_24
  refine rz_iadd 25 dX9_ropes_24 rfl ?_
  refine rz_istore_n (lv' := [(1, vI (s1 + s0)), (0, vR l0), (2, vI l2)]) 26 dX9_ropes_25 rfl rfl rfl ?_
  refine rz_iinc (lv' := [(2, vI (l2 + 1)), (1, vI (s1 + s0)), (0, vR l0)]) 29 2 dX9_ropes_26 rfl rfl (cn_1 _) rfl rfl ?_
  refine rz_goto 4 dX9_ropes_29 rfl ?_
  exact rz_sub [2, 1, 0] rfl (h4 l0 (s1 + s0) (l2 + 1))
def fX9_ropes_4 : Nat → Nat → Int32 → Int32 → mM Int32
  | 0 => fun _ _ _ => fun _ => none
  | n + 1 => fun l0 l1 l2 => let r4 := fX9_ropes_4 n; bIf ((12 : Int32) ≤ l2) (bRet l1) (bCallV 9 l0 (fX9_isRope l0 l2) (fun x1 => bIf (x1 = 0) (fX9_ropes_24 r4 l0 l2 (0 : Int32) l1) (fX9_ropes_24 r4 l0 l2 (1 : Int32) l1)))
theorem qX9_ropes_4  (n : Nat) (l0 : Nat) (l1 : Int32) (l2 : Int32) : fX9_ropes_4 (n + 1) l0 l1 l2 = bIf ((12 : Int32) ≤ l2) (bRet l1) (bCallV 9 l0 (fX9_isRope l0 l2) (fun x1 => bIf (x1 = 0) (fX9_ropes_24 (fX9_ropes_4 n) l0 l2 (0 : Int32) l1) (fX9_ropes_24 (fX9_ropes_4 n) l0 l2 (1 : Int32) l1))) := rfl
set_option maxRecDepth 20000 in
theorem rX9_ropes_4 (v : mE) (d : Nat) : ∀ (n : Nat) (l0 : Nat) (l1 : Int32) (l2 : Int32), Rz v RX9 cX9_ropes 3 (some .int) false emI (d + 2) 4 [(0, vR l0), (1, vI l1), (2, vI l2)] [] (fX9_ropes_4 n l0 l1 l2)
  | 0, _, _, _ => fun _ _ _ hm => by cases hm
  | n + 1, l0, l1, l2 => by
    have h4 := rX9_ropes_4 v d n
    unfold fX9_ropes_4
    generalize fX9_ropes_4 n = r4 at h4 ⊢
    refine rz_iload_n 5 2 dX9_ropes_4 rfl rfl ?_
    refine rz_bipush 7 dX9_ropes_5 rfl cb_12 ?_
    refine rz_icmp_ge 32 10 dX9_ropes_7 rfl rfl ?_ ?_
    · refine rz_iload_n 33 1 dX9_ropes_32 rfl rfl ?_
      exact rz_ireturn rfl rfl dX9_ropes_33
    · refine rz_iload_n 11 1 dX9_ropes_10 rfl rfl ?_
      refine rz_aload_n 12 0 dX9_ropes_11 rfl rfl ?_
      refine rz_iload_n 13 2 dX9_ropes_12 rfl rfl ?_
      refine rz_callV 16 dX9_ropes_13 rfl (tX9_isRope v (d + 0) l0 l2) rfl rfl rfl rfl ml_X9_318 im_X9_isRope se_X9_X9_isRope in_X9 co_X9_isRope rfl rfl (fun x1 => ?_)
      refine rz_if_eq 23 19 dX9_ropes_16 rfl rfl ?_ ?_
      · refine rz_iconst 24 dX9_ropes_23 rfl ci_0 ?_
        exact rz_sub [0, 2] rfl (rX9_ropes_24 v d r4 h4 l0 l2 (0 : Int32) l1)
      · refine rz_iconst 20 dX9_ropes_19 rfl ci_1 ?_
        refine rz_goto 24 dX9_ropes_20 rfl ?_
        exact rz_sub [0, 2] rfl (rX9_ropes_24 v d r4 h4 l0 l2 (1 : Int32) l1)
def fX9_ropes (l0 : Nat) : mM Int32 := fX9_ropes_4 fu l0 (0 : Int32) (0 : Int32)
set_option maxRecDepth 20000 in
theorem rX9_ropes (v : mE) (d : Nat) (l0 : Nat) : Rz v RX9 cX9_ropes 3 (some .int) false emI (d + 2) 0 [(0, vR l0)] [] (fX9_ropes l0) := by
  unfold fX9_ropes
  refine rz_iconst 1 dX9_ropes_0 rfl ci_0 ?_
  refine rz_istore_n (lv' := [(1, vI (0 : Int32)), (0, vR l0)]) 2 dX9_ropes_1 rfl rfl rfl ?_
  refine rz_iconst 3 dX9_ropes_2 rfl ci_0 ?_
  refine rz_istore_n (lv' := [(2, vI (0 : Int32)), (1, vI (0 : Int32)), (0, vR l0)]) 4 dX9_ropes_3 rfl rfl rfl ?_
  exact rz_sub [2, 1, 0] rfl (rX9_ropes_4 v d fu l0 (0 : Int32) (0 : Int32))
theorem tX9_ropes (v : mE) (d : Nat) (l0 : Nat) : Mt v yX9_ropes cX9_ropes 3 (some .int) emI (d + 2) [vR l0] (fX9_ropes l0) := mt_of rfl rfl (fun h => by cases h) rfl rfl (rX9_ropes v d l0)
theorem dX9_isAlive_0 : decode cX9_isAlive 0 = .ok (.aload_n 0, 1) := by decide +kernel
theorem dX9_isAlive_1 : decode cX9_isAlive 1 = .ok (.getfield 35, 3) := by decide +kernel
theorem dX9_isAlive_4 : decode cX9_isAlive 4 = .ok (.bipush 17, 2) := by decide +kernel
theorem dX9_isAlive_6 : decode cX9_isAlive 6 = .ok (.iload_n 1, 1) := by decide +kernel
theorem dX9_isAlive_7 : decode cX9_isAlive 7 = .ok (.iadd, 1) := by decide +kernel
theorem dX9_isAlive_8 : decode cX9_isAlive 8 = .ok (.iaload, 1) := by decide +kernel
theorem dX9_isAlive_9 : decode cX9_isAlive 9 = .ok (.ifCond .eq 21, 3) := by decide +kernel
theorem dX9_isAlive_12 : decode cX9_isAlive 12 = .ok (.aload_n 0, 1) := by decide +kernel
theorem dX9_isAlive_13 : decode cX9_isAlive 13 = .ok (.getfield 35, 3) := by decide +kernel
theorem dX9_isAlive_16 : decode cX9_isAlive 16 = .ok (.iconst 5, 1) := by decide +kernel
theorem dX9_isAlive_17 : decode cX9_isAlive 17 = .ok (.iaload, 1) := by decide +kernel
theorem dX9_isAlive_18 : decode cX9_isAlive 18 = .ok (.aload_n 0, 1) := by decide +kernel
theorem dX9_isAlive_19 : decode cX9_isAlive 19 = .ok (.getfield 35, 3) := by decide +kernel
theorem dX9_isAlive_22 : decode cX9_isAlive 22 = .ok (.bipush 17, 2) := by decide +kernel
theorem dX9_isAlive_24 : decode cX9_isAlive 24 = .ok (.iload_n 1, 1) := by decide +kernel
theorem dX9_isAlive_25 : decode cX9_isAlive 25 = .ok (.iadd, 1) := by decide +kernel
theorem dX9_isAlive_26 : decode cX9_isAlive 26 = .ok (.iaload, 1) := by decide +kernel
theorem dX9_isAlive_27 : decode cX9_isAlive 27 = .ok (.if_icmp .ge 7, 3) := by decide +kernel
theorem dX9_isAlive_30 : decode cX9_isAlive 30 = .ok (.iconst 1, 1) := by decide +kernel
theorem dX9_isAlive_31 : decode cX9_isAlive 31 = .ok (.goto 4, 3) := by decide +kernel
theorem dX9_isAlive_34 : decode cX9_isAlive 34 = .ok (.iconst 0, 1) := by decide +kernel
theorem dX9_isAlive_35 : decode cX9_isAlive 35 = .ok (.ireturn, 1) := by decide +kernel
def fX9_isAlive (l0 : Nat) (l1 : Int32) : mM Int32 := bGR 9 l0 24 (fun x1 => bAI 11 x1 ((17 : Int32) + l1) (fun x2 => bIf (x2 = 0) (bRetZ (1 : Int32)) (bGR 9 l0 24 (fun x3 => bAI 11 x3 (5 : Int32) (fun x4 => bGR 9 l0 24 (fun x5 => bAI 11 x5 ((17 : Int32) + l1) (fun x6 => bIf (x6 ≤ x4) (bRetZ (0 : Int32)) (bRetZ (1 : Int32)))))))))
set_option maxRecDepth 20000 in
theorem rX9_isAlive (v : mE) (d : Nat) (l0 : Nat) (l1 : Int32) : Rz v RX9 cX9_isAlive 2 (some .boolean) false emI (d + 0) 0 [(0, vR l0), (1, vI l1)] [] (fX9_isAlive l0 l1) := by
  unfold fX9_isAlive
  refine rz_aload_n 1 0 dX9_isAlive_0 rfl rfl ?_
  refine rz_gR 4 dX9_isAlive_1 rfl rfl fl_X9_35 (fun x1 => ?_)
  refine rz_bipush 6 dX9_isAlive_4 rfl cb_17 ?_
  refine rz_iload_n 7 1 dX9_isAlive_6 rfl rfl ?_
  refine rz_iadd 8 dX9_isAlive_7 rfl ?_
  refine rz_iald 9 dX9_isAlive_8 rfl (fun x2 => ?_)
  refine rz_if_eq 30 12 dX9_isAlive_9 rfl rfl ?_ ?_
  · refine rz_iconst 31 dX9_isAlive_30 rfl ci_1 ?_
    refine rz_goto 35 dX9_isAlive_31 rfl ?_
    exact rz_zreturn rfl rfl dX9_isAlive_35
  · refine rz_aload_n 13 0 dX9_isAlive_12 rfl rfl ?_
    refine rz_gR 16 dX9_isAlive_13 rfl rfl fl_X9_35 (fun x3 => ?_)
    refine rz_iconst 17 dX9_isAlive_16 rfl ci_5 ?_
    refine rz_iald 18 dX9_isAlive_17 rfl (fun x4 => ?_)
    refine rz_aload_n 19 0 dX9_isAlive_18 rfl rfl ?_
    refine rz_gR 22 dX9_isAlive_19 rfl rfl fl_X9_35 (fun x5 => ?_)
    refine rz_bipush 24 dX9_isAlive_22 rfl cb_17 ?_
    refine rz_iload_n 25 1 dX9_isAlive_24 rfl rfl ?_
    refine rz_iadd 26 dX9_isAlive_25 rfl ?_
    refine rz_iald 27 dX9_isAlive_26 rfl (fun x6 => ?_)
    refine rz_icmp_ge 34 30 dX9_isAlive_27 rfl rfl ?_ ?_
    · refine rz_iconst 35 dX9_isAlive_34 rfl ci_0 ?_
      exact rz_zreturn rfl rfl dX9_isAlive_35
    · refine rz_iconst 31 dX9_isAlive_30 rfl ci_1 ?_
      refine rz_goto 35 dX9_isAlive_31 rfl ?_
      exact rz_zreturn rfl rfl dX9_isAlive_35
theorem tX9_isAlive (v : mE) (d : Nat) (l0 : Nat) (l1 : Int32) : Mt v yX9_isAlive cX9_isAlive 2 (some .boolean) emI (d + 0) [vR l0, vI l1] (fX9_isAlive l0 l1) := mt_of rfl rfl (fun h => by cases h) rfl rfl (rX9_isAlive v d l0 l1)
theorem dX9_depthNow_0 : decode cX9_depthNow 0 = .ok (.aload_n 0, 1) := by decide +kernel
theorem dX9_depthNow_1 : decode cX9_depthNow 1 = .ok (.getfield 35, 3) := by decide +kernel
theorem dX9_depthNow_4 : decode cX9_depthNow 4 = .ok (.iconst 0, 1) := by decide +kernel
theorem dX9_depthNow_5 : decode cX9_depthNow 5 = .ok (.iaload, 1) := by decide +kernel
theorem dX9_depthNow_6 : decode cX9_depthNow 6 = .ok (.istore_n 1, 1) := by decide +kernel
theorem dX9_depthNow_7 : decode cX9_depthNow 7 = .ok (.iconst 0, 1) := by decide +kernel
theorem dX9_depthNow_8 : decode cX9_depthNow 8 = .ok (.istore_n 2, 1) := by decide +kernel
theorem dX9_depthNow_9 : decode cX9_depthNow 9 = .ok (.iload_n 2, 1) := by decide +kernel
theorem dX9_depthNow_10 : decode cX9_depthNow 10 = .ok (.aload_n 0, 1) := by decide +kernel
theorem dX9_depthNow_11 : decode cX9_depthNow 11 = .ok (.getfield 35, 3) := by decide +kernel
theorem dX9_depthNow_14 : decode cX9_depthNow 14 = .ok (.bipush 8, 2) := by decide +kernel
theorem dX9_depthNow_16 : decode cX9_depthNow 16 = .ok (.iaload, 1) := by decide +kernel
theorem dX9_depthNow_17 : decode cX9_depthNow 17 = .ok (.if_icmp .ge 61, 3) := by decide +kernel
theorem dX9_depthNow_20 : decode cX9_depthNow 20 = .ok (.iload_n 1, 1) := by decide +kernel
theorem dX9_depthNow_21 : decode cX9_depthNow 21 = .ok (.aload_n 0, 1) := by decide +kernel
theorem dX9_depthNow_22 : decode cX9_depthNow 22 = .ok (.getfield 35, 3) := by decide +kernel
theorem dX9_depthNow_25 : decode cX9_depthNow 25 = .ok (.bipush 25, 2) := by decide +kernel
theorem dX9_depthNow_27 : decode cX9_depthNow 27 = .ok (.iload_n 2, 1) := by decide +kernel
theorem dX9_depthNow_28 : decode cX9_depthNow 28 = .ok (.iadd, 1) := by decide +kernel
theorem dX9_depthNow_29 : decode cX9_depthNow 29 = .ok (.iaload, 1) := by decide +kernel
theorem dX9_depthNow_30 : decode cX9_depthNow 30 = .ok (.aload_n 0, 1) := by decide +kernel
theorem dX9_depthNow_31 : decode cX9_depthNow 31 = .ok (.getfield 35, 3) := by decide +kernel
theorem dX9_depthNow_34 : decode cX9_depthNow 34 = .ok (.iconst 5, 1) := by decide +kernel
theorem dX9_depthNow_35 : decode cX9_depthNow 35 = .ok (.iaload, 1) := by decide +kernel
theorem dX9_depthNow_36 : decode cX9_depthNow 36 = .ok (.if_icmp .gt 33, 3) := by decide +kernel
theorem dX9_depthNow_39 : decode cX9_depthNow 39 = .ok (.aload_n 0, 1) := by decide +kernel
theorem dX9_depthNow_40 : decode cX9_depthNow 40 = .ok (.getfield 35, 3) := by decide +kernel
theorem dX9_depthNow_43 : decode cX9_depthNow 43 = .ok (.iconst 5, 1) := by decide +kernel
theorem dX9_depthNow_44 : decode cX9_depthNow 44 = .ok (.iaload, 1) := by decide +kernel
theorem dX9_depthNow_45 : decode cX9_depthNow 45 = .ok (.aload_n 0, 1) := by decide +kernel
theorem dX9_depthNow_46 : decode cX9_depthNow 46 = .ok (.getfield 35, 3) := by decide +kernel
theorem dX9_depthNow_49 : decode cX9_depthNow 49 = .ok (.bipush 29, 2) := by decide +kernel
theorem dX9_depthNow_51 : decode cX9_depthNow 51 = .ok (.iload_n 2, 1) := by decide +kernel
theorem dX9_depthNow_52 : decode cX9_depthNow 52 = .ok (.iadd, 1) := by decide +kernel
theorem dX9_depthNow_53 : decode cX9_depthNow 53 = .ok (.iaload, 1) := by decide +kernel
theorem dX9_depthNow_54 : decode cX9_depthNow 54 = .ok (.if_icmp .gt 15, 3) := by decide +kernel
theorem dX9_depthNow_57 : decode cX9_depthNow 57 = .ok (.aload_n 0, 1) := by decide +kernel
theorem dX9_depthNow_58 : decode cX9_depthNow 58 = .ok (.getfield 35, 3) := by decide +kernel
theorem dX9_depthNow_61 : decode cX9_depthNow 61 = .ok (.bipush 33, 2) := by decide +kernel
theorem dX9_depthNow_63 : decode cX9_depthNow 63 = .ok (.iload_n 2, 1) := by decide +kernel
theorem dX9_depthNow_64 : decode cX9_depthNow 64 = .ok (.iadd, 1) := by decide +kernel
theorem dX9_depthNow_65 : decode cX9_depthNow 65 = .ok (.iaload, 1) := by decide +kernel
theorem dX9_depthNow_66 : decode cX9_depthNow 66 = .ok (.goto 4, 3) := by decide +kernel
theorem dX9_depthNow_69 : decode cX9_depthNow 69 = .ok (.iconst 0, 1) := by decide +kernel
theorem dX9_depthNow_70 : decode cX9_depthNow 70 = .ok (.isub, 1) := by decide +kernel
theorem dX9_depthNow_71 : decode cX9_depthNow 71 = .ok (.istore_n 1, 1) := by decide +kernel
theorem dX9_depthNow_72 : decode cX9_depthNow 72 = .ok (.iinc 2 1, 3) := by decide +kernel
theorem dX9_depthNow_75 : decode cX9_depthNow 75 = .ok (.goto (-66), 3) := by decide +kernel
theorem dX9_depthNow_78 : decode cX9_depthNow 78 = .ok (.iconst 0, 1) := by decide +kernel
theorem dX9_depthNow_79 : decode cX9_depthNow 79 = .ok (.iload_n 1, 1) := by decide +kernel
theorem dX9_depthNow_80 : decode cX9_depthNow 80 = .ok (.invokestatic 321, 3) := by decide +kernel
theorem dX9_depthNow_83 : decode cX9_depthNow 83 = .ok (.ireturn, 1) := by decide +kernel
def fX9_depthNow_78 (l1 : Int32) : mM Int32 := bRet (jMax (0 : Int32) l1)
set_option maxRecDepth 20000 in
theorem rX9_depthNow_78 (v : mE) (d : Nat) (l1 : Int32) : Rz v RX9 cX9_depthNow 3 (some .int) false emI (d + 1) 78 [(1, vI l1)] [] (fX9_depthNow_78 l1) := by
  unfold fX9_depthNow_78
  refine rz_iconst 79 dX9_depthNow_78 rfl ci_0 ?_
  refine rz_iload_n 80 0 dX9_depthNow_79 rfl rfl ?_
  refine rz_mmax 83 dX9_depthNow_80 rfl ml_X9_321 rfl rfl ?_
  exact rz_ireturn rfl rfl dX9_depthNow_83
def fX9_depthNow_70 (r9 : Nat → Int32 → Int32 → mM Int32) (l0 : Nat) (l2 : Int32) (s0 : Int32) (s1 : Int32) : mM Int32 := r9 l0 (s1 - s0) (l2 + 1)
set_option maxRecDepth 20000 in
theorem rX9_depthNow_70 (v : mE) (d : Nat) (r9 : Nat → Int32 → Int32 → mM Int32) (h9 : ∀ (y0 : Nat) (y1 : Int32) (y2 : Int32), Rz v RX9 cX9_depthNow 3 (some .int) false emI (d + 1) 9 [(0, vR y0), (1, vI y1), (2, vI y2)] [] (r9 y0 y1 y2)) (l0 : Nat) (l2 : Int32) (s0 : Int32) (s1 : Int32) : Rz v RX9 cX9_depthNow 3 (some .int) false emI (d + 1) 70 [(0, vR l0), (2, vI l2)] [vI s0, vI s1] (fX9_depthNow_70 r9 l0 l2 s0 s1) := by
  unfold fX9_depthNow_70
  refine rz_isub 71 dX9_depthNow_70 rfl ?_
  refine rz_istore_n (lv' := [(1, vI (s1 - s0)), (0, vR l0), (2, vI l2)]) 72 dX9_depthNow_71 rfl rfl rfl ?_
  refine rz_iinc (lv' := [(2, vI (l2 + 1)), (1, vI (s1 - s0)), (0, vR l0)]) 75 2 dX9_depthNow_72 rfl rfl (cn_1 _) rfl rfl ?_
  refine rz_goto 9 dX9_depthNow_75 rfl ?_
  exact rz_sub [2, 1, 0] rfl (h9 l0 (s1 - s0) (l2 + 1))
def fX9_depthNow_69 (r9 : Nat → Int32 → Int32 → mM Int32) (l0 : Nat) (l2 : Int32) (s0 : Int32) : mM Int32 := fX9_depthNow_70 r9 l0 l2 (0 : Int32) s0
set_option maxRecDepth 20000 in
theorem rX9_depthNow_69 (v : mE) (d : Nat) (r9 : Nat → Int32 → Int32 → mM Int32) (h9 : ∀ (y0 : Nat) (y1 : Int32) (y2 : Int32), Rz v RX9 cX9_depthNow 3 (some .int) false emI (d + 1) 9 [(0, vR y0), (1, vI y1), (2, vI y2)] [] (r9 y0 y1 y2)) (l0 : Nat) (l2 : Int32) (s0 : Int32) : Rz v RX9 cX9_depthNow 3 (some .int) false emI (d + 1) 69 [(0, vR l0), (2, vI l2)] [vI s0] (fX9_depthNow_69 r9 l0 l2 s0) := by
  unfold fX9_depthNow_69
  refine rz_iconst 70 dX9_depthNow_69 rfl ci_0 ?_
  exact rz_sub [0, 1] rfl (rX9_depthNow_70 v d r9 h9 l0 l2 (0 : Int32) s0)
def fX9_depthNow_9 : Nat → Nat → Int32 → Int32 → mM Int32
  | 0 => fun _ _ _ => fun _ => none
  | n + 1 => fun l0 l1 l2 => let r9 := fX9_depthNow_9 n; bGR 9 l0 24 (fun x1 => bAI 11 x1 (8 : Int32) (fun x2 => bIf (x2 ≤ l2) (fX9_depthNow_78 l1) (bGR 9 l0 24 (fun x3 => bAI 11 x3 ((25 : Int32) + l2) (fun x4 => bGR 9 l0 24 (fun x5 => bAI 11 x5 (5 : Int32) (fun x6 => bIf (x6 < x4) (fX9_depthNow_69 r9 l0 l2 l1) (bGR 9 l0 24 (fun x7 => bAI 11 x7 (5 : Int32) (fun x8 => bGR 9 l0 24 (fun x9 => bAI 11 x9 ((29 : Int32) + l2) (fun x10 => bIf (x10 < x8) (fX9_depthNow_69 r9 l0 l2 l1) (bGR 9 l0 24 (fun x11 => bAI 11 x11 ((33 : Int32) + l2) (fun x12 => fX9_depthNow_70 r9 l0 l2 x12 l1)))))))))))))))
theorem qX9_depthNow_9  (n : Nat) (l0 : Nat) (l1 : Int32) (l2 : Int32) : fX9_depthNow_9 (n + 1) l0 l1 l2 = bGR 9 l0 24 (fun x1 => bAI 11 x1 (8 : Int32) (fun x2 => bIf (x2 ≤ l2) (fX9_depthNow_78 l1) (bGR 9 l0 24 (fun x3 => bAI 11 x3 ((25 : Int32) + l2) (fun x4 => bGR 9 l0 24 (fun x5 => bAI 11 x5 (5 : Int32) (fun x6 => bIf (x6 < x4) (fX9_depthNow_69 (fX9_depthNow_9 n) l0 l2 l1) (bGR 9 l0 24 (fun x7 => bAI 11 x7 (5 : Int32) (fun x8 => bGR 9 l0 24 (fun x9 => bAI 11 x9 ((29 : Int32) + l2) (fun x10 => bIf (x10 < x8) (fX9_depthNow_69 (fX9_depthNow_9 n) l0 l2 l1) (bGR 9 l0 24 (fun x11 => bAI 11 x11 ((33 : Int32) + l2) (fun x12 => fX9_depthNow_70 (fX9_depthNow_9 n) l0 l2 x12 l1))))))))))))))) := rfl
set_option maxRecDepth 20000 in
theorem rX9_depthNow_9 (v : mE) (d : Nat) : ∀ (n : Nat) (l0 : Nat) (l1 : Int32) (l2 : Int32), Rz v RX9 cX9_depthNow 3 (some .int) false emI (d + 1) 9 [(0, vR l0), (1, vI l1), (2, vI l2)] [] (fX9_depthNow_9 n l0 l1 l2)
  | 0, _, _, _ => fun _ _ _ hm => by cases hm
  | n + 1, l0, l1, l2 => by
    have h9 := rX9_depthNow_9 v d n
    unfold fX9_depthNow_9
    generalize fX9_depthNow_9 n = r9 at h9 ⊢
    refine rz_iload_n 10 2 dX9_depthNow_9 rfl rfl ?_
    refine rz_aload_n 11 0 dX9_depthNow_10 rfl rfl ?_
    refine rz_gR 14 dX9_depthNow_11 rfl rfl fl_X9_35 (fun x1 => ?_)
    refine rz_bipush 16 dX9_depthNow_14 rfl cb_8 ?_
    refine rz_iald 17 dX9_depthNow_16 rfl (fun x2 => ?_)
    refine rz_icmp_ge 78 20 dX9_depthNow_17 rfl rfl ?_ ?_
    · exact rz_sub [1] rfl (rX9_depthNow_78 v d l1)
    · refine rz_iload_n 21 1 dX9_depthNow_20 rfl rfl ?_
      refine rz_aload_n 22 0 dX9_depthNow_21 rfl rfl ?_
      refine rz_gR 25 dX9_depthNow_22 rfl rfl fl_X9_35 (fun x3 => ?_)
      refine rz_bipush 27 dX9_depthNow_25 rfl cb_25 ?_
      refine rz_iload_n 28 2 dX9_depthNow_27 rfl rfl ?_
      refine rz_iadd 29 dX9_depthNow_28 rfl ?_
      refine rz_iald 30 dX9_depthNow_29 rfl (fun x4 => ?_)
      refine rz_aload_n 31 0 dX9_depthNow_30 rfl rfl ?_
      refine rz_gR 34 dX9_depthNow_31 rfl rfl fl_X9_35 (fun x5 => ?_)
      refine rz_iconst 35 dX9_depthNow_34 rfl ci_5 ?_
      refine rz_iald 36 dX9_depthNow_35 rfl (fun x6 => ?_)
      refine rz_icmp_gt 69 39 dX9_depthNow_36 rfl rfl ?_ ?_
      · exact rz_sub [0, 2] rfl (rX9_depthNow_69 v d r9 h9 l0 l2 l1)
      · refine rz_aload_n 40 0 dX9_depthNow_39 rfl rfl ?_
        refine rz_gR 43 dX9_depthNow_40 rfl rfl fl_X9_35 (fun x7 => ?_)
        refine rz_iconst 44 dX9_depthNow_43 rfl ci_5 ?_
        refine rz_iald 45 dX9_depthNow_44 rfl (fun x8 => ?_)
        refine rz_aload_n 46 0 dX9_depthNow_45 rfl rfl ?_
        refine rz_gR 49 dX9_depthNow_46 rfl rfl fl_X9_35 (fun x9 => ?_)
        refine rz_bipush 51 dX9_depthNow_49 rfl cb_29 ?_
        refine rz_iload_n 52 2 dX9_depthNow_51 rfl rfl ?_
        refine rz_iadd 53 dX9_depthNow_52 rfl ?_
        refine rz_iald 54 dX9_depthNow_53 rfl (fun x10 => ?_)
        refine rz_icmp_gt 69 57 dX9_depthNow_54 rfl rfl ?_ ?_
        · exact rz_sub [0, 2] rfl (rX9_depthNow_69 v d r9 h9 l0 l2 l1)
        · refine rz_aload_n 58 0 dX9_depthNow_57 rfl rfl ?_
          refine rz_gR 61 dX9_depthNow_58 rfl rfl fl_X9_35 (fun x11 => ?_)
          refine rz_bipush 63 dX9_depthNow_61 rfl cb_33 ?_
          refine rz_iload_n 64 2 dX9_depthNow_63 rfl rfl ?_
          refine rz_iadd 65 dX9_depthNow_64 rfl ?_
          refine rz_iald 66 dX9_depthNow_65 rfl (fun x12 => ?_)
          refine rz_goto 70 dX9_depthNow_66 rfl ?_
          exact rz_sub [0, 2] rfl (rX9_depthNow_70 v d r9 h9 l0 l2 x12 l1)
def fX9_depthNow (l0 : Nat) : mM Int32 := bGR 9 l0 24 (fun x1 => bAI 11 x1 (0 : Int32) (fun x2 => fX9_depthNow_9 fu l0 x2 (0 : Int32)))
set_option maxRecDepth 20000 in
theorem rX9_depthNow (v : mE) (d : Nat) (l0 : Nat) : Rz v RX9 cX9_depthNow 3 (some .int) false emI (d + 1) 0 [(0, vR l0)] [] (fX9_depthNow l0) := by
  unfold fX9_depthNow
  refine rz_aload_n 1 0 dX9_depthNow_0 rfl rfl ?_
  refine rz_gR 4 dX9_depthNow_1 rfl rfl fl_X9_35 (fun x1 => ?_)
  refine rz_iconst 5 dX9_depthNow_4 rfl ci_0 ?_
  refine rz_iald 6 dX9_depthNow_5 rfl (fun x2 => ?_)
  refine rz_istore_n (lv' := [(1, vI x2), (0, vR l0)]) 7 dX9_depthNow_6 rfl rfl rfl ?_
  refine rz_iconst 8 dX9_depthNow_7 rfl ci_0 ?_
  refine rz_istore_n (lv' := [(2, vI (0 : Int32)), (1, vI x2), (0, vR l0)]) 9 dX9_depthNow_8 rfl rfl rfl ?_
  exact rz_sub [2, 1, 0] rfl (rX9_depthNow_9 v d fu l0 x2 (0 : Int32))
theorem tX9_depthNow (v : mE) (d : Nat) (l0 : Nat) : Mt v yX9_depthNow cX9_depthNow 3 (some .int) emI (d + 1) [vR l0] (fX9_depthNow l0) := mt_of rfl rfl (fun h => by cases h) rfl rfl (rX9_depthNow v d l0)
theorem dX9_isDry_0 : decode cX9_isDry 0 = .ok (.aload_n 0, 1) := by decide +kernel
theorem dX9_isDry_1 : decode cX9_isDry 1 = .ok (.invokevirtual 324, 3) := by decide +kernel
theorem dX9_isDry_4 : decode cX9_isDry 4 = .ok (.aload_n 0, 1) := by decide +kernel
theorem dX9_isDry_5 : decode cX9_isDry 5 = .ok (.getfield 35, 3) := by decide +kernel
theorem dX9_isDry_8 : decode cX9_isDry 8 = .ok (.iconst 1, 1) := by decide +kernel
theorem dX9_isDry_9 : decode cX9_isDry 9 = .ok (.iaload, 1) := by decide +kernel
theorem dX9_isDry_10 : decode cX9_isDry 10 = .ok (.if_icmp .le 7, 3) := by decide +kernel
theorem dX9_isDry_13 : decode cX9_isDry 13 = .ok (.iconst 1, 1) := by decide +kernel
theorem dX9_isDry_14 : decode cX9_isDry 14 = .ok (.goto 4, 3) := by decide +kernel
theorem dX9_isDry_17 : decode cX9_isDry 17 = .ok (.iconst 0, 1) := by decide +kernel
theorem dX9_isDry_18 : decode cX9_isDry 18 = .ok (.ireturn, 1) := by decide +kernel
def fX9_isDry (l0 : Nat) : mM Int32 := bCallV 9 l0 (fX9_depthNow l0) (fun x1 => bGR 9 l0 24 (fun x2 => bAI 11 x2 (1 : Int32) (fun x3 => bIf (x1 ≤ x3) (bRetZ (0 : Int32)) (bRetZ (1 : Int32)))))
set_option maxRecDepth 20000 in
theorem rX9_isDry (v : mE) (d : Nat) (l0 : Nat) : Rz v RX9 cX9_isDry 1 (some .boolean) false emI (d + 2) 0 [(0, vR l0)] [] (fX9_isDry l0) := by
  unfold fX9_isDry
  refine rz_aload_n 1 0 dX9_isDry_0 rfl rfl ?_
  refine rz_callV 4 dX9_isDry_1 rfl (tX9_depthNow v (d + 0) l0) rfl rfl rfl rfl ml_X9_324 im_X9_depthNow se_X9_X9_depthNow in_X9 co_X9_depthNow rfl rfl (fun x1 => ?_)
  refine rz_aload_n 5 0 dX9_isDry_4 rfl rfl ?_
  refine rz_gR 8 dX9_isDry_5 rfl rfl fl_X9_35 (fun x2 => ?_)
  refine rz_iconst 9 dX9_isDry_8 rfl ci_1 ?_
  refine rz_iald 10 dX9_isDry_9 rfl (fun x3 => ?_)
  refine rz_icmp_le 17 13 dX9_isDry_10 rfl rfl ?_ ?_
  · refine rz_iconst 18 dX9_isDry_17 rfl ci_0 ?_
    exact rz_zreturn rfl rfl dX9_isDry_18
  · refine rz_iconst 14 dX9_isDry_13 rfl ci_1 ?_
    refine rz_goto 18 dX9_isDry_14 rfl ?_
    exact rz_zreturn rfl rfl dX9_isDry_18
theorem tX9_isDry (v : mE) (d : Nat) (l0 : Nat) : Mt v yX9_isDry cX9_isDry 1 (some .boolean) emI (d + 2) [vR l0] (fX9_isDry l0) := mt_of rfl rfl (fun h => by cases h) rfl rfl (rX9_isDry v d l0)
theorem dX9_yardsOfRope_0 : decode cX9_yardsOfRope 0 = .ok (.iconst 0, 1) := by decide +kernel
theorem dX9_yardsOfRope_1 : decode cX9_yardsOfRope 1 = .ok (.istore_n 2, 1) := by decide +kernel
theorem dX9_yardsOfRope_2 : decode cX9_yardsOfRope 2 = .ok (.iconst 0, 1) := by decide +kernel
theorem dX9_yardsOfRope_3 : decode cX9_yardsOfRope 3 = .ok (.istore_n 3, 1) := by decide +kernel
theorem dX9_yardsOfRope_4 : decode cX9_yardsOfRope 4 = .ok (.iload_n 3, 1) := by decide +kernel
theorem dX9_yardsOfRope_5 : decode cX9_yardsOfRope 5 = .ok (.aload_n 0, 1) := by decide +kernel
theorem dX9_yardsOfRope_6 : decode cX9_yardsOfRope 6 = .ok (.getfield 35, 3) := by decide +kernel
theorem dX9_yardsOfRope_9 : decode cX9_yardsOfRope 9 = .ok (.bipush 85, 2) := by decide +kernel
theorem dX9_yardsOfRope_11 : decode cX9_yardsOfRope 11 = .ok (.iload_n 1, 1) := by decide +kernel
theorem dX9_yardsOfRope_12 : decode cX9_yardsOfRope 12 = .ok (.iadd, 1) := by decide +kernel
theorem dX9_yardsOfRope_13 : decode cX9_yardsOfRope 13 = .ok (.iaload, 1) := by decide +kernel
theorem dX9_yardsOfRope_14 : decode cX9_yardsOfRope 14 = .ok (.if_icmp .ge 26, 3) := by decide +kernel
theorem dX9_yardsOfRope_17 : decode cX9_yardsOfRope 17 = .ok (.iload_n 2, 1) := by decide +kernel
theorem dX9_yardsOfRope_18 : decode cX9_yardsOfRope 18 = .ok (.aload_n 0, 1) := by decide +kernel
theorem dX9_yardsOfRope_19 : decode cX9_yardsOfRope 19 = .ok (.getfield 35, 3) := by decide +kernel
theorem dX9_yardsOfRope_22 : decode cX9_yardsOfRope 22 = .ok (.bipush 97, 2) := by decide +kernel
theorem dX9_yardsOfRope_24 : decode cX9_yardsOfRope 24 = .ok (.bipush 8, 2) := by decide +kernel
theorem dX9_yardsOfRope_26 : decode cX9_yardsOfRope 26 = .ok (.iload_n 1, 1) := by decide +kernel
theorem dX9_yardsOfRope_27 : decode cX9_yardsOfRope 27 = .ok (.imul, 1) := by decide +kernel
theorem dX9_yardsOfRope_28 : decode cX9_yardsOfRope 28 = .ok (.iadd, 1) := by decide +kernel
theorem dX9_yardsOfRope_29 : decode cX9_yardsOfRope 29 = .ok (.iload_n 3, 1) := by decide +kernel
theorem dX9_yardsOfRope_30 : decode cX9_yardsOfRope 30 = .ok (.iadd, 1) := by decide +kernel
theorem dX9_yardsOfRope_31 : decode cX9_yardsOfRope 31 = .ok (.iaload, 1) := by decide +kernel
theorem dX9_yardsOfRope_32 : decode cX9_yardsOfRope 32 = .ok (.iadd, 1) := by decide +kernel
theorem dX9_yardsOfRope_33 : decode cX9_yardsOfRope 33 = .ok (.istore_n 2, 1) := by decide +kernel
theorem dX9_yardsOfRope_34 : decode cX9_yardsOfRope 34 = .ok (.iinc 3 1, 3) := by decide +kernel
theorem dX9_yardsOfRope_37 : decode cX9_yardsOfRope 37 = .ok (.goto (-33), 3) := by decide +kernel
theorem dX9_yardsOfRope_40 : decode cX9_yardsOfRope 40 = .ok (.iload_n 2, 1) := by decide +kernel
theorem dX9_yardsOfRope_41 : decode cX9_yardsOfRope 41 = .ok (.ireturn, 1) := by decide +kernel
def fX9_yardsOfRope_4 : Nat → Nat → Int32 → Int32 → Int32 → mM Int32
  | 0 => fun _ _ _ _ => fun _ => none
  | n + 1 => fun l0 l1 l2 l3 => let r4 := fX9_yardsOfRope_4 n; bGR 9 l0 24 (fun x1 => bAI 11 x1 ((85 : Int32) + l1) (fun x2 => bIf (x2 ≤ l3) (bRet l2) (bGR 9 l0 24 (fun x3 => bAI 11 x3 (((97 : Int32) + ((8 : Int32) * l1)) + l3) (fun x4 => r4 l0 l1 (l2 + x4) (l3 + 1))))))
theorem qX9_yardsOfRope_4  (n : Nat) (l0 : Nat) (l1 : Int32) (l2 : Int32) (l3 : Int32) : fX9_yardsOfRope_4 (n + 1) l0 l1 l2 l3 = bGR 9 l0 24 (fun x1 => bAI 11 x1 ((85 : Int32) + l1) (fun x2 => bIf (x2 ≤ l3) (bRet l2) (bGR 9 l0 24 (fun x3 => bAI 11 x3 (((97 : Int32) + ((8 : Int32) * l1)) + l3) (fun x4 => (fX9_yardsOfRope_4 n) l0 l1 (l2 + x4) (l3 + 1)))))) := rfl
set_option maxRecDepth 20000 in
theorem rX9_yardsOfRope_4 (v : mE) (d : Nat) : ∀ (n : Nat) (l0 : Nat) (l1 : Int32) (l2 : Int32) (l3 : Int32), Rz v RX9 cX9_yardsOfRope 4 (some .int) false emI (d + 0) 4 [(0, vR l0), (1, vI l1), (2, vI l2), (3, vI l3)] [] (fX9_yardsOfRope_4 n l0 l1 l2 l3)
  | 0, _, _, _, _ => fun _ _ _ hm => by cases hm
  | n + 1, l0, l1, l2, l3 => by
    have h4 := rX9_yardsOfRope_4 v d n
    unfold fX9_yardsOfRope_4
    generalize fX9_yardsOfRope_4 n = r4 at h4 ⊢
    refine rz_iload_n 5 3 dX9_yardsOfRope_4 rfl rfl ?_
    refine rz_aload_n 6 0 dX9_yardsOfRope_5 rfl rfl ?_
    refine rz_gR 9 dX9_yardsOfRope_6 rfl rfl fl_X9_35 (fun x1 => ?_)
    refine rz_bipush 11 dX9_yardsOfRope_9 rfl cb_85 ?_
    refine rz_iload_n 12 1 dX9_yardsOfRope_11 rfl rfl ?_
    refine rz_iadd 13 dX9_yardsOfRope_12 rfl ?_
    refine rz_iald 14 dX9_yardsOfRope_13 rfl (fun x2 => ?_)
    refine rz_icmp_ge 40 17 dX9_yardsOfRope_14 rfl rfl ?_ ?_
    · refine rz_iload_n 41 2 dX9_yardsOfRope_40 rfl rfl ?_
      exact rz_ireturn rfl rfl dX9_yardsOfRope_41
    · refine rz_iload_n 18 2 dX9_yardsOfRope_17 rfl rfl ?_
      refine rz_aload_n 19 0 dX9_yardsOfRope_18 rfl rfl ?_
      refine rz_gR 22 dX9_yardsOfRope_19 rfl rfl fl_X9_35 (fun x3 => ?_)
      refine rz_bipush 24 dX9_yardsOfRope_22 rfl cb_97 ?_
      refine rz_bipush 26 dX9_yardsOfRope_24 rfl cb_8 ?_
      refine rz_iload_n 27 1 dX9_yardsOfRope_26 rfl rfl ?_
      refine rz_imul 28 dX9_yardsOfRope_27 rfl ?_
      refine rz_iadd 29 dX9_yardsOfRope_28 rfl ?_
      refine rz_iload_n 30 3 dX9_yardsOfRope_29 rfl rfl ?_
      refine rz_iadd 31 dX9_yardsOfRope_30 rfl ?_
      refine rz_iald 32 dX9_yardsOfRope_31 rfl (fun x4 => ?_)
      refine rz_iadd 33 dX9_yardsOfRope_32 rfl ?_
      refine rz_istore_n (lv' := [(2, vI (l2 + x4)), (0, vR l0), (1, vI l1), (3, vI l3)]) 34 dX9_yardsOfRope_33 rfl rfl rfl ?_
      refine rz_iinc (lv' := [(3, vI (l3 + 1)), (2, vI (l2 + x4)), (0, vR l0), (1, vI l1)]) 37 3 dX9_yardsOfRope_34 rfl rfl (cn_1 _) rfl rfl ?_
      refine rz_goto 4 dX9_yardsOfRope_37 rfl ?_
      exact rz_sub [2, 3, 1, 0] rfl (h4 l0 l1 (l2 + x4) (l3 + 1))
def fX9_yardsOfRope (l0 : Nat) (l1 : Int32) : mM Int32 := fX9_yardsOfRope_4 fu l0 l1 (0 : Int32) (0 : Int32)
set_option maxRecDepth 20000 in
theorem rX9_yardsOfRope (v : mE) (d : Nat) (l0 : Nat) (l1 : Int32) : Rz v RX9 cX9_yardsOfRope 4 (some .int) false emI (d + 0) 0 [(0, vR l0), (1, vI l1)] [] (fX9_yardsOfRope l0 l1) := by
  unfold fX9_yardsOfRope
  refine rz_iconst 1 dX9_yardsOfRope_0 rfl ci_0 ?_
  refine rz_istore_n (lv' := [(2, vI (0 : Int32)), (0, vR l0), (1, vI l1)]) 2 dX9_yardsOfRope_1 rfl rfl rfl ?_
  refine rz_iconst 3 dX9_yardsOfRope_2 rfl ci_0 ?_
  refine rz_istore_n (lv' := [(3, vI (0 : Int32)), (2, vI (0 : Int32)), (0, vR l0), (1, vI l1)]) 4 dX9_yardsOfRope_3 rfl rfl rfl ?_
  exact rz_sub [2, 3, 1, 0] rfl (rX9_yardsOfRope_4 v d fu l0 l1 (0 : Int32) (0 : Int32))
theorem tX9_yardsOfRope (v : mE) (d : Nat) (l0 : Nat) (l1 : Int32) : Mt v yX9_yardsOfRope cX9_yardsOfRope 4 (some .int) emI (d + 0) [vR l0, vI l1] (fX9_yardsOfRope l0 l1) := mt_of rfl rfl (fun h => by cases h) rfl rfl (rX9_yardsOfRope v d l0 l1)
theorem dX9_knotsOfRope_0 : decode cX9_knotsOfRope 0 = .ok (.aload_n 0, 1) := by decide +kernel
theorem dX9_knotsOfRope_1 : decode cX9_knotsOfRope 1 = .ok (.getfield 35, 3) := by decide +kernel
theorem dX9_knotsOfRope_4 : decode cX9_knotsOfRope 4 = .ok (.bipush 85, 2) := by decide +kernel
theorem dX9_knotsOfRope_6 : decode cX9_knotsOfRope 6 = .ok (.iload_n 1, 1) := by decide +kernel
theorem dX9_knotsOfRope_7 : decode cX9_knotsOfRope 7 = .ok (.iadd, 1) := by decide +kernel
theorem dX9_knotsOfRope_8 : decode cX9_knotsOfRope 8 = .ok (.iaload, 1) := by decide +kernel
theorem dX9_knotsOfRope_9 : decode cX9_knotsOfRope 9 = .ok (.iconst 1, 1) := by decide +kernel
theorem dX9_knotsOfRope_10 : decode cX9_knotsOfRope 10 = .ok (.isub, 1) := by decide +kernel
theorem dX9_knotsOfRope_11 : decode cX9_knotsOfRope 11 = .ok (.ireturn, 1) := by decide +kernel
def fX9_knotsOfRope (l0 : Nat) (l1 : Int32) : mM Int32 := bGR 9 l0 24 (fun x1 => bAI 11 x1 ((85 : Int32) + l1) (fun x2 => bRet (x2 - (1 : Int32))))
set_option maxRecDepth 20000 in
theorem rX9_knotsOfRope (v : mE) (d : Nat) (l0 : Nat) (l1 : Int32) : Rz v RX9 cX9_knotsOfRope 2 (some .int) false emI (d + 0) 0 [(0, vR l0), (1, vI l1)] [] (fX9_knotsOfRope l0 l1) := by
  unfold fX9_knotsOfRope
  refine rz_aload_n 1 0 dX9_knotsOfRope_0 rfl rfl ?_
  refine rz_gR 4 dX9_knotsOfRope_1 rfl rfl fl_X9_35 (fun x1 => ?_)
  refine rz_bipush 6 dX9_knotsOfRope_4 rfl cb_85 ?_
  refine rz_iload_n 7 1 dX9_knotsOfRope_6 rfl rfl ?_
  refine rz_iadd 8 dX9_knotsOfRope_7 rfl ?_
  refine rz_iald 9 dX9_knotsOfRope_8 rfl (fun x2 => ?_)
  refine rz_iconst 10 dX9_knotsOfRope_9 rfl ci_1 ?_
  refine rz_isub 11 dX9_knotsOfRope_10 rfl ?_
  exact rz_ireturn rfl rfl dX9_knotsOfRope_11
theorem tX9_knotsOfRope (v : mE) (d : Nat) (l0 : Nat) (l1 : Int32) : Mt v yX9_knotsOfRope cX9_knotsOfRope 2 (some .int) emI (d + 0) [vR l0, vI l1] (fX9_knotsOfRope l0 l1) := mt_of rfl rfl (fun h => by cases h) rfl rfl (rX9_knotsOfRope v d l0 l1)
theorem dX9_reachOf_0 : decode cX9_reachOf 0 = .ok (.aload_n 0, 1) := by decide +kernel
theorem dX9_reachOf_1 : decode cX9_reachOf 1 = .ok (.iload_n 1, 1) := by decide +kernel
theorem dX9_reachOf_2 : decode cX9_reachOf 2 = .ok (.invokevirtual 327, 3) := by decide +kernel
theorem dX9_reachOf_5 : decode cX9_reachOf 5 = .ok (.aload_n 0, 1) := by decide +kernel
theorem dX9_reachOf_6 : decode cX9_reachOf 6 = .ok (.iload_n 1, 1) := by decide +kernel
theorem dX9_reachOf_7 : decode cX9_reachOf 7 = .ok (.invokevirtual 330, 3) := by decide +kernel
theorem dX9_reachOf_10 : decode cX9_reachOf 10 = .ok (.isub, 1) := by decide +kernel
theorem dX9_reachOf_11 : decode cX9_reachOf 11 = .ok (.ireturn, 1) := by decide +kernel
def fX9_reachOf (l0 : Nat) (l1 : Int32) : mM Int32 := bCallV 9 l0 (fX9_yardsOfRope l0 l1) (fun x1 => bCallV 9 l0 (fX9_knotsOfRope l0 l1) (fun x2 => bRet (x1 - x2)))
set_option maxRecDepth 20000 in
theorem rX9_reachOf (v : mE) (d : Nat) (l0 : Nat) (l1 : Int32) : Rz v RX9 cX9_reachOf 2 (some .int) false emI (d + 1) 0 [(0, vR l0), (1, vI l1)] [] (fX9_reachOf l0 l1) := by
  unfold fX9_reachOf
  refine rz_aload_n 1 0 dX9_reachOf_0 rfl rfl ?_
  refine rz_iload_n 2 1 dX9_reachOf_1 rfl rfl ?_
  refine rz_callV 5 dX9_reachOf_2 rfl (tX9_yardsOfRope v (d + 0) l0 l1) rfl rfl rfl rfl ml_X9_327 im_X9_yardsOfRope se_X9_X9_yardsOfRope in_X9 co_X9_yardsOfRope rfl rfl (fun x1 => ?_)
  refine rz_aload_n 6 0 dX9_reachOf_5 rfl rfl ?_
  refine rz_iload_n 7 1 dX9_reachOf_6 rfl rfl ?_
  refine rz_callV 10 dX9_reachOf_7 rfl (tX9_knotsOfRope v (d + 0) l0 l1) rfl rfl rfl rfl ml_X9_330 im_X9_knotsOfRope se_X9_X9_knotsOfRope in_X9 co_X9_knotsOfRope rfl rfl (fun x2 => ?_)
  refine rz_isub 11 dX9_reachOf_10 rfl ?_
  exact rz_ireturn rfl rfl dX9_reachOf_11
theorem tX9_reachOf (v : mE) (d : Nat) (l0 : Nat) (l1 : Int32) : Mt v yX9_reachOf cX9_reachOf 2 (some .int) emI (d + 1) [vR l0, vI l1] (fX9_reachOf l0 l1) := mt_of rfl rfl (fun h => by cases h) rfl rfl (rX9_reachOf v d l0 l1)
theorem dX9_ageOf_0 : decode cX9_ageOf 0 = .ok (.aload_n 0, 1) := by decide +kernel
theorem dX9_ageOf_1 : decode cX9_ageOf 1 = .ok (.getfield 35, 3) := by decide +kernel
theorem dX9_ageOf_4 : decode cX9_ageOf 4 = .ok (.sipush 193, 3) := by decide +kernel
theorem dX9_ageOf_7 : decode cX9_ageOf 7 = .ok (.bipush 8, 2) := by decide +kernel
theorem dX9_ageOf_9 : decode cX9_ageOf 9 = .ok (.iload_n 1, 1) := by decide +kernel
theorem dX9_ageOf_10 : decode cX9_ageOf 10 = .ok (.imul, 1) := by decide +kernel
theorem dX9_ageOf_11 : decode cX9_ageOf 11 = .ok (.iadd, 1) := by decide +kernel
theorem dX9_ageOf_12 : decode cX9_ageOf 12 = .ok (.iload_n 2, 1) := by decide +kernel
theorem dX9_ageOf_13 : decode cX9_ageOf 13 = .ok (.iadd, 1) := by decide +kernel
theorem dX9_ageOf_14 : decode cX9_ageOf 14 = .ok (.iaload, 1) := by decide +kernel
theorem dX9_ageOf_15 : decode cX9_ageOf 15 = .ok (.aload_n 0, 1) := by decide +kernel
theorem dX9_ageOf_16 : decode cX9_ageOf 16 = .ok (.getfield 35, 3) := by decide +kernel
theorem dX9_ageOf_19 : decode cX9_ageOf 19 = .ok (.iconst 5, 1) := by decide +kernel
theorem dX9_ageOf_20 : decode cX9_ageOf 20 = .ok (.iaload, 1) := by decide +kernel
theorem dX9_ageOf_21 : decode cX9_ageOf 21 = .ok (.iadd, 1) := by decide +kernel
theorem dX9_ageOf_22 : decode cX9_ageOf 22 = .ok (.ireturn, 1) := by decide +kernel
def fX9_ageOf (l0 : Nat) (l1 : Int32) (l2 : Int32) : mM Int32 := bGR 9 l0 24 (fun x1 => bAI 11 x1 (((193 : Int32) + ((8 : Int32) * l1)) + l2) (fun x2 => bGR 9 l0 24 (fun x3 => bAI 11 x3 (5 : Int32) (fun x4 => bRet (x2 + x4)))))
set_option maxRecDepth 20000 in
theorem rX9_ageOf (v : mE) (d : Nat) (l0 : Nat) (l1 : Int32) (l2 : Int32) : Rz v RX9 cX9_ageOf 3 (some .int) false emI (d + 0) 0 [(0, vR l0), (1, vI l1), (2, vI l2)] [] (fX9_ageOf l0 l1 l2) := by
  unfold fX9_ageOf
  refine rz_aload_n 1 0 dX9_ageOf_0 rfl rfl ?_
  refine rz_gR 4 dX9_ageOf_1 rfl rfl fl_X9_35 (fun x1 => ?_)
  refine rz_sipush 7 dX9_ageOf_4 rfl cs_193 ?_
  refine rz_bipush 9 dX9_ageOf_7 rfl cb_8 ?_
  refine rz_iload_n 10 1 dX9_ageOf_9 rfl rfl ?_
  refine rz_imul 11 dX9_ageOf_10 rfl ?_
  refine rz_iadd 12 dX9_ageOf_11 rfl ?_
  refine rz_iload_n 13 2 dX9_ageOf_12 rfl rfl ?_
  refine rz_iadd 14 dX9_ageOf_13 rfl ?_
  refine rz_iald 15 dX9_ageOf_14 rfl (fun x2 => ?_)
  refine rz_aload_n 16 0 dX9_ageOf_15 rfl rfl ?_
  refine rz_gR 19 dX9_ageOf_16 rfl rfl fl_X9_35 (fun x3 => ?_)
  refine rz_iconst 20 dX9_ageOf_19 rfl ci_5 ?_
  refine rz_iald 21 dX9_ageOf_20 rfl (fun x4 => ?_)
  refine rz_iadd 22 dX9_ageOf_21 rfl ?_
  exact rz_ireturn rfl rfl dX9_ageOf_22
theorem tX9_ageOf (v : mE) (d : Nat) (l0 : Nat) (l1 : Int32) (l2 : Int32) : Mt v yX9_ageOf cX9_ageOf 3 (some .int) emI (d + 0) [vR l0, vI l1, vI l2] (fX9_ageOf l0 l1 l2) := mt_of rfl rfl (fun h => by cases h) rfl rfl (rX9_ageOf v d l0 l1 l2)
theorem dX9_oldest_0 : decode cX9_oldest 0 = .ok (.iconst 0, 1) := by decide +kernel
theorem dX9_oldest_1 : decode cX9_oldest 1 = .ok (.istore_n 2, 1) := by decide +kernel
theorem dX9_oldest_2 : decode cX9_oldest 2 = .ok (.iconst 0, 1) := by decide +kernel
theorem dX9_oldest_3 : decode cX9_oldest 3 = .ok (.istore_n 3, 1) := by decide +kernel
theorem dX9_oldest_4 : decode cX9_oldest 4 = .ok (.iload_n 3, 1) := by decide +kernel
theorem dX9_oldest_5 : decode cX9_oldest 5 = .ok (.aload_n 0, 1) := by decide +kernel
theorem dX9_oldest_6 : decode cX9_oldest 6 = .ok (.getfield 35, 3) := by decide +kernel
theorem dX9_oldest_9 : decode cX9_oldest 9 = .ok (.bipush 85, 2) := by decide +kernel
theorem dX9_oldest_11 : decode cX9_oldest 11 = .ok (.iload_n 1, 1) := by decide +kernel
theorem dX9_oldest_12 : decode cX9_oldest 12 = .ok (.iadd, 1) := by decide +kernel
theorem dX9_oldest_13 : decode cX9_oldest 13 = .ok (.iaload, 1) := by decide +kernel
theorem dX9_oldest_14 : decode cX9_oldest 14 = .ok (.if_icmp .ge 20, 3) := by decide +kernel
theorem dX9_oldest_17 : decode cX9_oldest 17 = .ok (.iload_n 2, 1) := by decide +kernel
theorem dX9_oldest_18 : decode cX9_oldest 18 = .ok (.aload_n 0, 1) := by decide +kernel
theorem dX9_oldest_19 : decode cX9_oldest 19 = .ok (.iload_n 1, 1) := by decide +kernel
theorem dX9_oldest_20 : decode cX9_oldest 20 = .ok (.iload_n 3, 1) := by decide +kernel
theorem dX9_oldest_21 : decode cX9_oldest 21 = .ok (.invokevirtual 333, 3) := by decide +kernel
theorem dX9_oldest_24 : decode cX9_oldest 24 = .ok (.invokestatic 321, 3) := by decide +kernel
theorem dX9_oldest_27 : decode cX9_oldest 27 = .ok (.istore_n 2, 1) := by decide +kernel
theorem dX9_oldest_28 : decode cX9_oldest 28 = .ok (.iinc 3 1, 3) := by decide +kernel
theorem dX9_oldest_31 : decode cX9_oldest 31 = .ok (.goto (-27), 3) := by decide +kernel
theorem dX9_oldest_34 : decode cX9_oldest 34 = .ok (.iload_n 2, 1) := by decide +kernel
theorem dX9_oldest_35 : decode cX9_oldest 35 = .ok (.ireturn, 1) := by decide +kernel
def fX9_oldest_4 : Nat → Nat → Int32 → Int32 → Int32 → mM Int32
  | 0 => fun _ _ _ _ => fun _ => none
  | n + 1 => fun l0 l1 l2 l3 => let r4 := fX9_oldest_4 n; bGR 9 l0 24 (fun x1 => bAI 11 x1 ((85 : Int32) + l1) (fun x2 => bIf (x2 ≤ l3) (bRet l2) (bCallV 9 l0 (fX9_ageOf l0 l1 l3) (fun x3 => r4 l0 l1 (jMax l2 x3) (l3 + 1)))))
theorem qX9_oldest_4  (n : Nat) (l0 : Nat) (l1 : Int32) (l2 : Int32) (l3 : Int32) : fX9_oldest_4 (n + 1) l0 l1 l2 l3 = bGR 9 l0 24 (fun x1 => bAI 11 x1 ((85 : Int32) + l1) (fun x2 => bIf (x2 ≤ l3) (bRet l2) (bCallV 9 l0 (fX9_ageOf l0 l1 l3) (fun x3 => (fX9_oldest_4 n) l0 l1 (jMax l2 x3) (l3 + 1))))) := rfl
set_option maxRecDepth 20000 in
theorem rX9_oldest_4 (v : mE) (d : Nat) : ∀ (n : Nat) (l0 : Nat) (l1 : Int32) (l2 : Int32) (l3 : Int32), Rz v RX9 cX9_oldest 4 (some .int) false emI (d + 1) 4 [(0, vR l0), (1, vI l1), (2, vI l2), (3, vI l3)] [] (fX9_oldest_4 n l0 l1 l2 l3)
  | 0, _, _, _, _ => fun _ _ _ hm => by cases hm
  | n + 1, l0, l1, l2, l3 => by
    have h4 := rX9_oldest_4 v d n
    unfold fX9_oldest_4
    generalize fX9_oldest_4 n = r4 at h4 ⊢
    refine rz_iload_n 5 3 dX9_oldest_4 rfl rfl ?_
    refine rz_aload_n 6 0 dX9_oldest_5 rfl rfl ?_
    refine rz_gR 9 dX9_oldest_6 rfl rfl fl_X9_35 (fun x1 => ?_)
    refine rz_bipush 11 dX9_oldest_9 rfl cb_85 ?_
    refine rz_iload_n 12 1 dX9_oldest_11 rfl rfl ?_
    refine rz_iadd 13 dX9_oldest_12 rfl ?_
    refine rz_iald 14 dX9_oldest_13 rfl (fun x2 => ?_)
    refine rz_icmp_ge 34 17 dX9_oldest_14 rfl rfl ?_ ?_
    · refine rz_iload_n 35 2 dX9_oldest_34 rfl rfl ?_
      exact rz_ireturn rfl rfl dX9_oldest_35
    · refine rz_iload_n 18 2 dX9_oldest_17 rfl rfl ?_
      refine rz_aload_n 19 0 dX9_oldest_18 rfl rfl ?_
      refine rz_iload_n 20 1 dX9_oldest_19 rfl rfl ?_
      refine rz_iload_n 21 3 dX9_oldest_20 rfl rfl ?_
      refine rz_callV 24 dX9_oldest_21 rfl (tX9_ageOf v (d + 0) l0 l1 l3) rfl rfl rfl rfl ml_X9_333 im_X9_ageOf se_X9_X9_ageOf in_X9 co_X9_ageOf rfl rfl (fun x3 => ?_)
      refine rz_mmax 27 dX9_oldest_24 rfl ml_X9_321 rfl rfl ?_
      refine rz_istore_n (lv' := [(2, vI (jMax l2 x3)), (0, vR l0), (1, vI l1), (3, vI l3)]) 28 dX9_oldest_27 rfl rfl rfl ?_
      refine rz_iinc (lv' := [(3, vI (l3 + 1)), (2, vI (jMax l2 x3)), (0, vR l0), (1, vI l1)]) 31 3 dX9_oldest_28 rfl rfl (cn_1 _) rfl rfl ?_
      refine rz_goto 4 dX9_oldest_31 rfl ?_
      exact rz_sub [2, 3, 1, 0] rfl (h4 l0 l1 (jMax l2 x3) (l3 + 1))
def fX9_oldest (l0 : Nat) (l1 : Int32) : mM Int32 := fX9_oldest_4 fu l0 l1 (0 : Int32) (0 : Int32)
set_option maxRecDepth 20000 in
theorem rX9_oldest (v : mE) (d : Nat) (l0 : Nat) (l1 : Int32) : Rz v RX9 cX9_oldest 4 (some .int) false emI (d + 1) 0 [(0, vR l0), (1, vI l1)] [] (fX9_oldest l0 l1) := by
  unfold fX9_oldest
  refine rz_iconst 1 dX9_oldest_0 rfl ci_0 ?_
  refine rz_istore_n (lv' := [(2, vI (0 : Int32)), (0, vR l0), (1, vI l1)]) 2 dX9_oldest_1 rfl rfl rfl ?_
  refine rz_iconst 3 dX9_oldest_2 rfl ci_0 ?_
  refine rz_istore_n (lv' := [(3, vI (0 : Int32)), (2, vI (0 : Int32)), (0, vR l0), (1, vI l1)]) 4 dX9_oldest_3 rfl rfl rfl ?_
  exact rz_sub [2, 3, 1, 0] rfl (rX9_oldest_4 v d fu l0 l1 (0 : Int32) (0 : Int32))
theorem tX9_oldest (v : mE) (d : Nat) (l0 : Nat) (l1 : Int32) : Mt v yX9_oldest cX9_oldest 4 (some .int) emI (d + 1) [vR l0, vI l1] (fX9_oldest l0 l1) := mt_of rfl rfl (fun h => by cases h) rfl rfl (rX9_oldest v d l0 l1)
theorem dX9_isHeld_0 : decode cX9_isHeld 0 = .ok (.aload_n 0, 1) := by decide +kernel
theorem dX9_isHeld_1 : decode cX9_isHeld 1 = .ok (.iload_n 1, 1) := by decide +kernel
theorem dX9_isHeld_2 : decode cX9_isHeld 2 = .ok (.invokevirtual 318, 3) := by decide +kernel
theorem dX9_isHeld_5 : decode cX9_isHeld 5 = .ok (.ifCond .eq 45, 3) := by decide +kernel
theorem dX9_isHeld_8 : decode cX9_isHeld 8 = .ok (.aload_n 0, 1) := by decide +kernel
theorem dX9_isHeld_9 : decode cX9_isHeld 9 = .ok (.getfield 35, 3) := by decide +kernel
theorem dX9_isHeld_12 : decode cX9_isHeld 12 = .ok (.bipush 49, 2) := by decide +kernel
theorem dX9_isHeld_14 : decode cX9_isHeld 14 = .ok (.iload_n 1, 1) := by decide +kernel
theorem dX9_isHeld_15 : decode cX9_isHeld 15 = .ok (.iadd, 1) := by decide +kernel
theorem dX9_isHeld_16 : decode cX9_isHeld 16 = .ok (.iaload, 1) := by decide +kernel
theorem dX9_isHeld_17 : decode cX9_isHeld 17 = .ok (.iload_n 2, 1) := by decide +kernel
theorem dX9_isHeld_18 : decode cX9_isHeld 18 = .ok (.if_icmp .eq 28, 3) := by decide +kernel
theorem dX9_isHeld_21 : decode cX9_isHeld 21 = .ok (.aload_n 0, 1) := by decide +kernel
theorem dX9_isHeld_22 : decode cX9_isHeld 22 = .ok (.getfield 35, 3) := by decide +kernel
theorem dX9_isHeld_25 : decode cX9_isHeld 25 = .ok (.bipush 49, 2) := by decide +kernel
theorem dX9_isHeld_27 : decode cX9_isHeld 27 = .ok (.iload_n 1, 1) := by decide +kernel
theorem dX9_isHeld_28 : decode cX9_isHeld 28 = .ok (.iadd, 1) := by decide +kernel
theorem dX9_isHeld_29 : decode cX9_isHeld 29 = .ok (.iaload, 1) := by decide +kernel
theorem dX9_isHeld_30 : decode cX9_isHeld 30 = .ok (.ifCond .ge 20, 3) := by decide +kernel
theorem dX9_isHeld_33 : decode cX9_isHeld 33 = .ok (.aload_n 0, 1) := by decide +kernel
theorem dX9_isHeld_34 : decode cX9_isHeld 34 = .ok (.getfield 35, 3) := by decide +kernel
theorem dX9_isHeld_37 : decode cX9_isHeld 37 = .ok (.bipush 37, 2) := by decide +kernel
theorem dX9_isHeld_39 : decode cX9_isHeld 39 = .ok (.iload_n 1, 1) := by decide +kernel
theorem dX9_isHeld_40 : decode cX9_isHeld 40 = .ok (.iadd, 1) := by decide +kernel
theorem dX9_isHeld_41 : decode cX9_isHeld 41 = .ok (.iaload, 1) := by decide +kernel
theorem dX9_isHeld_42 : decode cX9_isHeld 42 = .ok (.iload_n 2, 1) := by decide +kernel
theorem dX9_isHeld_43 : decode cX9_isHeld 43 = .ok (.if_icmp .ne 7, 3) := by decide +kernel
theorem dX9_isHeld_46 : decode cX9_isHeld 46 = .ok (.iconst 1, 1) := by decide +kernel
theorem dX9_isHeld_47 : decode cX9_isHeld 47 = .ok (.goto 4, 3) := by decide +kernel
theorem dX9_isHeld_50 : decode cX9_isHeld 50 = .ok (.iconst 0, 1) := by decide +kernel
theorem dX9_isHeld_51 : decode cX9_isHeld 51 = .ok (.ireturn, 1) := by decide +kernel
def fX9_isHeld (l0 : Nat) (l1 : Int32) (l2 : Int32) : mM Int32 := bCallV 9 l0 (fX9_isRope l0 l1) (fun x1 => bIf (x1 = 0) (bRetZ (0 : Int32)) (bGR 9 l0 24 (fun x2 => bAI 11 x2 ((49 : Int32) + l1) (fun x3 => bIf (x3 = l2) (bRetZ (1 : Int32)) (bGR 9 l0 24 (fun x4 => bAI 11 x4 ((49 : Int32) + l1) (fun x5 => bIf (0 ≤ x5) (bRetZ (0 : Int32)) (bGR 9 l0 24 (fun x6 => bAI 11 x6 ((37 : Int32) + l1) (fun x7 => bIf (x7 = l2) (bRetZ (1 : Int32)) (bRetZ (0 : Int32))))))))))))
set_option maxRecDepth 20000 in
theorem rX9_isHeld (v : mE) (d : Nat) (l0 : Nat) (l1 : Int32) (l2 : Int32) : Rz v RX9 cX9_isHeld 3 (some .boolean) false emI (d + 2) 0 [(0, vR l0), (1, vI l1), (2, vI l2)] [] (fX9_isHeld l0 l1 l2) := by
  unfold fX9_isHeld
  refine rz_aload_n 1 0 dX9_isHeld_0 rfl rfl ?_
  refine rz_iload_n 2 1 dX9_isHeld_1 rfl rfl ?_
  refine rz_callV 5 dX9_isHeld_2 rfl (tX9_isRope v (d + 0) l0 l1) rfl rfl rfl rfl ml_X9_318 im_X9_isRope se_X9_X9_isRope in_X9 co_X9_isRope rfl rfl (fun x1 => ?_)
  refine rz_if_eq 50 8 dX9_isHeld_5 rfl rfl ?_ ?_
  · refine rz_iconst 51 dX9_isHeld_50 rfl ci_0 ?_
    exact rz_zreturn rfl rfl dX9_isHeld_51
  · refine rz_aload_n 9 0 dX9_isHeld_8 rfl rfl ?_
    refine rz_gR 12 dX9_isHeld_9 rfl rfl fl_X9_35 (fun x2 => ?_)
    refine rz_bipush 14 dX9_isHeld_12 rfl cb_49 ?_
    refine rz_iload_n 15 1 dX9_isHeld_14 rfl rfl ?_
    refine rz_iadd 16 dX9_isHeld_15 rfl ?_
    refine rz_iald 17 dX9_isHeld_16 rfl (fun x3 => ?_)
    refine rz_iload_n 18 2 dX9_isHeld_17 rfl rfl ?_
    refine rz_icmp_eq 46 21 dX9_isHeld_18 rfl rfl ?_ ?_
    · refine rz_iconst 47 dX9_isHeld_46 rfl ci_1 ?_
      refine rz_goto 51 dX9_isHeld_47 rfl ?_
      exact rz_zreturn rfl rfl dX9_isHeld_51
    · refine rz_aload_n 22 0 dX9_isHeld_21 rfl rfl ?_
      refine rz_gR 25 dX9_isHeld_22 rfl rfl fl_X9_35 (fun x4 => ?_)
      refine rz_bipush 27 dX9_isHeld_25 rfl cb_49 ?_
      refine rz_iload_n 28 1 dX9_isHeld_27 rfl rfl ?_
      refine rz_iadd 29 dX9_isHeld_28 rfl ?_
      refine rz_iald 30 dX9_isHeld_29 rfl (fun x5 => ?_)
      refine rz_if_ge 50 33 dX9_isHeld_30 rfl rfl ?_ ?_
      · refine rz_iconst 51 dX9_isHeld_50 rfl ci_0 ?_
        exact rz_zreturn rfl rfl dX9_isHeld_51
      · refine rz_aload_n 34 0 dX9_isHeld_33 rfl rfl ?_
        refine rz_gR 37 dX9_isHeld_34 rfl rfl fl_X9_35 (fun x6 => ?_)
        refine rz_bipush 39 dX9_isHeld_37 rfl cb_37 ?_
        refine rz_iload_n 40 1 dX9_isHeld_39 rfl rfl ?_
        refine rz_iadd 41 dX9_isHeld_40 rfl ?_
        refine rz_iald 42 dX9_isHeld_41 rfl (fun x7 => ?_)
        refine rz_iload_n 43 2 dX9_isHeld_42 rfl rfl ?_
        refine rz_icmp_ne 50 46 dX9_isHeld_43 rfl rfl ?_ ?_
        · refine rz_iconst 51 dX9_isHeld_50 rfl ci_0 ?_
          exact rz_zreturn rfl rfl dX9_isHeld_51
        · refine rz_iconst 47 dX9_isHeld_46 rfl ci_1 ?_
          refine rz_goto 51 dX9_isHeld_47 rfl ?_
          exact rz_zreturn rfl rfl dX9_isHeld_51
theorem tX9_isHeld (v : mE) (d : Nat) (l0 : Nat) (l1 : Int32) (l2 : Int32) : Mt v yX9_isHeld cX9_isHeld 3 (some .boolean) emI (d + 2) [vR l0, vI l1, vI l2] (fX9_isHeld l0 l1 l2) := mt_of rfl rfl (fun h => by cases h) rfl rfl (rX9_isHeld v d l0 l1 l2)
theorem dX9_yardsHeld_0 : decode cX9_yardsHeld 0 = .ok (.iconst 0, 1) := by decide +kernel
theorem dX9_yardsHeld_1 : decode cX9_yardsHeld 1 = .ok (.istore_n 2, 1) := by decide +kernel
theorem dX9_yardsHeld_2 : decode cX9_yardsHeld 2 = .ok (.iconst 0, 1) := by decide +kernel
theorem dX9_yardsHeld_3 : decode cX9_yardsHeld 3 = .ok (.istore_n 3, 1) := by decide +kernel
theorem dX9_yardsHeld_4 : decode cX9_yardsHeld 4 = .ok (.iload_n 3, 1) := by decide +kernel
theorem dX9_yardsHeld_5 : decode cX9_yardsHeld 5 = .ok (.bipush 12, 2) := by decide +kernel
theorem dX9_yardsHeld_7 : decode cX9_yardsHeld 7 = .ok (.if_icmp .ge 30, 3) := by decide +kernel
theorem dX9_yardsHeld_10 : decode cX9_yardsHeld 10 = .ok (.iload_n 2, 1) := by decide +kernel
theorem dX9_yardsHeld_11 : decode cX9_yardsHeld 11 = .ok (.aload_n 0, 1) := by decide +kernel
theorem dX9_yardsHeld_12 : decode cX9_yardsHeld 12 = .ok (.iload_n 3, 1) := by decide +kernel
theorem dX9_yardsHeld_13 : decode cX9_yardsHeld 13 = .ok (.iload_n 1, 1) := by decide +kernel
theorem dX9_yardsHeld_14 : decode cX9_yardsHeld 14 = .ok (.invokevirtual 336, 3) := by decide +kernel
theorem dX9_yardsHeld_17 : decode cX9_yardsHeld 17 = .ok (.ifCond .eq 11, 3) := by decide +kernel
theorem dX9_yardsHeld_20 : decode cX9_yardsHeld 20 = .ok (.aload_n 0, 1) := by decide +kernel
theorem dX9_yardsHeld_21 : decode cX9_yardsHeld 21 = .ok (.iload_n 3, 1) := by decide +kernel
theorem dX9_yardsHeld_22 : decode cX9_yardsHeld 22 = .ok (.invokevirtual 327, 3) := by decide +kernel
theorem dX9_yardsHeld_25 : decode cX9_yardsHeld 25 = .ok (.goto 4, 3) := by decide +kernel
theorem dX9_yardsHeld_28 : decode cX9_yardsHeld 28 = .ok (.iconst 0, 1) := by decide +kernel
theorem dX9_yardsHeld_29 : decode cX9_yardsHeld 29 = .ok (.iadd, 1) := by decide +kernel
theorem dX9_yardsHeld_30 : decode cX9_yardsHeld 30 = .ok (.istore_n 2, 1) := by decide +kernel
theorem dX9_yardsHeld_31 : decode cX9_yardsHeld 31 = .ok (.iinc 3 1, 3) := by decide +kernel
theorem dX9_yardsHeld_34 : decode cX9_yardsHeld 34 = .ok (.goto (-30), 3) := by decide +kernel
theorem dX9_yardsHeld_37 : decode cX9_yardsHeld 37 = .ok (.iload_n 2, 1) := by decide +kernel
theorem dX9_yardsHeld_38 : decode cX9_yardsHeld 38 = .ok (.ireturn, 1) := by decide +kernel
def fX9_yardsHeld_29 (r4 : Nat → Int32 → Int32 → Int32 → mM Int32) (l0 : Nat) (l1 : Int32) (l3 : Int32) (s0 : Int32) (s1 : Int32) : mM Int32 := r4 l0 l1 (s1 + s0) (l3 + 1)
set_option maxRecDepth 20000 in
theorem rX9_yardsHeld_29 (v : mE) (d : Nat) (r4 : Nat → Int32 → Int32 → Int32 → mM Int32) (h4 : ∀ (y0 : Nat) (y1 : Int32) (y2 : Int32) (y3 : Int32), Rz v RX9 cX9_yardsHeld 4 (some .int) false emI (d + 3) 4 [(0, vR y0), (1, vI y1), (2, vI y2), (3, vI y3)] [] (r4 y0 y1 y2 y3)) (l0 : Nat) (l1 : Int32) (l3 : Int32) (s0 : Int32) (s1 : Int32) : Rz v RX9 cX9_yardsHeld 4 (some .int) false emI (d + 3) 29 [(0, vR l0), (1, vI l1), (3, vI l3)] [vI s0, vI s1] (fX9_yardsHeld_29 r4 l0 l1 l3 s0 s1) := by
  unfold fX9_yardsHeld_29
  refine rz_iadd 30 dX9_yardsHeld_29 rfl ?_
  refine rz_istore_n (lv' := [(2, vI (s1 + s0)), (0, vR l0), (1, vI l1), (3, vI l3)]) 31 dX9_yardsHeld_30 rfl rfl rfl ?_
  refine rz_iinc (lv' := [(3, vI (l3 + 1)), (2, vI (s1 + s0)), (0, vR l0), (1, vI l1)]) 34 3 dX9_yardsHeld_31 rfl rfl (cn_1 _) rfl rfl ?_
  refine rz_goto 4 dX9_yardsHeld_34 rfl ?_
  exact rz_sub [2, 3, 1, 0] rfl (h4 l0 l1 (s1 + s0) (l3 + 1))
def fX9_yardsHeld_4 : Nat → Nat → Int32 → Int32 → Int32 → mM Int32
  | 0 => fun _ _ _ _ => fun _ => none
  | n + 1 => fun l0 l1 l2 l3 => let r4 := fX9_yardsHeld_4 n; bIf ((12 : Int32) ≤ l3) (bRet l2) (bCallV 9 l0 (fX9_isHeld l0 l3 l1) (fun x1 => bIf (x1 = 0) (fX9_yardsHeld_29 r4 l0 l1 l3 (0 : Int32) l2) (bCallV 9 l0 (fX9_yardsOfRope l0 l3) (fun x2 => fX9_yardsHeld_29 r4 l0 l1 l3 x2 l2))))
theorem qX9_yardsHeld_4  (n : Nat) (l0 : Nat) (l1 : Int32) (l2 : Int32) (l3 : Int32) : fX9_yardsHeld_4 (n + 1) l0 l1 l2 l3 = bIf ((12 : Int32) ≤ l3) (bRet l2) (bCallV 9 l0 (fX9_isHeld l0 l3 l1) (fun x1 => bIf (x1 = 0) (fX9_yardsHeld_29 (fX9_yardsHeld_4 n) l0 l1 l3 (0 : Int32) l2) (bCallV 9 l0 (fX9_yardsOfRope l0 l3) (fun x2 => fX9_yardsHeld_29 (fX9_yardsHeld_4 n) l0 l1 l3 x2 l2)))) := rfl
set_option maxRecDepth 20000 in
theorem rX9_yardsHeld_4 (v : mE) (d : Nat) : ∀ (n : Nat) (l0 : Nat) (l1 : Int32) (l2 : Int32) (l3 : Int32), Rz v RX9 cX9_yardsHeld 4 (some .int) false emI (d + 3) 4 [(0, vR l0), (1, vI l1), (2, vI l2), (3, vI l3)] [] (fX9_yardsHeld_4 n l0 l1 l2 l3)
  | 0, _, _, _, _ => fun _ _ _ hm => by cases hm
  | n + 1, l0, l1, l2, l3 => by
    have h4 := rX9_yardsHeld_4 v d n
    unfold fX9_yardsHeld_4
    generalize fX9_yardsHeld_4 n = r4 at h4 ⊢
    refine rz_iload_n 5 3 dX9_yardsHeld_4 rfl rfl ?_
    refine rz_bipush 7 dX9_yardsHeld_5 rfl cb_12 ?_
    refine rz_icmp_ge 37 10 dX9_yardsHeld_7 rfl rfl ?_ ?_
    · refine rz_iload_n 38 2 dX9_yardsHeld_37 rfl rfl ?_
      exact rz_ireturn rfl rfl dX9_yardsHeld_38
    · refine rz_iload_n 11 2 dX9_yardsHeld_10 rfl rfl ?_
      refine rz_aload_n 12 0 dX9_yardsHeld_11 rfl rfl ?_
      refine rz_iload_n 13 3 dX9_yardsHeld_12 rfl rfl ?_
      refine rz_iload_n 14 1 dX9_yardsHeld_13 rfl rfl ?_
      refine rz_callV 17 dX9_yardsHeld_14 rfl (tX9_isHeld v (d + 0) l0 l3 l1) rfl rfl rfl rfl ml_X9_336 im_X9_isHeld se_X9_X9_isHeld in_X9 co_X9_isHeld rfl rfl (fun x1 => ?_)
      refine rz_if_eq 28 20 dX9_yardsHeld_17 rfl rfl ?_ ?_
      · refine rz_iconst 29 dX9_yardsHeld_28 rfl ci_0 ?_
        exact rz_sub [0, 1, 3] rfl (rX9_yardsHeld_29 v d r4 h4 l0 l1 l3 (0 : Int32) l2)
      · refine rz_aload_n 21 0 dX9_yardsHeld_20 rfl rfl ?_
        refine rz_iload_n 22 3 dX9_yardsHeld_21 rfl rfl ?_
        refine rz_callV 25 dX9_yardsHeld_22 rfl (tX9_yardsOfRope v (d + 2) l0 l3) rfl rfl rfl rfl ml_X9_327 im_X9_yardsOfRope se_X9_X9_yardsOfRope in_X9 co_X9_yardsOfRope rfl rfl (fun x2 => ?_)
        refine rz_goto 29 dX9_yardsHeld_25 rfl ?_
        exact rz_sub [0, 1, 3] rfl (rX9_yardsHeld_29 v d r4 h4 l0 l1 l3 x2 l2)
def fX9_yardsHeld (l0 : Nat) (l1 : Int32) : mM Int32 := fX9_yardsHeld_4 fu l0 l1 (0 : Int32) (0 : Int32)
set_option maxRecDepth 20000 in
theorem rX9_yardsHeld (v : mE) (d : Nat) (l0 : Nat) (l1 : Int32) : Rz v RX9 cX9_yardsHeld 4 (some .int) false emI (d + 3) 0 [(0, vR l0), (1, vI l1)] [] (fX9_yardsHeld l0 l1) := by
  unfold fX9_yardsHeld
  refine rz_iconst 1 dX9_yardsHeld_0 rfl ci_0 ?_
  refine rz_istore_n (lv' := [(2, vI (0 : Int32)), (0, vR l0), (1, vI l1)]) 2 dX9_yardsHeld_1 rfl rfl rfl ?_
  refine rz_iconst 3 dX9_yardsHeld_2 rfl ci_0 ?_
  refine rz_istore_n (lv' := [(3, vI (0 : Int32)), (2, vI (0 : Int32)), (0, vR l0), (1, vI l1)]) 4 dX9_yardsHeld_3 rfl rfl rfl ?_
  exact rz_sub [2, 3, 1, 0] rfl (rX9_yardsHeld_4 v d fu l0 l1 (0 : Int32) (0 : Int32))
theorem tX9_yardsHeld (v : mE) (d : Nat) (l0 : Nat) (l1 : Int32) : Mt v yX9_yardsHeld cX9_yardsHeld 4 (some .int) emI (d + 3) [vR l0, vI l1] (fX9_yardsHeld l0 l1) := mt_of rfl rfl (fun h => by cases h) rfl rfl (rX9_yardsHeld v d l0 l1)
theorem dX9_yardsOwn_0 : decode cX9_yardsOwn 0 = .ok (.iconst 0, 1) := by decide +kernel
theorem dX9_yardsOwn_1 : decode cX9_yardsOwn 1 = .ok (.istore_n 2, 1) := by decide +kernel
theorem dX9_yardsOwn_2 : decode cX9_yardsOwn 2 = .ok (.iconst 0, 1) := by decide +kernel
theorem dX9_yardsOwn_3 : decode cX9_yardsOwn 3 = .ok (.istore_n 3, 1) := by decide +kernel
theorem dX9_yardsOwn_4 : decode cX9_yardsOwn 4 = .ok (.iload_n 3, 1) := by decide +kernel
theorem dX9_yardsOwn_5 : decode cX9_yardsOwn 5 = .ok (.bipush 12, 2) := by decide +kernel
theorem dX9_yardsOwn_7 : decode cX9_yardsOwn 7 = .ok (.if_icmp .ge 42, 3) := by decide +kernel
theorem dX9_yardsOwn_10 : decode cX9_yardsOwn 10 = .ok (.iload_n 2, 1) := by decide +kernel
theorem dX9_yardsOwn_11 : decode cX9_yardsOwn 11 = .ok (.aload_n 0, 1) := by decide +kernel
theorem dX9_yardsOwn_12 : decode cX9_yardsOwn 12 = .ok (.iload_n 3, 1) := by decide +kernel
theorem dX9_yardsOwn_13 : decode cX9_yardsOwn 13 = .ok (.invokevirtual 318, 3) := by decide +kernel
theorem dX9_yardsOwn_16 : decode cX9_yardsOwn 16 = .ok (.ifCond .eq 24, 3) := by decide +kernel
theorem dX9_yardsOwn_19 : decode cX9_yardsOwn 19 = .ok (.aload_n 0, 1) := by decide +kernel
theorem dX9_yardsOwn_20 : decode cX9_yardsOwn 20 = .ok (.getfield 35, 3) := by decide +kernel
theorem dX9_yardsOwn_23 : decode cX9_yardsOwn 23 = .ok (.bipush 37, 2) := by decide +kernel
theorem dX9_yardsOwn_25 : decode cX9_yardsOwn 25 = .ok (.iload_n 3, 1) := by decide +kernel
theorem dX9_yardsOwn_26 : decode cX9_yardsOwn 26 = .ok (.iadd, 1) := by decide +kernel
theorem dX9_yardsOwn_27 : decode cX9_yardsOwn 27 = .ok (.iaload, 1) := by decide +kernel
theorem dX9_yardsOwn_28 : decode cX9_yardsOwn 28 = .ok (.iload_n 1, 1) := by decide +kernel
theorem dX9_yardsOwn_29 : decode cX9_yardsOwn 29 = .ok (.if_icmp .ne 11, 3) := by decide +kernel
theorem dX9_yardsOwn_32 : decode cX9_yardsOwn 32 = .ok (.aload_n 0, 1) := by decide +kernel
theorem dX9_yardsOwn_33 : decode cX9_yardsOwn 33 = .ok (.iload_n 3, 1) := by decide +kernel
theorem dX9_yardsOwn_34 : decode cX9_yardsOwn 34 = .ok (.invokevirtual 327, 3) := by decide +kernel
theorem dX9_yardsOwn_37 : decode cX9_yardsOwn 37 = .ok (.goto 4, 3) := by decide +kernel
theorem dX9_yardsOwn_40 : decode cX9_yardsOwn 40 = .ok (.iconst 0, 1) := by decide +kernel
theorem dX9_yardsOwn_41 : decode cX9_yardsOwn 41 = .ok (.iadd, 1) := by decide +kernel
theorem dX9_yardsOwn_42 : decode cX9_yardsOwn 42 = .ok (.istore_n 2, 1) := by decide +kernel
theorem dX9_yardsOwn_43 : decode cX9_yardsOwn 43 = .ok (.iinc 3 1, 3) := by decide +kernel
theorem dX9_yardsOwn_46 : decode cX9_yardsOwn 46 = .ok (.goto (-42), 3) := by decide +kernel
theorem dX9_yardsOwn_49 : decode cX9_yardsOwn 49 = .ok (.iload_n 2, 1) := by decide +kernel
theorem dX9_yardsOwn_50 : decode cX9_yardsOwn 50 = .ok (.ireturn, 1) := by decide +kernel
def fX9_yardsOwn_41 (r4 : Nat → Int32 → Int32 → Int32 → mM Int32) (l0 : Nat) (l1 : Int32) (l3 : Int32) (s0 : Int32) (s1 : Int32) : mM Int32 := r4 l0 l1 (s1 + s0) (l3 + 1)
set_option maxRecDepth 20000 in
theorem rX9_yardsOwn_41 (v : mE) (d : Nat) (r4 : Nat → Int32 → Int32 → Int32 → mM Int32) (h4 : ∀ (y0 : Nat) (y1 : Int32) (y2 : Int32) (y3 : Int32), Rz v RX9 cX9_yardsOwn 4 (some .int) false emI (d + 2) 4 [(0, vR y0), (1, vI y1), (2, vI y2), (3, vI y3)] [] (r4 y0 y1 y2 y3)) (l0 : Nat) (l1 : Int32) (l3 : Int32) (s0 : Int32) (s1 : Int32) : Rz v RX9 cX9_yardsOwn 4 (some .int) false emI (d + 2) 41 [(0, vR l0), (1, vI l1), (3, vI l3)] [vI s0, vI s1] (fX9_yardsOwn_41 r4 l0 l1 l3 s0 s1) := by
  unfold fX9_yardsOwn_41
  refine rz_iadd 42 dX9_yardsOwn_41 rfl ?_
  refine rz_istore_n (lv' := [(2, vI (s1 + s0)), (0, vR l0), (1, vI l1), (3, vI l3)]) 43 dX9_yardsOwn_42 rfl rfl rfl ?_
  refine rz_iinc (lv' := [(3, vI (l3 + 1)), (2, vI (s1 + s0)), (0, vR l0), (1, vI l1)]) 46 3 dX9_yardsOwn_43 rfl rfl (cn_1 _) rfl rfl ?_
  refine rz_goto 4 dX9_yardsOwn_46 rfl ?_
  exact rz_sub [2, 3, 1, 0] rfl (h4 l0 l1 (s1 + s0) (l3 + 1))
def fX9_yardsOwn_40 (r4 : Nat → Int32 → Int32 → Int32 → mM Int32) (l0 : Nat) (l1 : Int32) (l3 : Int32) (s0 : Int32) : mM Int32 := fX9_yardsOwn_41 r4 l0 l1 l3 (0 : Int32) s0
set_option maxRecDepth 20000 in
theorem rX9_yardsOwn_40 (v : mE) (d : Nat) (r4 : Nat → Int32 → Int32 → Int32 → mM Int32) (h4 : ∀ (y0 : Nat) (y1 : Int32) (y2 : Int32) (y3 : Int32), Rz v RX9 cX9_yardsOwn 4 (some .int) false emI (d + 2) 4 [(0, vR y0), (1, vI y1), (2, vI y2), (3, vI y3)] [] (r4 y0 y1 y2 y3)) (l0 : Nat) (l1 : Int32) (l3 : Int32) (s0 : Int32) : Rz v RX9 cX9_yardsOwn 4 (some .int) false emI (d + 2) 40 [(0, vR l0), (1, vI l1), (3, vI l3)] [vI s0] (fX9_yardsOwn_40 r4 l0 l1 l3 s0) := by
  unfold fX9_yardsOwn_40
  refine rz_iconst 41 dX9_yardsOwn_40 rfl ci_0 ?_
  exact rz_sub [0, 1, 2] rfl (rX9_yardsOwn_41 v d r4 h4 l0 l1 l3 (0 : Int32) s0)
def fX9_yardsOwn_4 : Nat → Nat → Int32 → Int32 → Int32 → mM Int32
  | 0 => fun _ _ _ _ => fun _ => none
  | n + 1 => fun l0 l1 l2 l3 => let r4 := fX9_yardsOwn_4 n; bIf ((12 : Int32) ≤ l3) (bRet l2) (bCallV 9 l0 (fX9_isRope l0 l3) (fun x1 => bIf (x1 = 0) (fX9_yardsOwn_40 r4 l0 l1 l3 l2) (bGR 9 l0 24 (fun x2 => bAI 11 x2 ((37 : Int32) + l3) (fun x3 => bIf (x3 = l1) (bCallV 9 l0 (fX9_yardsOfRope l0 l3) (fun x4 => fX9_yardsOwn_41 r4 l0 l1 l3 x4 l2)) (fX9_yardsOwn_40 r4 l0 l1 l3 l2))))))
theorem qX9_yardsOwn_4  (n : Nat) (l0 : Nat) (l1 : Int32) (l2 : Int32) (l3 : Int32) : fX9_yardsOwn_4 (n + 1) l0 l1 l2 l3 = bIf ((12 : Int32) ≤ l3) (bRet l2) (bCallV 9 l0 (fX9_isRope l0 l3) (fun x1 => bIf (x1 = 0) (fX9_yardsOwn_40 (fX9_yardsOwn_4 n) l0 l1 l3 l2) (bGR 9 l0 24 (fun x2 => bAI 11 x2 ((37 : Int32) + l3) (fun x3 => bIf (x3 = l1) (bCallV 9 l0 (fX9_yardsOfRope l0 l3) (fun x4 => fX9_yardsOwn_41 (fX9_yardsOwn_4 n) l0 l1 l3 x4 l2)) (fX9_yardsOwn_40 (fX9_yardsOwn_4 n) l0 l1 l3 l2)))))) := rfl
set_option maxRecDepth 20000 in
theorem rX9_yardsOwn_4 (v : mE) (d : Nat) : ∀ (n : Nat) (l0 : Nat) (l1 : Int32) (l2 : Int32) (l3 : Int32), Rz v RX9 cX9_yardsOwn 4 (some .int) false emI (d + 2) 4 [(0, vR l0), (1, vI l1), (2, vI l2), (3, vI l3)] [] (fX9_yardsOwn_4 n l0 l1 l2 l3)
  | 0, _, _, _, _ => fun _ _ _ hm => by cases hm
  | n + 1, l0, l1, l2, l3 => by
    have h4 := rX9_yardsOwn_4 v d n
    unfold fX9_yardsOwn_4
    generalize fX9_yardsOwn_4 n = r4 at h4 ⊢
    refine rz_iload_n 5 3 dX9_yardsOwn_4 rfl rfl ?_
    refine rz_bipush 7 dX9_yardsOwn_5 rfl cb_12 ?_
    refine rz_icmp_ge 49 10 dX9_yardsOwn_7 rfl rfl ?_ ?_
    · refine rz_iload_n 50 2 dX9_yardsOwn_49 rfl rfl ?_
      exact rz_ireturn rfl rfl dX9_yardsOwn_50
    · refine rz_iload_n 11 2 dX9_yardsOwn_10 rfl rfl ?_
      refine rz_aload_n 12 0 dX9_yardsOwn_11 rfl rfl ?_
      refine rz_iload_n 13 3 dX9_yardsOwn_12 rfl rfl ?_
      refine rz_callV 16 dX9_yardsOwn_13 rfl (tX9_isRope v (d + 0) l0 l3) rfl rfl rfl rfl ml_X9_318 im_X9_isRope se_X9_X9_isRope in_X9 co_X9_isRope rfl rfl (fun x1 => ?_)
      refine rz_if_eq 40 19 dX9_yardsOwn_16 rfl rfl ?_ ?_
      · exact rz_sub [0, 1, 3] rfl (rX9_yardsOwn_40 v d r4 h4 l0 l1 l3 l2)
      · refine rz_aload_n 20 0 dX9_yardsOwn_19 rfl rfl ?_
        refine rz_gR 23 dX9_yardsOwn_20 rfl rfl fl_X9_35 (fun x2 => ?_)
        refine rz_bipush 25 dX9_yardsOwn_23 rfl cb_37 ?_
        refine rz_iload_n 26 3 dX9_yardsOwn_25 rfl rfl ?_
        refine rz_iadd 27 dX9_yardsOwn_26 rfl ?_
        refine rz_iald 28 dX9_yardsOwn_27 rfl (fun x3 => ?_)
        refine rz_iload_n 29 1 dX9_yardsOwn_28 rfl rfl ?_
        refine rz_icmp_ne 40 32 dX9_yardsOwn_29 rfl rfl ?_ ?_
        · exact rz_sub [0, 1, 3] rfl (rX9_yardsOwn_40 v d r4 h4 l0 l1 l3 l2)
        · refine rz_aload_n 33 0 dX9_yardsOwn_32 rfl rfl ?_
          refine rz_iload_n 34 3 dX9_yardsOwn_33 rfl rfl ?_
          refine rz_callV 37 dX9_yardsOwn_34 rfl (tX9_yardsOfRope v (d + 1) l0 l3) rfl rfl rfl rfl ml_X9_327 im_X9_yardsOfRope se_X9_X9_yardsOfRope in_X9 co_X9_yardsOfRope rfl rfl (fun x4 => ?_)
          refine rz_goto 41 dX9_yardsOwn_37 rfl ?_
          exact rz_sub [0, 1, 3] rfl (rX9_yardsOwn_41 v d r4 h4 l0 l1 l3 x4 l2)
def fX9_yardsOwn (l0 : Nat) (l1 : Int32) : mM Int32 := fX9_yardsOwn_4 fu l0 l1 (0 : Int32) (0 : Int32)
set_option maxRecDepth 20000 in
theorem rX9_yardsOwn (v : mE) (d : Nat) (l0 : Nat) (l1 : Int32) : Rz v RX9 cX9_yardsOwn 4 (some .int) false emI (d + 2) 0 [(0, vR l0), (1, vI l1)] [] (fX9_yardsOwn l0 l1) := by
  unfold fX9_yardsOwn
  refine rz_iconst 1 dX9_yardsOwn_0 rfl ci_0 ?_
  refine rz_istore_n (lv' := [(2, vI (0 : Int32)), (0, vR l0), (1, vI l1)]) 2 dX9_yardsOwn_1 rfl rfl rfl ?_
  refine rz_iconst 3 dX9_yardsOwn_2 rfl ci_0 ?_
  refine rz_istore_n (lv' := [(3, vI (0 : Int32)), (2, vI (0 : Int32)), (0, vR l0), (1, vI l1)]) 4 dX9_yardsOwn_3 rfl rfl rfl ?_
  exact rz_sub [2, 3, 1, 0] rfl (rX9_yardsOwn_4 v d fu l0 l1 (0 : Int32) (0 : Int32))
theorem tX9_yardsOwn (v : mE) (d : Nat) (l0 : Nat) (l1 : Int32) : Mt v yX9_yardsOwn cX9_yardsOwn 4 (some .int) emI (d + 2) [vR l0, vI l1] (fX9_yardsOwn l0 l1) := mt_of rfl rfl (fun h => by cases h) rfl rfl (rX9_yardsOwn v d l0 l1)
theorem dX9_reaches_0 : decode cX9_reaches 0 = .ok (.aload_n 0, 1) := by decide +kernel
theorem dX9_reaches_1 : decode cX9_reaches 1 = .ok (.iload_n 1, 1) := by decide +kernel
theorem dX9_reaches_2 : decode cX9_reaches 2 = .ok (.invokevirtual 339, 3) := by decide +kernel
theorem dX9_reaches_5 : decode cX9_reaches 5 = .ok (.aload_n 0, 1) := by decide +kernel
theorem dX9_reaches_6 : decode cX9_reaches 6 = .ok (.invokevirtual 324, 3) := by decide +kernel
theorem dX9_reaches_9 : decode cX9_reaches 9 = .ok (.if_icmp .lt 7, 3) := by decide +kernel
theorem dX9_reaches_12 : decode cX9_reaches 12 = .ok (.iconst 1, 1) := by decide +kernel
theorem dX9_reaches_13 : decode cX9_reaches 13 = .ok (.goto 4, 3) := by decide +kernel
theorem dX9_reaches_16 : decode cX9_reaches 16 = .ok (.iconst 0, 1) := by decide +kernel
theorem dX9_reaches_17 : decode cX9_reaches 17 = .ok (.ireturn, 1) := by decide +kernel
def fX9_reaches (l0 : Nat) (l1 : Int32) : mM Int32 := bCallV 9 l0 (fX9_reachOf l0 l1) (fun x1 => bCallV 9 l0 (fX9_depthNow l0) (fun x2 => bIf (x1 < x2) (bRetZ (0 : Int32)) (bRetZ (1 : Int32))))
set_option maxRecDepth 20000 in
theorem rX9_reaches (v : mE) (d : Nat) (l0 : Nat) (l1 : Int32) : Rz v RX9 cX9_reaches 2 (some .boolean) false emI (d + 2) 0 [(0, vR l0), (1, vI l1)] [] (fX9_reaches l0 l1) := by
  unfold fX9_reaches
  refine rz_aload_n 1 0 dX9_reaches_0 rfl rfl ?_
  refine rz_iload_n 2 1 dX9_reaches_1 rfl rfl ?_
  refine rz_callV 5 dX9_reaches_2 rfl (tX9_reachOf v (d + 0) l0 l1) rfl rfl rfl rfl ml_X9_339 im_X9_reachOf se_X9_X9_reachOf in_X9 co_X9_reachOf rfl rfl (fun x1 => ?_)
  refine rz_aload_n 6 0 dX9_reaches_5 rfl rfl ?_
  refine rz_callV 9 dX9_reaches_6 rfl (tX9_depthNow v (d + 0) l0) rfl rfl rfl rfl ml_X9_324 im_X9_depthNow se_X9_X9_depthNow in_X9 co_X9_depthNow rfl rfl (fun x2 => ?_)
  refine rz_icmp_lt 16 12 dX9_reaches_9 rfl rfl ?_ ?_
  · refine rz_iconst 17 dX9_reaches_16 rfl ci_0 ?_
    exact rz_zreturn rfl rfl dX9_reaches_17
  · refine rz_iconst 13 dX9_reaches_12 rfl ci_1 ?_
    refine rz_goto 17 dX9_reaches_13 rfl ?_
    exact rz_zreturn rfl rfl dX9_reaches_17
theorem tX9_reaches (v : mE) (d : Nat) (l0 : Nat) (l1 : Int32) : Mt v yX9_reaches cX9_reaches 2 (some .boolean) emI (d + 2) [vR l0, vI l1] (fX9_reaches l0 l1) := mt_of rfl rfl (fun h => by cases h) rfl rfl (rX9_reaches v d l0 l1)
theorem dX9_isDrinking_0 : decode cX9_isDrinking 0 = .ok (.aload_n 0, 1) := by decide +kernel
theorem dX9_isDrinking_1 : decode cX9_isDrinking 1 = .ok (.iload_n 1, 1) := by decide +kernel
theorem dX9_isDrinking_2 : decode cX9_isDrinking 2 = .ok (.invokevirtual 342, 3) := by decide +kernel
theorem dX9_isDrinking_5 : decode cX9_isDrinking 5 = .ok (.ifCond .eq 10, 3) := by decide +kernel
theorem dX9_isDrinking_8 : decode cX9_isDrinking 8 = .ok (.aload_n 0, 1) := by decide +kernel
theorem dX9_isDrinking_9 : decode cX9_isDrinking 9 = .ok (.invokevirtual 345, 3) := by decide +kernel
theorem dX9_isDrinking_12 : decode cX9_isDrinking 12 = .ok (.ifCond .eq 5, 3) := by decide +kernel
theorem dX9_isDrinking_15 : decode cX9_isDrinking 15 = .ok (.iconst 0, 1) := by decide +kernel
theorem dX9_isDrinking_16 : decode cX9_isDrinking 16 = .ok (.ireturn, 1) := by decide +kernel
theorem dX9_isDrinking_17 : decode cX9_isDrinking 17 = .ok (.iconst 0, 1) := by decide +kernel
theorem dX9_isDrinking_18 : decode cX9_isDrinking 18 = .ok (.istore_n 2, 1) := by decide +kernel
theorem dX9_isDrinking_19 : decode cX9_isDrinking 19 = .ok (.iload_n 2, 1) := by decide +kernel
theorem dX9_isDrinking_20 : decode cX9_isDrinking 20 = .ok (.bipush 12, 2) := by decide +kernel
theorem dX9_isDrinking_22 : decode cX9_isDrinking 22 = .ok (.if_icmp .ge 28, 3) := by decide +kernel
theorem dX9_isDrinking_25 : decode cX9_isDrinking 25 = .ok (.aload_n 0, 1) := by decide +kernel
theorem dX9_isDrinking_26 : decode cX9_isDrinking 26 = .ok (.iload_n 2, 1) := by decide +kernel
theorem dX9_isDrinking_27 : decode cX9_isDrinking 27 = .ok (.iload_n 1, 1) := by decide +kernel
theorem dX9_isDrinking_28 : decode cX9_isDrinking 28 = .ok (.invokevirtual 336, 3) := by decide +kernel
theorem dX9_isDrinking_31 : decode cX9_isDrinking 31 = .ok (.ifCond .eq 13, 3) := by decide +kernel
theorem dX9_isDrinking_34 : decode cX9_isDrinking 34 = .ok (.aload_n 0, 1) := by decide +kernel
theorem dX9_isDrinking_35 : decode cX9_isDrinking 35 = .ok (.iload_n 2, 1) := by decide +kernel
theorem dX9_isDrinking_36 : decode cX9_isDrinking 36 = .ok (.invokevirtual 348, 3) := by decide +kernel
theorem dX9_isDrinking_39 : decode cX9_isDrinking 39 = .ok (.ifCond .eq 5, 3) := by decide +kernel
theorem dX9_isDrinking_42 : decode cX9_isDrinking 42 = .ok (.iconst 1, 1) := by decide +kernel
theorem dX9_isDrinking_43 : decode cX9_isDrinking 43 = .ok (.ireturn, 1) := by decide +kernel
theorem dX9_isDrinking_44 : decode cX9_isDrinking 44 = .ok (.iinc 2 1, 3) := by decide +kernel
theorem dX9_isDrinking_47 : decode cX9_isDrinking 47 = .ok (.goto (-28), 3) := by decide +kernel
theorem dX9_isDrinking_50 : decode cX9_isDrinking 50 = .ok (.iconst 0, 1) := by decide +kernel
theorem dX9_isDrinking_51 : decode cX9_isDrinking 51 = .ok (.ireturn, 1) := by decide +kernel
def fX9_isDrinking_19 : Nat → Nat → Int32 → Int32 → mM Int32
  | 0 => fun _ _ _ => fun _ => none
  | n + 1 => fun l0 l1 l2 => let r19 := fX9_isDrinking_19 n; bIf ((12 : Int32) ≤ l2) (bRetZ (0 : Int32)) (bCallV 9 l0 (fX9_isHeld l0 l2 l1) (fun x1 => bIf (x1 = 0) (r19 l0 l1 (l2 + 1)) (bCallV 9 l0 (fX9_reaches l0 l2) (fun x2 => bIf (x2 = 0) (r19 l0 l1 (l2 + 1)) (bRetZ (1 : Int32))))))
theorem qX9_isDrinking_19  (n : Nat) (l0 : Nat) (l1 : Int32) (l2 : Int32) : fX9_isDrinking_19 (n + 1) l0 l1 l2 = bIf ((12 : Int32) ≤ l2) (bRetZ (0 : Int32)) (bCallV 9 l0 (fX9_isHeld l0 l2 l1) (fun x1 => bIf (x1 = 0) ((fX9_isDrinking_19 n) l0 l1 (l2 + 1)) (bCallV 9 l0 (fX9_reaches l0 l2) (fun x2 => bIf (x2 = 0) ((fX9_isDrinking_19 n) l0 l1 (l2 + 1)) (bRetZ (1 : Int32)))))) := rfl
set_option maxRecDepth 20000 in
theorem rX9_isDrinking_19 (v : mE) (d : Nat) : ∀ (n : Nat) (l0 : Nat) (l1 : Int32) (l2 : Int32), Rz v RX9 cX9_isDrinking 3 (some .boolean) false emI (d + 3) 19 [(0, vR l0), (1, vI l1), (2, vI l2)] [] (fX9_isDrinking_19 n l0 l1 l2)
  | 0, _, _, _ => fun _ _ _ hm => by cases hm
  | n + 1, l0, l1, l2 => by
    have h19 := rX9_isDrinking_19 v d n
    unfold fX9_isDrinking_19
    generalize fX9_isDrinking_19 n = r19 at h19 ⊢
    refine rz_iload_n 20 2 dX9_isDrinking_19 rfl rfl ?_
    refine rz_bipush 22 dX9_isDrinking_20 rfl cb_12 ?_
    refine rz_icmp_ge 50 25 dX9_isDrinking_22 rfl rfl ?_ ?_
    · refine rz_iconst 51 dX9_isDrinking_50 rfl ci_0 ?_
      exact rz_zreturn rfl rfl dX9_isDrinking_51
    · refine rz_aload_n 26 0 dX9_isDrinking_25 rfl rfl ?_
      refine rz_iload_n 27 2 dX9_isDrinking_26 rfl rfl ?_
      refine rz_iload_n 28 1 dX9_isDrinking_27 rfl rfl ?_
      refine rz_callV 31 dX9_isDrinking_28 rfl (tX9_isHeld v (d + 0) l0 l2 l1) rfl rfl rfl rfl ml_X9_336 im_X9_isHeld se_X9_X9_isHeld in_X9 co_X9_isHeld rfl rfl (fun x1 => ?_)
      refine rz_if_eq 44 34 dX9_isDrinking_31 rfl rfl ?_ ?_
      · refine rz_iinc (lv' := [(2, vI (l2 + 1)), (0, vR l0), (1, vI l1)]) 47 2 dX9_isDrinking_44 rfl rfl (cn_1 _) rfl rfl ?_
        refine rz_goto 19 dX9_isDrinking_47 rfl ?_
        exact rz_sub [1, 2, 0] rfl (h19 l0 l1 (l2 + 1))
      · refine rz_aload_n 35 0 dX9_isDrinking_34 rfl rfl ?_
        refine rz_iload_n 36 2 dX9_isDrinking_35 rfl rfl ?_
        refine rz_callV 39 dX9_isDrinking_36 rfl (tX9_reaches v (d + 0) l0 l2) rfl rfl rfl rfl ml_X9_348 im_X9_reaches se_X9_X9_reaches in_X9 co_X9_reaches rfl rfl (fun x2 => ?_)
        refine rz_if_eq 44 42 dX9_isDrinking_39 rfl rfl ?_ ?_
        · refine rz_iinc (lv' := [(2, vI (l2 + 1)), (0, vR l0), (1, vI l1)]) 47 2 dX9_isDrinking_44 rfl rfl (cn_1 _) rfl rfl ?_
          refine rz_goto 19 dX9_isDrinking_47 rfl ?_
          exact rz_sub [1, 2, 0] rfl (h19 l0 l1 (l2 + 1))
        · refine rz_iconst 43 dX9_isDrinking_42 rfl ci_1 ?_
          exact rz_zreturn rfl rfl dX9_isDrinking_43
def fX9_isDrinking (l0 : Nat) (l1 : Int32) : mM Int32 := bCallV 9 l0 (fX9_isAlive l0 l1) (fun x1 => bIf (x1 = 0) (bRetZ (0 : Int32)) (bCallV 9 l0 (fX9_isDry l0) (fun x2 => bIf (x2 = 0) (fX9_isDrinking_19 fu l0 l1 (0 : Int32)) (bRetZ (0 : Int32)))))
set_option maxRecDepth 20000 in
theorem rX9_isDrinking (v : mE) (d : Nat) (l0 : Nat) (l1 : Int32) : Rz v RX9 cX9_isDrinking 3 (some .boolean) false emI (d + 3) 0 [(0, vR l0), (1, vI l1)] [] (fX9_isDrinking l0 l1) := by
  unfold fX9_isDrinking
  refine rz_aload_n 1 0 dX9_isDrinking_0 rfl rfl ?_
  refine rz_iload_n 2 1 dX9_isDrinking_1 rfl rfl ?_
  refine rz_callV 5 dX9_isDrinking_2 rfl (tX9_isAlive v (d + 2) l0 l1) rfl rfl rfl rfl ml_X9_342 im_X9_isAlive se_X9_X9_isAlive in_X9 co_X9_isAlive rfl rfl (fun x1 => ?_)
  refine rz_if_eq 15 8 dX9_isDrinking_5 rfl rfl ?_ ?_
  · refine rz_iconst 16 dX9_isDrinking_15 rfl ci_0 ?_
    exact rz_zreturn rfl rfl dX9_isDrinking_16
  · refine rz_aload_n 9 0 dX9_isDrinking_8 rfl rfl ?_
    refine rz_callV 12 dX9_isDrinking_9 rfl (tX9_isDry v (d + 0) l0) rfl rfl rfl rfl ml_X9_345 im_X9_isDry se_X9_X9_isDry in_X9 co_X9_isDry rfl rfl (fun x2 => ?_)
    refine rz_if_eq 17 15 dX9_isDrinking_12 rfl rfl ?_ ?_
    · refine rz_iconst 18 dX9_isDrinking_17 rfl ci_0 ?_
      refine rz_istore_n (lv' := [(2, vI (0 : Int32)), (0, vR l0), (1, vI l1)]) 19 dX9_isDrinking_18 rfl rfl rfl ?_
      exact rz_sub [1, 2, 0] rfl (rX9_isDrinking_19 v d fu l0 l1 (0 : Int32))
    · refine rz_iconst 16 dX9_isDrinking_15 rfl ci_0 ?_
      exact rz_zreturn rfl rfl dX9_isDrinking_16
theorem tX9_isDrinking (v : mE) (d : Nat) (l0 : Nat) (l1 : Int32) : Mt v yX9_isDrinking cX9_isDrinking 3 (some .boolean) emI (d + 3) [vR l0, vI l1] (fX9_isDrinking l0 l1) := mt_of rfl rfl (fun h => by cases h) rfl rfl (rX9_isDrinking v d l0 l1)
theorem dX9_drinkers_0 : decode cX9_drinkers 0 = .ok (.iconst 0, 1) := by decide +kernel
theorem dX9_drinkers_1 : decode cX9_drinkers 1 = .ok (.istore_n 1, 1) := by decide +kernel
theorem dX9_drinkers_2 : decode cX9_drinkers 2 = .ok (.iconst 0, 1) := by decide +kernel
theorem dX9_drinkers_3 : decode cX9_drinkers 3 = .ok (.istore_n 2, 1) := by decide +kernel
theorem dX9_drinkers_4 : decode cX9_drinkers 4 = .ok (.iload_n 2, 1) := by decide +kernel
theorem dX9_drinkers_5 : decode cX9_drinkers 5 = .ok (.aload_n 0, 1) := by decide +kernel
theorem dX9_drinkers_6 : decode cX9_drinkers 6 = .ok (.getfield 35, 3) := by decide +kernel
theorem dX9_drinkers_9 : decode cX9_drinkers 9 = .ok (.bipush 7, 2) := by decide +kernel
theorem dX9_drinkers_11 : decode cX9_drinkers 11 = .ok (.iaload, 1) := by decide +kernel
theorem dX9_drinkers_12 : decode cX9_drinkers 12 = .ok (.if_icmp .ge 27, 3) := by decide +kernel
theorem dX9_drinkers_15 : decode cX9_drinkers 15 = .ok (.iload_n 1, 1) := by decide +kernel
theorem dX9_drinkers_16 : decode cX9_drinkers 16 = .ok (.aload_n 0, 1) := by decide +kernel
theorem dX9_drinkers_17 : decode cX9_drinkers 17 = .ok (.iload_n 2, 1) := by decide +kernel
theorem dX9_drinkers_18 : decode cX9_drinkers 18 = .ok (.invokevirtual 351, 3) := by decide +kernel
theorem dX9_drinkers_21 : decode cX9_drinkers 21 = .ok (.ifCond .eq 9, 3) := by decide +kernel
theorem dX9_drinkers_24 : decode cX9_drinkers 24 = .ok (.iconst 1, 1) := by decide +kernel
theorem dX9_drinkers_25 : decode cX9_drinkers 25 = .ok (.iload_n 2, 1) := by decide +kernel
theorem dX9_drinkers_26 : decode cX9_drinkers 26 = .ok (.ishl, 1) := by decide +kernel
theorem dX9_drinkers_27 : decode cX9_drinkers 27 = .ok (.goto 4, 3) := by decide +kernel
theorem dX9_drinkers_30 : decode cX9_drinkers 30 = .ok (.iconst 0, 1) := by decide +kernel
theorem dX9_drinkers_31 : decode cX9_drinkers 31 = .ok (.ior, 1) := by decide +kernel
theorem dX9_drinkers_32 : decode cX9_drinkers 32 = .ok (.istore_n 1, 1) := by decide +kernel
theorem dX9_drinkers_33 : decode cX9_drinkers 33 = .ok (.iinc 2 1, 3) := by decide +kernel
theorem dX9_drinkers_36 : decode cX9_drinkers 36 = .ok (.goto (-32), 3) := by decide +kernel
theorem dX9_drinkers_39 : decode cX9_drinkers 39 = .ok (.iload_n 1, 1) := by decide +kernel
theorem dX9_drinkers_40 : decode cX9_drinkers 40 = .ok (.ireturn, 1) := by decide +kernel
def fX9_drinkers_31 (r4 : Nat → Int32 → Int32 → mM Int32) (l0 : Nat) (l2 : Int32) (s0 : Int32) (s1 : Int32) : mM Int32 := r4 l0 (s1 ||| s0) (l2 + 1)
set_option maxRecDepth 20000 in
theorem rX9_drinkers_31 (v : mE) (d : Nat) (r4 : Nat → Int32 → Int32 → mM Int32) (h4 : ∀ (y0 : Nat) (y1 : Int32) (y2 : Int32), Rz v RX9 cX9_drinkers 3 (some .int) false emI (d + 4) 4 [(0, vR y0), (1, vI y1), (2, vI y2)] [] (r4 y0 y1 y2)) (l0 : Nat) (l2 : Int32) (s0 : Int32) (s1 : Int32) : Rz v RX9 cX9_drinkers 3 (some .int) false emI (d + 4) 31 [(0, vR l0), (2, vI l2)] [vI s0, vI s1] (fX9_drinkers_31 r4 l0 l2 s0 s1) := by
  unfold fX9_drinkers_31
  refine rz_ior 32 dX9_drinkers_31 rfl ?_
  refine rz_istore_n (lv' := [(1, vI (s1 ||| s0)), (0, vR l0), (2, vI l2)]) 33 dX9_drinkers_32 rfl rfl rfl ?_
  refine rz_iinc (lv' := [(2, vI (l2 + 1)), (1, vI (s1 ||| s0)), (0, vR l0)]) 36 2 dX9_drinkers_33 rfl rfl (cn_1 _) rfl rfl ?_
  refine rz_goto 4 dX9_drinkers_36 rfl ?_
  exact rz_sub [2, 1, 0] rfl (h4 l0 (s1 ||| s0) (l2 + 1))
def fX9_drinkers_4 : Nat → Nat → Int32 → Int32 → mM Int32
  | 0 => fun _ _ _ => fun _ => none
  | n + 1 => fun l0 l1 l2 => let r4 := fX9_drinkers_4 n; bGR 9 l0 24 (fun x1 => bAI 11 x1 (7 : Int32) (fun x2 => bIf (x2 ≤ l2) (bRet l1) (bCallV 9 l0 (fX9_isDrinking l0 l2) (fun x3 => bIf (x3 = 0) (fX9_drinkers_31 r4 l0 l2 (0 : Int32) l1) (fX9_drinkers_31 r4 l0 l2 ((1 : Int32) <<< (l2 &&& 31)) l1)))))
theorem qX9_drinkers_4  (n : Nat) (l0 : Nat) (l1 : Int32) (l2 : Int32) : fX9_drinkers_4 (n + 1) l0 l1 l2 = bGR 9 l0 24 (fun x1 => bAI 11 x1 (7 : Int32) (fun x2 => bIf (x2 ≤ l2) (bRet l1) (bCallV 9 l0 (fX9_isDrinking l0 l2) (fun x3 => bIf (x3 = 0) (fX9_drinkers_31 (fX9_drinkers_4 n) l0 l2 (0 : Int32) l1) (fX9_drinkers_31 (fX9_drinkers_4 n) l0 l2 ((1 : Int32) <<< (l2 &&& 31)) l1))))) := rfl
set_option maxRecDepth 20000 in
theorem rX9_drinkers_4 (v : mE) (d : Nat) : ∀ (n : Nat) (l0 : Nat) (l1 : Int32) (l2 : Int32), Rz v RX9 cX9_drinkers 3 (some .int) false emI (d + 4) 4 [(0, vR l0), (1, vI l1), (2, vI l2)] [] (fX9_drinkers_4 n l0 l1 l2)
  | 0, _, _, _ => fun _ _ _ hm => by cases hm
  | n + 1, l0, l1, l2 => by
    have h4 := rX9_drinkers_4 v d n
    unfold fX9_drinkers_4
    generalize fX9_drinkers_4 n = r4 at h4 ⊢
    refine rz_iload_n 5 2 dX9_drinkers_4 rfl rfl ?_
    refine rz_aload_n 6 0 dX9_drinkers_5 rfl rfl ?_
    refine rz_gR 9 dX9_drinkers_6 rfl rfl fl_X9_35 (fun x1 => ?_)
    refine rz_bipush 11 dX9_drinkers_9 rfl cb_7 ?_
    refine rz_iald 12 dX9_drinkers_11 rfl (fun x2 => ?_)
    refine rz_icmp_ge 39 15 dX9_drinkers_12 rfl rfl ?_ ?_
    · refine rz_iload_n 40 1 dX9_drinkers_39 rfl rfl ?_
      exact rz_ireturn rfl rfl dX9_drinkers_40
    · refine rz_iload_n 16 1 dX9_drinkers_15 rfl rfl ?_
      refine rz_aload_n 17 0 dX9_drinkers_16 rfl rfl ?_
      refine rz_iload_n 18 2 dX9_drinkers_17 rfl rfl ?_
      refine rz_callV 21 dX9_drinkers_18 rfl (tX9_isDrinking v (d + 0) l0 l2) rfl rfl rfl rfl ml_X9_351 im_X9_isDrinking se_X9_X9_isDrinking in_X9 co_X9_isDrinking rfl rfl (fun x3 => ?_)
      refine rz_if_eq 30 24 dX9_drinkers_21 rfl rfl ?_ ?_
      · refine rz_iconst 31 dX9_drinkers_30 rfl ci_0 ?_
        exact rz_sub [0, 2] rfl (rX9_drinkers_31 v d r4 h4 l0 l2 (0 : Int32) l1)
      · refine rz_iconst 25 dX9_drinkers_24 rfl ci_1 ?_
        refine rz_iload_n 26 2 dX9_drinkers_25 rfl rfl ?_
        refine rz_ishl 27 dX9_drinkers_26 rfl ?_
        refine rz_goto 31 dX9_drinkers_27 rfl ?_
        exact rz_sub [0, 2] rfl (rX9_drinkers_31 v d r4 h4 l0 l2 ((1 : Int32) <<< (l2 &&& 31)) l1)
def fX9_drinkers (l0 : Nat) : mM Int32 := fX9_drinkers_4 fu l0 (0 : Int32) (0 : Int32)
set_option maxRecDepth 20000 in
theorem rX9_drinkers (v : mE) (d : Nat) (l0 : Nat) : Rz v RX9 cX9_drinkers 3 (some .int) false emI (d + 4) 0 [(0, vR l0)] [] (fX9_drinkers l0) := by
  unfold fX9_drinkers
  refine rz_iconst 1 dX9_drinkers_0 rfl ci_0 ?_
  refine rz_istore_n (lv' := [(1, vI (0 : Int32)), (0, vR l0)]) 2 dX9_drinkers_1 rfl rfl rfl ?_
  refine rz_iconst 3 dX9_drinkers_2 rfl ci_0 ?_
  refine rz_istore_n (lv' := [(2, vI (0 : Int32)), (1, vI (0 : Int32)), (0, vR l0)]) 4 dX9_drinkers_3 rfl rfl rfl ?_
  exact rz_sub [2, 1, 0] rfl (rX9_drinkers_4 v d fu l0 (0 : Int32) (0 : Int32))
theorem tX9_drinkers (v : mE) (d : Nat) (l0 : Nat) : Mt v yX9_drinkers cX9_drinkers 3 (some .int) emI (d + 4) [vR l0] (fX9_drinkers l0) := mt_of rfl rfl (fun h => by cases h) rfl rfl (rX9_drinkers v d l0)
theorem dX9_bits_0 : decode cX9_bits 0 = .ok (.iconst 0, 1) := by decide +kernel
theorem dX9_bits_1 : decode cX9_bits 1 = .ok (.istore_n 1, 1) := by decide +kernel
theorem dX9_bits_2 : decode cX9_bits 2 = .ok (.iconst 0, 1) := by decide +kernel
theorem dX9_bits_3 : decode cX9_bits 3 = .ok (.istore_n 2, 1) := by decide +kernel
theorem dX9_bits_4 : decode cX9_bits 4 = .ok (.iload_n 2, 1) := by decide +kernel
theorem dX9_bits_5 : decode cX9_bits 5 = .ok (.bipush 12, 2) := by decide +kernel
theorem dX9_bits_7 : decode cX9_bits 7 = .ok (.if_icmp .ge 17, 3) := by decide +kernel
theorem dX9_bits_10 : decode cX9_bits 10 = .ok (.iload_n 1, 1) := by decide +kernel
theorem dX9_bits_11 : decode cX9_bits 11 = .ok (.iload_n 0, 1) := by decide +kernel
theorem dX9_bits_12 : decode cX9_bits 12 = .ok (.iload_n 2, 1) := by decide +kernel
theorem dX9_bits_13 : decode cX9_bits 13 = .ok (.ishr, 1) := by decide +kernel
theorem dX9_bits_14 : decode cX9_bits 14 = .ok (.iconst 1, 1) := by decide +kernel
theorem dX9_bits_15 : decode cX9_bits 15 = .ok (.iand, 1) := by decide +kernel
theorem dX9_bits_16 : decode cX9_bits 16 = .ok (.iadd, 1) := by decide +kernel
theorem dX9_bits_17 : decode cX9_bits 17 = .ok (.istore_n 1, 1) := by decide +kernel
theorem dX9_bits_18 : decode cX9_bits 18 = .ok (.iinc 2 1, 3) := by decide +kernel
theorem dX9_bits_21 : decode cX9_bits 21 = .ok (.goto (-17), 3) := by decide +kernel
theorem dX9_bits_24 : decode cX9_bits 24 = .ok (.iload_n 1, 1) := by decide +kernel
theorem dX9_bits_25 : decode cX9_bits 25 = .ok (.ireturn, 1) := by decide +kernel
def fX9_bits_4 : Nat → Int32 → Int32 → Int32 → mM Int32
  | 0 => fun _ _ _ => fun _ => none
  | n + 1 => fun l0 l1 l2 => let r4 := fX9_bits_4 n; bIf ((12 : Int32) ≤ l2) (bRet l1) (r4 l0 (l1 + ((l0 >>> (l2 &&& 31)) &&& (1 : Int32))) (l2 + 1))
theorem qX9_bits_4  (n : Nat) (l0 : Int32) (l1 : Int32) (l2 : Int32) : fX9_bits_4 (n + 1) l0 l1 l2 = bIf ((12 : Int32) ≤ l2) (bRet l1) ((fX9_bits_4 n) l0 (l1 + ((l0 >>> (l2 &&& 31)) &&& (1 : Int32))) (l2 + 1)) := rfl
set_option maxRecDepth 20000 in
theorem rX9_bits_4 (v : mE) (d : Nat) : ∀ (n : Nat) (l0 : Int32) (l1 : Int32) (l2 : Int32), Rz v RX9 cX9_bits 3 (some .int) false emI (d + 0) 4 [(0, vI l0), (1, vI l1), (2, vI l2)] [] (fX9_bits_4 n l0 l1 l2)
  | 0, _, _, _ => fun _ _ _ hm => by cases hm
  | n + 1, l0, l1, l2 => by
    have h4 := rX9_bits_4 v d n
    unfold fX9_bits_4
    generalize fX9_bits_4 n = r4 at h4 ⊢
    refine rz_iload_n 5 2 dX9_bits_4 rfl rfl ?_
    refine rz_bipush 7 dX9_bits_5 rfl cb_12 ?_
    refine rz_icmp_ge 24 10 dX9_bits_7 rfl rfl ?_ ?_
    · refine rz_iload_n 25 1 dX9_bits_24 rfl rfl ?_
      exact rz_ireturn rfl rfl dX9_bits_25
    · refine rz_iload_n 11 1 dX9_bits_10 rfl rfl ?_
      refine rz_iload_n 12 0 dX9_bits_11 rfl rfl ?_
      refine rz_iload_n 13 2 dX9_bits_12 rfl rfl ?_
      refine rz_ishr 14 dX9_bits_13 rfl ?_
      refine rz_iconst 15 dX9_bits_14 rfl ci_1 ?_
      refine rz_iand 16 dX9_bits_15 rfl ?_
      refine rz_iadd 17 dX9_bits_16 rfl ?_
      refine rz_istore_n (lv' := [(1, vI (l1 + ((l0 >>> (l2 &&& 31)) &&& (1 : Int32)))), (0, vI l0), (2, vI l2)]) 18 dX9_bits_17 rfl rfl rfl ?_
      refine rz_iinc (lv' := [(2, vI (l2 + 1)), (1, vI (l1 + ((l0 >>> (l2 &&& 31)) &&& (1 : Int32)))), (0, vI l0)]) 21 2 dX9_bits_18 rfl rfl (cn_1 _) rfl rfl ?_
      refine rz_goto 4 dX9_bits_21 rfl ?_
      exact rz_sub [2, 1, 0] rfl (h4 l0 (l1 + ((l0 >>> (l2 &&& 31)) &&& (1 : Int32))) (l2 + 1))
def fX9_bits (l0 : Int32) : mM Int32 := fX9_bits_4 fu l0 (0 : Int32) (0 : Int32)
set_option maxRecDepth 20000 in
theorem rX9_bits (v : mE) (d : Nat) (l0 : Int32) : Rz v RX9 cX9_bits 3 (some .int) false emI (d + 0) 0 [(0, vI l0)] [] (fX9_bits l0) := by
  unfold fX9_bits
  refine rz_iconst 1 dX9_bits_0 rfl ci_0 ?_
  refine rz_istore_n (lv' := [(1, vI (0 : Int32)), (0, vI l0)]) 2 dX9_bits_1 rfl rfl rfl ?_
  refine rz_iconst 3 dX9_bits_2 rfl ci_0 ?_
  refine rz_istore_n (lv' := [(2, vI (0 : Int32)), (1, vI (0 : Int32)), (0, vI l0)]) 4 dX9_bits_3 rfl rfl rfl ?_
  exact rz_sub [2, 1, 0] rfl (rX9_bits_4 v d fu l0 (0 : Int32) (0 : Int32))
theorem tX9_bits (v : mE) (d : Nat) (l0 : Int32) : Mt v yX9_bits cX9_bits 3 (some .int) emI (d + 0) [vI l0] (fX9_bits l0) := mt_of rfl rfl (fun h => by cases h) rfl rfl (rX9_bits v d l0)
theorem dX9_childrenOf_0 : decode cX9_childrenOf 0 = .ok (.iconst 0, 1) := by decide +kernel
theorem dX9_childrenOf_1 : decode cX9_childrenOf 1 = .ok (.istore_n 2, 1) := by decide +kernel
theorem dX9_childrenOf_2 : decode cX9_childrenOf 2 = .ok (.iconst 0, 1) := by decide +kernel
theorem dX9_childrenOf_3 : decode cX9_childrenOf 3 = .ok (.istore_n 3, 1) := by decide +kernel
theorem dX9_childrenOf_4 : decode cX9_childrenOf 4 = .ok (.iload_n 3, 1) := by decide +kernel
theorem dX9_childrenOf_5 : decode cX9_childrenOf 5 = .ok (.aload_n 0, 1) := by decide +kernel
theorem dX9_childrenOf_6 : decode cX9_childrenOf 6 = .ok (.getfield 35, 3) := by decide +kernel
theorem dX9_childrenOf_9 : decode cX9_childrenOf 9 = .ok (.bipush 7, 2) := by decide +kernel
theorem dX9_childrenOf_11 : decode cX9_childrenOf 11 = .ok (.iaload, 1) := by decide +kernel
theorem dX9_childrenOf_12 : decode cX9_childrenOf 12 = .ok (.if_icmp .ge 40, 3) := by decide +kernel
theorem dX9_childrenOf_15 : decode cX9_childrenOf 15 = .ok (.iload_n 2, 1) := by decide +kernel
theorem dX9_childrenOf_16 : decode cX9_childrenOf 16 = .ok (.aload_n 0, 1) := by decide +kernel
theorem dX9_childrenOf_17 : decode cX9_childrenOf 17 = .ok (.getfield 35, 3) := by decide +kernel
theorem dX9_childrenOf_20 : decode cX9_childrenOf 20 = .ok (.bipush 9, 2) := by decide +kernel
theorem dX9_childrenOf_22 : decode cX9_childrenOf 22 = .ok (.iload_n 3, 1) := by decide +kernel
theorem dX9_childrenOf_23 : decode cX9_childrenOf 23 = .ok (.iadd, 1) := by decide +kernel
theorem dX9_childrenOf_24 : decode cX9_childrenOf 24 = .ok (.iaload, 1) := by decide +kernel
theorem dX9_childrenOf_25 : decode cX9_childrenOf 25 = .ok (.iload_n 1, 1) := by decide +kernel
theorem dX9_childrenOf_26 : decode cX9_childrenOf 26 = .ok (.if_icmp .ne 17, 3) := by decide +kernel
theorem dX9_childrenOf_29 : decode cX9_childrenOf 29 = .ok (.aload_n 0, 1) := by decide +kernel
theorem dX9_childrenOf_30 : decode cX9_childrenOf 30 = .ok (.iload_n 3, 1) := by decide +kernel
theorem dX9_childrenOf_31 : decode cX9_childrenOf 31 = .ok (.invokevirtual 342, 3) := by decide +kernel
theorem dX9_childrenOf_34 : decode cX9_childrenOf 34 = .ok (.ifCond .eq 9, 3) := by decide +kernel
theorem dX9_childrenOf_37 : decode cX9_childrenOf 37 = .ok (.iconst 1, 1) := by decide +kernel
theorem dX9_childrenOf_38 : decode cX9_childrenOf 38 = .ok (.iload_n 3, 1) := by decide +kernel
theorem dX9_childrenOf_39 : decode cX9_childrenOf 39 = .ok (.ishl, 1) := by decide +kernel
theorem dX9_childrenOf_40 : decode cX9_childrenOf 40 = .ok (.goto 4, 3) := by decide +kernel
theorem dX9_childrenOf_43 : decode cX9_childrenOf 43 = .ok (.iconst 0, 1) := by decide +kernel
theorem dX9_childrenOf_44 : decode cX9_childrenOf 44 = .ok (.ior, 1) := by decide +kernel
theorem dX9_childrenOf_45 : decode cX9_childrenOf 45 = .ok (.istore_n 2, 1) := by decide +kernel
theorem dX9_childrenOf_46 : decode cX9_childrenOf 46 = .ok (.iinc 3 1, 3) := by decide +kernel
theorem dX9_childrenOf_49 : decode cX9_childrenOf 49 = .ok (.goto (-45), 3) := by decide +kernel
theorem dX9_childrenOf_52 : decode cX9_childrenOf 52 = .ok (.iload_n 2, 1) := by decide +kernel
theorem dX9_childrenOf_53 : decode cX9_childrenOf 53 = .ok (.ireturn, 1) := by decide +kernel
def fX9_childrenOf_44 (r4 : Nat → Int32 → Int32 → Int32 → mM Int32) (l0 : Nat) (l1 : Int32) (l3 : Int32) (s0 : Int32) (s1 : Int32) : mM Int32 := r4 l0 l1 (s1 ||| s0) (l3 + 1)
set_option maxRecDepth 20000 in
theorem rX9_childrenOf_44 (v : mE) (d : Nat) (r4 : Nat → Int32 → Int32 → Int32 → mM Int32) (h4 : ∀ (y0 : Nat) (y1 : Int32) (y2 : Int32) (y3 : Int32), Rz v RX9 cX9_childrenOf 4 (some .int) false emI (d + 1) 4 [(0, vR y0), (1, vI y1), (2, vI y2), (3, vI y3)] [] (r4 y0 y1 y2 y3)) (l0 : Nat) (l1 : Int32) (l3 : Int32) (s0 : Int32) (s1 : Int32) : Rz v RX9 cX9_childrenOf 4 (some .int) false emI (d + 1) 44 [(0, vR l0), (1, vI l1), (3, vI l3)] [vI s0, vI s1] (fX9_childrenOf_44 r4 l0 l1 l3 s0 s1) := by
  unfold fX9_childrenOf_44
  refine rz_ior 45 dX9_childrenOf_44 rfl ?_
  refine rz_istore_n (lv' := [(2, vI (s1 ||| s0)), (0, vR l0), (1, vI l1), (3, vI l3)]) 46 dX9_childrenOf_45 rfl rfl rfl ?_
  refine rz_iinc (lv' := [(3, vI (l3 + 1)), (2, vI (s1 ||| s0)), (0, vR l0), (1, vI l1)]) 49 3 dX9_childrenOf_46 rfl rfl (cn_1 _) rfl rfl ?_
  refine rz_goto 4 dX9_childrenOf_49 rfl ?_
  exact rz_sub [2, 3, 1, 0] rfl (h4 l0 l1 (s1 ||| s0) (l3 + 1))
def fX9_childrenOf_43 (r4 : Nat → Int32 → Int32 → Int32 → mM Int32) (l0 : Nat) (l1 : Int32) (l3 : Int32) (s0 : Int32) : mM Int32 := fX9_childrenOf_44 r4 l0 l1 l3 (0 : Int32) s0
set_option maxRecDepth 20000 in
theorem rX9_childrenOf_43 (v : mE) (d : Nat) (r4 : Nat → Int32 → Int32 → Int32 → mM Int32) (h4 : ∀ (y0 : Nat) (y1 : Int32) (y2 : Int32) (y3 : Int32), Rz v RX9 cX9_childrenOf 4 (some .int) false emI (d + 1) 4 [(0, vR y0), (1, vI y1), (2, vI y2), (3, vI y3)] [] (r4 y0 y1 y2 y3)) (l0 : Nat) (l1 : Int32) (l3 : Int32) (s0 : Int32) : Rz v RX9 cX9_childrenOf 4 (some .int) false emI (d + 1) 43 [(0, vR l0), (1, vI l1), (3, vI l3)] [vI s0] (fX9_childrenOf_43 r4 l0 l1 l3 s0) := by
  unfold fX9_childrenOf_43
  refine rz_iconst 44 dX9_childrenOf_43 rfl ci_0 ?_
  exact rz_sub [0, 1, 2] rfl (rX9_childrenOf_44 v d r4 h4 l0 l1 l3 (0 : Int32) s0)
def fX9_childrenOf_4 : Nat → Nat → Int32 → Int32 → Int32 → mM Int32
  | 0 => fun _ _ _ _ => fun _ => none
  | n + 1 => fun l0 l1 l2 l3 => let r4 := fX9_childrenOf_4 n; bGR 9 l0 24 (fun x1 => bAI 11 x1 (7 : Int32) (fun x2 => bIf (x2 ≤ l3) (bRet l2) (bGR 9 l0 24 (fun x3 => bAI 11 x3 ((9 : Int32) + l3) (fun x4 => bIf (x4 = l1) (bCallV 9 l0 (fX9_isAlive l0 l3) (fun x5 => bIf (x5 = 0) (fX9_childrenOf_43 r4 l0 l1 l3 l2) (fX9_childrenOf_44 r4 l0 l1 l3 ((1 : Int32) <<< (l3 &&& 31)) l2))) (fX9_childrenOf_43 r4 l0 l1 l3 l2))))))
theorem qX9_childrenOf_4  (n : Nat) (l0 : Nat) (l1 : Int32) (l2 : Int32) (l3 : Int32) : fX9_childrenOf_4 (n + 1) l0 l1 l2 l3 = bGR 9 l0 24 (fun x1 => bAI 11 x1 (7 : Int32) (fun x2 => bIf (x2 ≤ l3) (bRet l2) (bGR 9 l0 24 (fun x3 => bAI 11 x3 ((9 : Int32) + l3) (fun x4 => bIf (x4 = l1) (bCallV 9 l0 (fX9_isAlive l0 l3) (fun x5 => bIf (x5 = 0) (fX9_childrenOf_43 (fX9_childrenOf_4 n) l0 l1 l3 l2) (fX9_childrenOf_44 (fX9_childrenOf_4 n) l0 l1 l3 ((1 : Int32) <<< (l3 &&& 31)) l2))) (fX9_childrenOf_43 (fX9_childrenOf_4 n) l0 l1 l3 l2)))))) := rfl
set_option maxRecDepth 20000 in
theorem rX9_childrenOf_4 (v : mE) (d : Nat) : ∀ (n : Nat) (l0 : Nat) (l1 : Int32) (l2 : Int32) (l3 : Int32), Rz v RX9 cX9_childrenOf 4 (some .int) false emI (d + 1) 4 [(0, vR l0), (1, vI l1), (2, vI l2), (3, vI l3)] [] (fX9_childrenOf_4 n l0 l1 l2 l3)
  | 0, _, _, _, _ => fun _ _ _ hm => by cases hm
  | n + 1, l0, l1, l2, l3 => by
    have h4 := rX9_childrenOf_4 v d n
    unfold fX9_childrenOf_4
    generalize fX9_childrenOf_4 n = r4 at h4 ⊢
    refine rz_iload_n 5 3 dX9_childrenOf_4 rfl rfl ?_
    refine rz_aload_n 6 0 dX9_childrenOf_5 rfl rfl ?_
    refine rz_gR 9 dX9_childrenOf_6 rfl rfl fl_X9_35 (fun x1 => ?_)
    refine rz_bipush 11 dX9_childrenOf_9 rfl cb_7 ?_
    refine rz_iald 12 dX9_childrenOf_11 rfl (fun x2 => ?_)
    refine rz_icmp_ge 52 15 dX9_childrenOf_12 rfl rfl ?_ ?_
    · refine rz_iload_n 53 2 dX9_childrenOf_52 rfl rfl ?_
      exact rz_ireturn rfl rfl dX9_childrenOf_53
    · refine rz_iload_n 16 2 dX9_childrenOf_15 rfl rfl ?_
      refine rz_aload_n 17 0 dX9_childrenOf_16 rfl rfl ?_
      refine rz_gR 20 dX9_childrenOf_17 rfl rfl fl_X9_35 (fun x3 => ?_)
      refine rz_bipush 22 dX9_childrenOf_20 rfl cb_9 ?_
      refine rz_iload_n 23 3 dX9_childrenOf_22 rfl rfl ?_
      refine rz_iadd 24 dX9_childrenOf_23 rfl ?_
      refine rz_iald 25 dX9_childrenOf_24 rfl (fun x4 => ?_)
      refine rz_iload_n 26 1 dX9_childrenOf_25 rfl rfl ?_
      refine rz_icmp_ne 43 29 dX9_childrenOf_26 rfl rfl ?_ ?_
      · exact rz_sub [0, 1, 3] rfl (rX9_childrenOf_43 v d r4 h4 l0 l1 l3 l2)
      · refine rz_aload_n 30 0 dX9_childrenOf_29 rfl rfl ?_
        refine rz_iload_n 31 3 dX9_childrenOf_30 rfl rfl ?_
        refine rz_callV 34 dX9_childrenOf_31 rfl (tX9_isAlive v (d + 0) l0 l3) rfl rfl rfl rfl ml_X9_342 im_X9_isAlive se_X9_X9_isAlive in_X9 co_X9_isAlive rfl rfl (fun x5 => ?_)
        refine rz_if_eq 43 37 dX9_childrenOf_34 rfl rfl ?_ ?_
        · exact rz_sub [0, 1, 3] rfl (rX9_childrenOf_43 v d r4 h4 l0 l1 l3 l2)
        · refine rz_iconst 38 dX9_childrenOf_37 rfl ci_1 ?_
          refine rz_iload_n 39 3 dX9_childrenOf_38 rfl rfl ?_
          refine rz_ishl 40 dX9_childrenOf_39 rfl ?_
          refine rz_goto 44 dX9_childrenOf_40 rfl ?_
          exact rz_sub [0, 1, 3] rfl (rX9_childrenOf_44 v d r4 h4 l0 l1 l3 ((1 : Int32) <<< (l3 &&& 31)) l2)
def fX9_childrenOf (l0 : Nat) (l1 : Int32) : mM Int32 := fX9_childrenOf_4 fu l0 l1 (0 : Int32) (0 : Int32)
set_option maxRecDepth 20000 in
theorem rX9_childrenOf (v : mE) (d : Nat) (l0 : Nat) (l1 : Int32) : Rz v RX9 cX9_childrenOf 4 (some .int) false emI (d + 1) 0 [(0, vR l0), (1, vI l1)] [] (fX9_childrenOf l0 l1) := by
  unfold fX9_childrenOf
  refine rz_iconst 1 dX9_childrenOf_0 rfl ci_0 ?_
  refine rz_istore_n (lv' := [(2, vI (0 : Int32)), (0, vR l0), (1, vI l1)]) 2 dX9_childrenOf_1 rfl rfl rfl ?_
  refine rz_iconst 3 dX9_childrenOf_2 rfl ci_0 ?_
  refine rz_istore_n (lv' := [(3, vI (0 : Int32)), (2, vI (0 : Int32)), (0, vR l0), (1, vI l1)]) 4 dX9_childrenOf_3 rfl rfl rfl ?_
  exact rz_sub [2, 3, 1, 0] rfl (rX9_childrenOf_4 v d fu l0 l1 (0 : Int32) (0 : Int32))
theorem tX9_childrenOf (v : mE) (d : Nat) (l0 : Nat) (l1 : Int32) : Mt v yX9_childrenOf cX9_childrenOf 4 (some .int) emI (d + 1) [vR l0, vI l1] (fX9_childrenOf l0 l1) := mt_of rfl rfl (fun h => by cases h) rfl rfl (rX9_childrenOf v d l0 l1)
theorem dX9_many_0 : decode cX9_many 0 = .ok (.aload_n 0, 1) := by decide +kernel
theorem dX9_many_1 : decode cX9_many 1 = .ok (.iconst 0, 1) := by decide +kernel
theorem dX9_many_2 : decode cX9_many 2 = .ok (.putfield 62, 3) := by decide +kernel
theorem dX9_many_5 : decode cX9_many 5 = .ok (.aload_n 0, 1) := by decide +kernel
theorem dX9_many_6 : decode cX9_many 6 = .ok (.iconst 0, 1) := by decide +kernel
theorem dX9_many_7 : decode cX9_many 7 = .ok (.putfield 65, 3) := by decide +kernel
theorem dX9_many_10 : decode cX9_many 10 = .ok (.iload_n 1, 1) := by decide +kernel
theorem dX9_many_11 : decode cX9_many 11 = .ok (.tableswitch 90 0 6 #[41, 49, 54, 63, 70, 75, 82], 41) := by decide +kernel
theorem dX9_many_52 : decode cX9_many 52 = .ok (.aload_n 0, 1) := by decide +kernel
theorem dX9_many_53 : decode cX9_many 53 = .ok (.getfield 35, 3) := by decide +kernel
theorem dX9_many_56 : decode cX9_many 56 = .ok (.bipush 7, 2) := by decide +kernel
theorem dX9_many_58 : decode cX9_many 58 = .ok (.iaload, 1) := by decide +kernel
theorem dX9_many_59 : decode cX9_many 59 = .ok (.ireturn, 1) := by decide +kernel
theorem dX9_many_60 : decode cX9_many 60 = .ok (.aload_n 0, 1) := by decide +kernel
theorem dX9_many_61 : decode cX9_many 61 = .ok (.invokevirtual 354, 3) := by decide +kernel
theorem dX9_many_64 : decode cX9_many 64 = .ok (.ireturn, 1) := by decide +kernel
theorem dX9_many_65 : decode cX9_many 65 = .ok (.aload_n 0, 1) := by decide +kernel
theorem dX9_many_66 : decode cX9_many 66 = .ok (.getfield 35, 3) := by decide +kernel
theorem dX9_many_69 : decode cX9_many 69 = .ok (.sipush 289, 3) := by decide +kernel
theorem dX9_many_72 : decode cX9_many 72 = .ok (.iaload, 1) := by decide +kernel
theorem dX9_many_73 : decode cX9_many 73 = .ok (.ireturn, 1) := by decide +kernel
theorem dX9_many_74 : decode cX9_many 74 = .ok (.aload_n 0, 1) := by decide +kernel
theorem dX9_many_75 : decode cX9_many 75 = .ok (.getfield 35, 3) := by decide +kernel
theorem dX9_many_78 : decode cX9_many 78 = .ok (.iconst 5, 1) := by decide +kernel
theorem dX9_many_79 : decode cX9_many 79 = .ok (.iaload, 1) := by decide +kernel
theorem dX9_many_80 : decode cX9_many 80 = .ok (.ireturn, 1) := by decide +kernel
theorem dX9_many_81 : decode cX9_many 81 = .ok (.aload_n 0, 1) := by decide +kernel
theorem dX9_many_82 : decode cX9_many 82 = .ok (.invokevirtual 324, 3) := by decide +kernel
theorem dX9_many_85 : decode cX9_many 85 = .ok (.ireturn, 1) := by decide +kernel
theorem dX9_many_86 : decode cX9_many 86 = .ok (.aload_n 0, 1) := by decide +kernel
theorem dX9_many_87 : decode cX9_many 87 = .ok (.getfield 35, 3) := by decide +kernel
theorem dX9_many_90 : decode cX9_many 90 = .ok (.iconst 1, 1) := by decide +kernel
theorem dX9_many_91 : decode cX9_many 91 = .ok (.iaload, 1) := by decide +kernel
theorem dX9_many_92 : decode cX9_many 92 = .ok (.ireturn, 1) := by decide +kernel
theorem dX9_many_93 : decode cX9_many 93 = .ok (.aload_n 0, 1) := by decide +kernel
theorem dX9_many_94 : decode cX9_many 94 = .ok (.getfield 35, 3) := by decide +kernel
theorem dX9_many_97 : decode cX9_many 97 = .ok (.bipush 6, 2) := by decide +kernel
theorem dX9_many_99 : decode cX9_many 99 = .ok (.iaload, 1) := by decide +kernel
theorem dX9_many_100 : decode cX9_many 100 = .ok (.ireturn, 1) := by decide +kernel
theorem dX9_many_101 : decode cX9_many 101 = .ok (.aload_n 0, 1) := by decide +kernel
theorem dX9_many_102 : decode cX9_many 102 = .ok (.iconst 5, 1) := by decide +kernel
theorem dX9_many_103 : decode cX9_many 103 = .ok (.invokevirtual 357, 3) := by decide +kernel
theorem dX9_many_106 : decode cX9_many 106 = .ok (.ireturn, 1) := by decide +kernel
def fX9_many (l0 : Nat) (l1 : Int32) : mM Int32 := bPI 9 l0 1 (0 : Int32) (bPI 9 l0 0 (0 : Int32) (bSw l1 0 [(52, bGR 9 l0 24 (fun x2 => bAI 11 x2 (7 : Int32) (fun x3 => bRet x3))), (60, bCallV 9 l0 (fX9_ropes l0) (fun x4 => bRet x4)), (65, bGR 9 l0 24 (fun x5 => bAI 11 x5 (289 : Int32) (fun x6 => bRet x6))), (74, bGR 9 l0 24 (fun x7 => bAI 11 x7 (5 : Int32) (fun x8 => bRet x8))), (81, bCallV 9 l0 (fX9_depthNow l0) (fun x9 => bRet x9)), (86, bGR 9 l0 24 (fun x10 => bAI 11 x10 (1 : Int32) (fun x11 => bRet x11))), (93, bGR 9 l0 24 (fun x12 => bAI 11 x12 (6 : Int32) (fun x13 => bRet x13)))] (bCallV 9 l0 (fX9_refuse l0 (5 : Int32)) (fun x1 => bRet x1))))
set_option maxRecDepth 20000 in
theorem rX9_many (v : mE) (d : Nat) (l0 : Nat) (l1 : Int32) : Rz v RX9 cX9_many 2 (some .int) false emI (d + 3) 0 [(0, vR l0), (1, vI l1)] [] (fX9_many l0 l1) := by
  unfold fX9_many
  refine rz_aload_n 1 0 dX9_many_0 rfl rfl ?_
  refine rz_iconst 2 dX9_many_1 rfl ci_0 ?_
  refine rz_pI 5 dX9_many_2 rfl rfl rfl rfl fl_X9_62 ?_
  refine rz_aload_n 6 0 dX9_many_5 rfl rfl ?_
  refine rz_iconst 7 dX9_many_6 rfl ci_0 ?_
  refine rz_pI 10 dX9_many_7 rfl rfl rfl rfl fl_X9_65 ?_
  refine rz_iload_n 11 1 dX9_many_10 rfl rfl ?_
  refine rz_table 101 dX9_many_11 rfl rfl rfl rfl ?_ ?_
  · refine rz_aload_n 102 0 dX9_many_101 rfl rfl ?_
    refine rz_iconst 103 dX9_many_102 rfl ci_5 ?_
    refine rz_callV 106 dX9_many_103 rfl (tX9_refuse v (d + 2) l0 (5 : Int32)) rfl rfl rfl rfl ml_X9_357 im_X9_refuse se_X9_X9_refuse in_X9 co_X9_refuse rfl rfl (fun x1 => ?_)
    exact rz_ireturn rfl rfl dX9_many_106
  · refine List.forall_mem_cons.mpr ⟨?_, List.forall_mem_cons.mpr ⟨?_, List.forall_mem_cons.mpr ⟨?_, List.forall_mem_cons.mpr ⟨?_, List.forall_mem_cons.mpr ⟨?_, List.forall_mem_cons.mpr ⟨?_, List.forall_mem_cons.mpr ⟨?_, fun _ h => absurd h List.not_mem_nil⟩⟩⟩⟩⟩⟩⟩
    · refine rz_pr ?_
      refine rz_aload_n 53 0 dX9_many_52 rfl rfl ?_
      refine rz_gR 56 dX9_many_53 rfl rfl fl_X9_35 (fun x2 => ?_)
      refine rz_bipush 58 dX9_many_56 rfl cb_7 ?_
      refine rz_iald 59 dX9_many_58 rfl (fun x3 => ?_)
      exact rz_ireturn rfl rfl dX9_many_59
    · refine rz_pr ?_
      refine rz_aload_n 61 0 dX9_many_60 rfl rfl ?_
      refine rz_callV 64 dX9_many_61 rfl (tX9_ropes v (d + 0) l0) rfl rfl rfl rfl ml_X9_354 im_X9_ropes se_X9_X9_ropes in_X9 co_X9_ropes rfl rfl (fun x4 => ?_)
      exact rz_ireturn rfl rfl dX9_many_64
    · refine rz_pr ?_
      refine rz_aload_n 66 0 dX9_many_65 rfl rfl ?_
      refine rz_gR 69 dX9_many_66 rfl rfl fl_X9_35 (fun x5 => ?_)
      refine rz_sipush 72 dX9_many_69 rfl cs_289 ?_
      refine rz_iald 73 dX9_many_72 rfl (fun x6 => ?_)
      exact rz_ireturn rfl rfl dX9_many_73
    · refine rz_pr ?_
      refine rz_aload_n 75 0 dX9_many_74 rfl rfl ?_
      refine rz_gR 78 dX9_many_75 rfl rfl fl_X9_35 (fun x7 => ?_)
      refine rz_iconst 79 dX9_many_78 rfl ci_5 ?_
      refine rz_iald 80 dX9_many_79 rfl (fun x8 => ?_)
      exact rz_ireturn rfl rfl dX9_many_80
    · refine rz_pr ?_
      refine rz_aload_n 82 0 dX9_many_81 rfl rfl ?_
      refine rz_callV 85 dX9_many_82 rfl (tX9_depthNow v (d + 1) l0) rfl rfl rfl rfl ml_X9_324 im_X9_depthNow se_X9_X9_depthNow in_X9 co_X9_depthNow rfl rfl (fun x9 => ?_)
      exact rz_ireturn rfl rfl dX9_many_85
    · refine rz_pr ?_
      refine rz_aload_n 87 0 dX9_many_86 rfl rfl ?_
      refine rz_gR 90 dX9_many_87 rfl rfl fl_X9_35 (fun x10 => ?_)
      refine rz_iconst 91 dX9_many_90 rfl ci_1 ?_
      refine rz_iald 92 dX9_many_91 rfl (fun x11 => ?_)
      exact rz_ireturn rfl rfl dX9_many_92
    · refine rz_pr ?_
      refine rz_aload_n 94 0 dX9_many_93 rfl rfl ?_
      refine rz_gR 97 dX9_many_94 rfl rfl fl_X9_35 (fun x12 => ?_)
      refine rz_bipush 99 dX9_many_97 rfl cb_6 ?_
      refine rz_iald 100 dX9_many_99 rfl (fun x13 => ?_)
      exact rz_ireturn rfl rfl dX9_many_100
theorem tX9_many (v : mE) (d : Nat) (l0 : Nat) (l1 : Int32) : Mt v yX9_many cX9_many 2 (some .int) emI (d + 3) [vR l0, vI l1] (fX9_many l0 l1) := mt_of rfl rfl (fun h => by cases h) rfl rfl (rX9_many v d l0 l1)
theorem dX9_person_0 : decode cX9_person 0 = .ok (.aload_n 0, 1) := by decide +kernel
theorem dX9_person_1 : decode cX9_person 1 = .ok (.iconst 0, 1) := by decide +kernel
theorem dX9_person_2 : decode cX9_person 2 = .ok (.putfield 62, 3) := by decide +kernel
theorem dX9_person_5 : decode cX9_person 5 = .ok (.aload_n 0, 1) := by decide +kernel
theorem dX9_person_6 : decode cX9_person 6 = .ok (.iconst 0, 1) := by decide +kernel
theorem dX9_person_7 : decode cX9_person 7 = .ok (.putfield 65, 3) := by decide +kernel
theorem dX9_person_10 : decode cX9_person 10 = .ok (.aload_n 0, 1) := by decide +kernel
theorem dX9_person_11 : decode cX9_person 11 = .ok (.iload_n 1, 1) := by decide +kernel
theorem dX9_person_12 : decode cX9_person 12 = .ok (.invokevirtual 360, 3) := by decide +kernel
theorem dX9_person_15 : decode cX9_person 15 = .ok (.ifCond .ne 9, 3) := by decide +kernel
theorem dX9_person_18 : decode cX9_person 18 = .ok (.aload_n 0, 1) := by decide +kernel
theorem dX9_person_19 : decode cX9_person 19 = .ok (.iconst 2, 1) := by decide +kernel
theorem dX9_person_20 : decode cX9_person 20 = .ok (.invokevirtual 357, 3) := by decide +kernel
theorem dX9_person_23 : decode cX9_person 23 = .ok (.ireturn, 1) := by decide +kernel
theorem dX9_person_24 : decode cX9_person 24 = .ok (.iload_n 2, 1) := by decide +kernel
theorem dX9_person_25 : decode cX9_person 25 = .ok (.tableswitch 123 0 4 #[35, 66, 97, 111, 117], 35) := by decide +kernel
theorem dX9_person_60 : decode cX9_person 60 = .ok (.aload_n 0, 1) := by decide +kernel
theorem dX9_person_61 : decode cX9_person 61 = .ok (.getfield 35, 3) := by decide +kernel
theorem dX9_person_64 : decode cX9_person 64 = .ok (.bipush 9, 2) := by decide +kernel
theorem dX9_person_66 : decode cX9_person 66 = .ok (.iload_n 1, 1) := by decide +kernel
theorem dX9_person_67 : decode cX9_person 67 = .ok (.iadd, 1) := by decide +kernel
theorem dX9_person_68 : decode cX9_person 68 = .ok (.iaload, 1) := by decide +kernel
theorem dX9_person_69 : decode cX9_person 69 = .ok (.ifCond .ge 12, 3) := by decide +kernel
theorem dX9_person_72 : decode cX9_person 72 = .ok (.aload_n 0, 1) := by decide +kernel
theorem dX9_person_73 : decode cX9_person 73 = .ok (.bipush 8, 2) := by decide +kernel
theorem dX9_person_75 : decode cX9_person 75 = .ok (.invokevirtual 357, 3) := by decide +kernel
theorem dX9_person_78 : decode cX9_person 78 = .ok (.goto 12, 3) := by decide +kernel
theorem dX9_person_81 : decode cX9_person 81 = .ok (.aload_n 0, 1) := by decide +kernel
theorem dX9_person_82 : decode cX9_person 82 = .ok (.getfield 35, 3) := by decide +kernel
theorem dX9_person_85 : decode cX9_person 85 = .ok (.bipush 9, 2) := by decide +kernel
theorem dX9_person_87 : decode cX9_person 87 = .ok (.iload_n 1, 1) := by decide +kernel
theorem dX9_person_88 : decode cX9_person 88 = .ok (.iadd, 1) := by decide +kernel
theorem dX9_person_89 : decode cX9_person 89 = .ok (.iaload, 1) := by decide +kernel
theorem dX9_person_90 : decode cX9_person 90 = .ok (.ireturn, 1) := by decide +kernel
theorem dX9_person_91 : decode cX9_person 91 = .ok (.aload_n 0, 1) := by decide +kernel
theorem dX9_person_92 : decode cX9_person 92 = .ok (.getfield 35, 3) := by decide +kernel
theorem dX9_person_95 : decode cX9_person 95 = .ok (.bipush 17, 2) := by decide +kernel
theorem dX9_person_97 : decode cX9_person 97 = .ok (.iload_n 1, 1) := by decide +kernel
theorem dX9_person_98 : decode cX9_person 98 = .ok (.iadd, 1) := by decide +kernel
theorem dX9_person_99 : decode cX9_person 99 = .ok (.iaload, 1) := by decide +kernel
theorem dX9_person_100 : decode cX9_person 100 = .ok (.ifCond .ne 12, 3) := by decide +kernel
theorem dX9_person_103 : decode cX9_person 103 = .ok (.aload_n 0, 1) := by decide +kernel
theorem dX9_person_104 : decode cX9_person 104 = .ok (.bipush 8, 2) := by decide +kernel
theorem dX9_person_106 : decode cX9_person 106 = .ok (.invokevirtual 357, 3) := by decide +kernel
theorem dX9_person_109 : decode cX9_person 109 = .ok (.goto 12, 3) := by decide +kernel
theorem dX9_person_112 : decode cX9_person 112 = .ok (.aload_n 0, 1) := by decide +kernel
theorem dX9_person_113 : decode cX9_person 113 = .ok (.getfield 35, 3) := by decide +kernel
theorem dX9_person_116 : decode cX9_person 116 = .ok (.bipush 17, 2) := by decide +kernel
theorem dX9_person_118 : decode cX9_person 118 = .ok (.iload_n 1, 1) := by decide +kernel
theorem dX9_person_119 : decode cX9_person 119 = .ok (.iadd, 1) := by decide +kernel
theorem dX9_person_120 : decode cX9_person 120 = .ok (.iaload, 1) := by decide +kernel
theorem dX9_person_121 : decode cX9_person 121 = .ok (.ireturn, 1) := by decide +kernel
theorem dX9_person_122 : decode cX9_person 122 = .ok (.aload_n 0, 1) := by decide +kernel
theorem dX9_person_123 : decode cX9_person 123 = .ok (.iload_n 1, 1) := by decide +kernel
theorem dX9_person_124 : decode cX9_person 124 = .ok (.invokevirtual 342, 3) := by decide +kernel
theorem dX9_person_127 : decode cX9_person 127 = .ok (.ifCond .eq 7, 3) := by decide +kernel
theorem dX9_person_130 : decode cX9_person 130 = .ok (.iconst 1, 1) := by decide +kernel
theorem dX9_person_131 : decode cX9_person 131 = .ok (.goto 4, 3) := by decide +kernel
theorem dX9_person_134 : decode cX9_person 134 = .ok (.iconst 0, 1) := by decide +kernel
theorem dX9_person_135 : decode cX9_person 135 = .ok (.ireturn, 1) := by decide +kernel
theorem dX9_person_136 : decode cX9_person 136 = .ok (.aload_n 0, 1) := by decide +kernel
theorem dX9_person_137 : decode cX9_person 137 = .ok (.iload_n 1, 1) := by decide +kernel
theorem dX9_person_138 : decode cX9_person 138 = .ok (.invokevirtual 363, 3) := by decide +kernel
theorem dX9_person_141 : decode cX9_person 141 = .ok (.ireturn, 1) := by decide +kernel
theorem dX9_person_142 : decode cX9_person 142 = .ok (.aload_n 0, 1) := by decide +kernel
theorem dX9_person_143 : decode cX9_person 143 = .ok (.iload_n 1, 1) := by decide +kernel
theorem dX9_person_144 : decode cX9_person 144 = .ok (.invokevirtual 366, 3) := by decide +kernel
theorem dX9_person_147 : decode cX9_person 147 = .ok (.ireturn, 1) := by decide +kernel
theorem dX9_person_148 : decode cX9_person 148 = .ok (.aload_n 0, 1) := by decide +kernel
theorem dX9_person_149 : decode cX9_person 149 = .ok (.iconst 5, 1) := by decide +kernel
theorem dX9_person_150 : decode cX9_person 150 = .ok (.invokevirtual 357, 3) := by decide +kernel
theorem dX9_person_153 : decode cX9_person 153 = .ok (.ireturn, 1) := by decide +kernel
def fX9_person (l0 : Nat) (l1 : Int32) (l2 : Int32) : mM Int32 := bPI 9 l0 1 (0 : Int32) (bPI 9 l0 0 (0 : Int32) (bCallV 9 l0 (fX9_isPerson l0 l1) (fun x1 => bIf (x1 = 0) (bCallV 9 l0 (fX9_refuse l0 (2 : Int32)) (fun x16 => bRet x16)) (bSw l2 0 [(60, bGR 9 l0 24 (fun x3 => bAI 11 x3 ((9 : Int32) + l1) (fun x4 => bIf (0 ≤ x4) (bGR 9 l0 24 (fun x5 => bAI 11 x5 ((9 : Int32) + l1) (fun x6 => bRet x6))) (bCallV 9 l0 (fX9_refuse l0 (8 : Int32)) (fun x7 => bRet x7))))), (91, bGR 9 l0 24 (fun x8 => bAI 11 x8 ((17 : Int32) + l1) (fun x9 => bIf (x9 = 0) (bCallV 9 l0 (fX9_refuse l0 (8 : Int32)) (fun x12 => bRet x12)) (bGR 9 l0 24 (fun x10 => bAI 11 x10 ((17 : Int32) + l1) (fun x11 => bRet x11)))))), (122, bCallV 9 l0 (fX9_isAlive l0 l1) (fun x13 => bIf (x13 = 0) (bRet (0 : Int32)) (bRet (1 : Int32)))), (136, bCallV 9 l0 (fX9_yardsOwn l0 l1) (fun x14 => bRet x14)), (142, bCallV 9 l0 (fX9_yardsHeld l0 l1) (fun x15 => bRet x15))] (bCallV 9 l0 (fX9_refuse l0 (5 : Int32)) (fun x2 => bRet x2))))))
set_option maxRecDepth 20000 in
theorem rX9_person (v : mE) (d : Nat) (l0 : Nat) (l1 : Int32) (l2 : Int32) : Rz v RX9 cX9_person 3 (some .int) false emI (d + 4) 0 [(0, vR l0), (1, vI l1), (2, vI l2)] [] (fX9_person l0 l1 l2) := by
  unfold fX9_person
  refine rz_aload_n 1 0 dX9_person_0 rfl rfl ?_
  refine rz_iconst 2 dX9_person_1 rfl ci_0 ?_
  refine rz_pI 5 dX9_person_2 rfl rfl rfl rfl fl_X9_62 ?_
  refine rz_aload_n 6 0 dX9_person_5 rfl rfl ?_
  refine rz_iconst 7 dX9_person_6 rfl ci_0 ?_
  refine rz_pI 10 dX9_person_7 rfl rfl rfl rfl fl_X9_65 ?_
  refine rz_aload_n 11 0 dX9_person_10 rfl rfl ?_
  refine rz_iload_n 12 1 dX9_person_11 rfl rfl ?_
  refine rz_callV 15 dX9_person_12 rfl (tX9_isPerson v (d + 2) l0 l1) rfl rfl rfl rfl ml_X9_360 im_X9_isPerson se_X9_X9_isPerson in_X9 co_X9_isPerson rfl rfl (fun x1 => ?_)
  refine rz_if_ne 24 18 dX9_person_15 rfl rfl ?_ ?_
  · refine rz_iload_n 25 2 dX9_person_24 rfl rfl ?_
    refine rz_table 148 dX9_person_25 rfl rfl rfl rfl ?_ ?_
    · refine rz_aload_n 149 0 dX9_person_148 rfl rfl ?_
      refine rz_iconst 150 dX9_person_149 rfl ci_5 ?_
      refine rz_callV 153 dX9_person_150 rfl (tX9_refuse v (d + 3) l0 (5 : Int32)) rfl rfl rfl rfl ml_X9_357 im_X9_refuse se_X9_X9_refuse in_X9 co_X9_refuse rfl rfl (fun x2 => ?_)
      exact rz_ireturn rfl rfl dX9_person_153
    · refine List.forall_mem_cons.mpr ⟨?_, List.forall_mem_cons.mpr ⟨?_, List.forall_mem_cons.mpr ⟨?_, List.forall_mem_cons.mpr ⟨?_, List.forall_mem_cons.mpr ⟨?_, fun _ h => absurd h List.not_mem_nil⟩⟩⟩⟩⟩
      · refine rz_pr ?_
        refine rz_aload_n 61 0 dX9_person_60 rfl rfl ?_
        refine rz_gR 64 dX9_person_61 rfl rfl fl_X9_35 (fun x3 => ?_)
        refine rz_bipush 66 dX9_person_64 rfl cb_9 ?_
        refine rz_iload_n 67 1 dX9_person_66 rfl rfl ?_
        refine rz_iadd 68 dX9_person_67 rfl ?_
        refine rz_iald 69 dX9_person_68 rfl (fun x4 => ?_)
        refine rz_if_ge 81 72 dX9_person_69 rfl rfl ?_ ?_
        · refine rz_aload_n 82 0 dX9_person_81 rfl rfl ?_
          refine rz_gR 85 dX9_person_82 rfl rfl fl_X9_35 (fun x5 => ?_)
          refine rz_bipush 87 dX9_person_85 rfl cb_9 ?_
          refine rz_iload_n 88 1 dX9_person_87 rfl rfl ?_
          refine rz_iadd 89 dX9_person_88 rfl ?_
          refine rz_iald 90 dX9_person_89 rfl (fun x6 => ?_)
          exact rz_ireturn rfl rfl dX9_person_90
        · refine rz_aload_n 73 0 dX9_person_72 rfl rfl ?_
          refine rz_bipush 75 dX9_person_73 rfl cb_8 ?_
          refine rz_callV 78 dX9_person_75 rfl (tX9_refuse v (d + 3) l0 (8 : Int32)) rfl rfl rfl rfl ml_X9_357 im_X9_refuse se_X9_X9_refuse in_X9 co_X9_refuse rfl rfl (fun x7 => ?_)
          refine rz_goto 90 dX9_person_78 rfl ?_
          exact rz_ireturn rfl rfl dX9_person_90
      · refine rz_pr ?_
        refine rz_aload_n 92 0 dX9_person_91 rfl rfl ?_
        refine rz_gR 95 dX9_person_92 rfl rfl fl_X9_35 (fun x8 => ?_)
        refine rz_bipush 97 dX9_person_95 rfl cb_17 ?_
        refine rz_iload_n 98 1 dX9_person_97 rfl rfl ?_
        refine rz_iadd 99 dX9_person_98 rfl ?_
        refine rz_iald 100 dX9_person_99 rfl (fun x9 => ?_)
        refine rz_if_ne 112 103 dX9_person_100 rfl rfl ?_ ?_
        · refine rz_aload_n 113 0 dX9_person_112 rfl rfl ?_
          refine rz_gR 116 dX9_person_113 rfl rfl fl_X9_35 (fun x10 => ?_)
          refine rz_bipush 118 dX9_person_116 rfl cb_17 ?_
          refine rz_iload_n 119 1 dX9_person_118 rfl rfl ?_
          refine rz_iadd 120 dX9_person_119 rfl ?_
          refine rz_iald 121 dX9_person_120 rfl (fun x11 => ?_)
          exact rz_ireturn rfl rfl dX9_person_121
        · refine rz_aload_n 104 0 dX9_person_103 rfl rfl ?_
          refine rz_bipush 106 dX9_person_104 rfl cb_8 ?_
          refine rz_callV 109 dX9_person_106 rfl (tX9_refuse v (d + 3) l0 (8 : Int32)) rfl rfl rfl rfl ml_X9_357 im_X9_refuse se_X9_X9_refuse in_X9 co_X9_refuse rfl rfl (fun x12 => ?_)
          refine rz_goto 121 dX9_person_109 rfl ?_
          exact rz_ireturn rfl rfl dX9_person_121
      · refine rz_pr ?_
        refine rz_aload_n 123 0 dX9_person_122 rfl rfl ?_
        refine rz_iload_n 124 1 dX9_person_123 rfl rfl ?_
        refine rz_callV 127 dX9_person_124 rfl (tX9_isAlive v (d + 3) l0 l1) rfl rfl rfl rfl ml_X9_342 im_X9_isAlive se_X9_X9_isAlive in_X9 co_X9_isAlive rfl rfl (fun x13 => ?_)
        refine rz_if_eq 134 130 dX9_person_127 rfl rfl ?_ ?_
        · refine rz_iconst 135 dX9_person_134 rfl ci_0 ?_
          exact rz_ireturn rfl rfl dX9_person_135
        · refine rz_iconst 131 dX9_person_130 rfl ci_1 ?_
          refine rz_goto 135 dX9_person_131 rfl ?_
          exact rz_ireturn rfl rfl dX9_person_135
      · refine rz_pr ?_
        refine rz_aload_n 137 0 dX9_person_136 rfl rfl ?_
        refine rz_iload_n 138 1 dX9_person_137 rfl rfl ?_
        refine rz_callV 141 dX9_person_138 rfl (tX9_yardsOwn v (d + 1) l0 l1) rfl rfl rfl rfl ml_X9_363 im_X9_yardsOwn se_X9_X9_yardsOwn in_X9 co_X9_yardsOwn rfl rfl (fun x14 => ?_)
        exact rz_ireturn rfl rfl dX9_person_141
      · refine rz_pr ?_
        refine rz_aload_n 143 0 dX9_person_142 rfl rfl ?_
        refine rz_iload_n 144 1 dX9_person_143 rfl rfl ?_
        refine rz_callV 147 dX9_person_144 rfl (tX9_yardsHeld v (d + 0) l0 l1) rfl rfl rfl rfl ml_X9_366 im_X9_yardsHeld se_X9_X9_yardsHeld in_X9 co_X9_yardsHeld rfl rfl (fun x15 => ?_)
        exact rz_ireturn rfl rfl dX9_person_147
  · refine rz_aload_n 19 0 dX9_person_18 rfl rfl ?_
    refine rz_iconst 20 dX9_person_19 rfl ci_2 ?_
    refine rz_callV 23 dX9_person_20 rfl (tX9_refuse v (d + 3) l0 (2 : Int32)) rfl rfl rfl rfl ml_X9_357 im_X9_refuse se_X9_X9_refuse in_X9 co_X9_refuse rfl rfl (fun x16 => ?_)
    exact rz_ireturn rfl rfl dX9_person_23
theorem tX9_person (v : mE) (d : Nat) (l0 : Nat) (l1 : Int32) (l2 : Int32) : Mt v yX9_person cX9_person 3 (some .int) emI (d + 4) [vR l0, vI l1, vI l2] (fX9_person l0 l1 l2) := mt_of rfl rfl (fun h => by cases h) rfl rfl (rX9_person v d l0 l1 l2)

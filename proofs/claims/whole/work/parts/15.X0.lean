theorem dX0_init_0 : decode cX0_init 0 = .ok (.aload_n 0, 1) := by decide +kernel
theorem dX0_init_1 : decode cX0_init 1 = .ok (.invokespecial 3, 3) := by decide +kernel
theorem dX0_init_4 : decode cX0_init 4 = .ok (.aload_n 0, 1) := by decide +kernel
theorem dX0_init_5 : decode cX0_init 5 = .ok (.aload_n 1, 1) := by decide +kernel
theorem dX0_init_6 : decode cX0_init 6 = .ok (.putfield 9, 3) := by decide +kernel
theorem dX0_init_9 : decode cX0_init 9 = .ok (.aload_n 0, 1) := by decide +kernel
theorem dX0_init_10 : decode cX0_init 10 = .ok (.iload_n 2, 1) := by decide +kernel
theorem dX0_init_11 : decode cX0_init 11 = .ok (.putfield 15, 3) := by decide +kernel
theorem dX0_init_14 : decode cX0_init 14 = .ok (.return_, 1) := by decide +kernel
def fX0_init (l0 : Nat) (l1 : Nat) (l2 : Int32) : mM Unit := bObj l0 (bPR 0 l0 0 l1 (bPI 0 l0 1 l2 (bRet ())))
set_option maxRecDepth 20000 in
theorem rX0_init (v : mE) (d : Nat) (l0 : Nat) (l1 : Nat) (l2 : Int32) : Rz v RX0 cX0_init 3 none true emU (d + 1) 0 [(0, vR l0), (1, vR l1), (2, vI l2)] [] (fX0_init l0 l1 l2) := by
  unfold fX0_init
  refine rz_aload_n 1 0 dX0_init_0 rfl rfl ?_
  refine rz_obj 4 dX0_init_1 rfl ml_X0_3 im_java_lang_Object__init____V co_java_lang_Object__init____V rfl rfl ?_
  refine rz_aload_n 5 0 dX0_init_4 rfl rfl ?_
  refine rz_aload_n 6 1 dX0_init_5 rfl rfl ?_
  refine rz_pR 9 dX0_init_6 rfl rfl rfl fl_X0_9 ?_
  refine rz_aload_n 10 0 dX0_init_9 rfl rfl ?_
  refine rz_iload_n 11 2 dX0_init_10 rfl rfl ?_
  refine rz_pI 14 dX0_init_11 rfl rfl rfl rfl fl_X0_15 ?_
  exact rz_return rfl rfl dX0_init_14
theorem tX0_init (v : mE) (d : Nat) (l0 : Nat) (l1 : Nat) (l2 : Int32) : Mt v yX0_init cX0_init 3 none emU (d + 1) [vR l0, vR l1, vI l2] (fX0_init l0 l1 l2) := mt_of rfl rfl (fun _ => rfl) rfl rfl (rX0_init v d l0 l1 l2)
theorem dX0_step_0 : decode cX0_step 0 = .ok (.iload_n 0, 1) := by decide +kernel
theorem dX0_step_1 : decode cX0_step 1 = .ok (.iload_n 1, 1) := by decide +kernel
theorem dX0_step_2 : decode cX0_step 2 = .ok (.iconst 4, 1) := by decide +kernel
theorem dX0_step_3 : decode cX0_step 3 = .ok (.ishl, 1) := by decide +kernel
theorem dX0_step_4 : decode cX0_step 4 = .ok (.ior, 1) := by decide +kernel
theorem dX0_step_5 : decode cX0_step 5 = .ok (.iload_n 2, 1) := by decide +kernel
theorem dX0_step_6 : decode cX0_step 6 = .ok (.bipush 8, 2) := by decide +kernel
theorem dX0_step_8 : decode cX0_step 8 = .ok (.ishl, 1) := by decide +kernel
theorem dX0_step_9 : decode cX0_step 9 = .ok (.ior, 1) := by decide +kernel
theorem dX0_step_10 : decode cX0_step 10 = .ok (.iload_n 3, 1) := by decide +kernel
theorem dX0_step_11 : decode cX0_step 11 = .ok (.bipush 16, 2) := by decide +kernel
theorem dX0_step_13 : decode cX0_step 13 = .ok (.ishl, 1) := by decide +kernel
theorem dX0_step_14 : decode cX0_step 14 = .ok (.ior, 1) := by decide +kernel
theorem dX0_step_15 : decode cX0_step 15 = .ok (.ireturn, 1) := by decide +kernel
def fX0_step (l0 : Int32) (l1 : Int32) (l2 : Int32) (l3 : Int32) : mM Int32 := bRet (((l0 ||| (l1 <<< ((4 : Int32) &&& 31))) ||| (l2 <<< ((8 : Int32) &&& 31))) ||| (l3 <<< ((16 : Int32) &&& 31)))
set_option maxRecDepth 20000 in
theorem rX0_step (v : mE) (d : Nat) (l0 : Int32) (l1 : Int32) (l2 : Int32) (l3 : Int32) : Rz v RX0 cX0_step 4 (some .int) false emI (d + 0) 0 [(0, vI l0), (1, vI l1), (2, vI l2), (3, vI l3)] [] (fX0_step l0 l1 l2 l3) := by
  unfold fX0_step
  refine rz_iload_n 1 0 dX0_step_0 rfl rfl ?_
  refine rz_iload_n 2 1 dX0_step_1 rfl rfl ?_
  refine rz_iconst 3 dX0_step_2 rfl ci_4 ?_
  refine rz_ishl 4 dX0_step_3 rfl ?_
  refine rz_ior 5 dX0_step_4 rfl ?_
  refine rz_iload_n 6 2 dX0_step_5 rfl rfl ?_
  refine rz_bipush 8 dX0_step_6 rfl cb_8 ?_
  refine rz_ishl 9 dX0_step_8 rfl ?_
  refine rz_ior 10 dX0_step_9 rfl ?_
  refine rz_iload_n 11 3 dX0_step_10 rfl rfl ?_
  refine rz_bipush 13 dX0_step_11 rfl cb_16 ?_
  refine rz_ishl 14 dX0_step_13 rfl ?_
  refine rz_ior 15 dX0_step_14 rfl ?_
  exact rz_ireturn rfl rfl dX0_step_15
theorem tX0_step (v : mE) (d : Nat) (l0 : Int32) (l1 : Int32) (l2 : Int32) (l3 : Int32) : Mt v yX0_step cX0_step 4 (some .int) emI (d + 0) [vI l0, vI l1, vI l2, vI l3] (fX0_step l0 l1 l2 l3) := mt_of rfl rfl (fun h => by cases h) rfl rfl (rX0_step v d l0 l1 l2 l3)
theorem dX0_isSo_0 : decode cX0_isSo 0 = .ok (.iload_n 0, 1) := by decide +kernel
theorem dX0_isSo_1 : decode cX0_isSo 1 = .ok (.iconst 4, 1) := by decide +kernel
theorem dX0_isSo_2 : decode cX0_isSo 2 = .ok (.ishr, 1) := by decide +kernel
theorem dX0_isSo_3 : decode cX0_isSo 3 = .ok (.bipush 15, 2) := by decide +kernel
theorem dX0_isSo_5 : decode cX0_isSo 5 = .ok (.iand, 1) := by decide +kernel
theorem dX0_isSo_6 : decode cX0_isSo 6 = .ok (.istore_n 2, 1) := by decide +kernel
theorem dX0_isSo_7 : decode cX0_isSo 7 = .ok (.iload_n 2, 1) := by decide +kernel
theorem dX0_isSo_8 : decode cX0_isSo 8 = .ok (.aload_n 1, 1) := by decide +kernel
theorem dX0_isSo_9 : decode cX0_isSo 9 = .ok (.arraylength, 1) := by decide +kernel
theorem dX0_isSo_10 : decode cX0_isSo 10 = .ok (.if_icmp .ge 9, 3) := by decide +kernel
theorem dX0_isSo_13 : decode cX0_isSo 13 = .ok (.aload_n 1, 1) := by decide +kernel
theorem dX0_isSo_14 : decode cX0_isSo 14 = .ok (.iload_n 2, 1) := by decide +kernel
theorem dX0_isSo_15 : decode cX0_isSo 15 = .ok (.iaload, 1) := by decide +kernel
theorem dX0_isSo_16 : decode cX0_isSo 16 = .ok (.goto 4, 3) := by decide +kernel
theorem dX0_isSo_19 : decode cX0_isSo 19 = .ok (.iconst 0, 1) := by decide +kernel
theorem dX0_isSo_20 : decode cX0_isSo 20 = .ok (.istore_n 3, 1) := by decide +kernel
theorem dX0_isSo_21 : decode cX0_isSo 21 = .ok (.iload_n 0, 1) := by decide +kernel
theorem dX0_isSo_22 : decode cX0_isSo 22 = .ok (.bipush 8, 2) := by decide +kernel
theorem dX0_isSo_24 : decode cX0_isSo 24 = .ok (.ishr, 1) := by decide +kernel
theorem dX0_isSo_25 : decode cX0_isSo 25 = .ok (.sipush 255, 3) := by decide +kernel
theorem dX0_isSo_28 : decode cX0_isSo 28 = .ok (.iand, 1) := by decide +kernel
theorem dX0_isSo_29 : decode cX0_isSo 29 = .ok (.istore 4, 2) := by decide +kernel
theorem dX0_isSo_31 : decode cX0_isSo 31 = .ok (.iload_n 0, 1) := by decide +kernel
theorem dX0_isSo_32 : decode cX0_isSo 32 = .ok (.bipush 16, 2) := by decide +kernel
theorem dX0_isSo_34 : decode cX0_isSo 34 = .ok (.ishr, 1) := by decide +kernel
theorem dX0_isSo_35 : decode cX0_isSo 35 = .ok (.istore 5, 2) := by decide +kernel
theorem dX0_isSo_37 : decode cX0_isSo 37 = .ok (.iload 4, 2) := by decide +kernel
theorem dX0_isSo_39 : decode cX0_isSo 39 = .ok (.bipush 60, 2) := by decide +kernel
theorem dX0_isSo_41 : decode cX0_isSo 41 = .ok (.if_icmp .ne 15, 3) := by decide +kernel
theorem dX0_isSo_44 : decode cX0_isSo 44 = .ok (.iload_n 3, 1) := by decide +kernel
theorem dX0_isSo_45 : decode cX0_isSo 45 = .ok (.iload 5, 2) := by decide +kernel
theorem dX0_isSo_47 : decode cX0_isSo 47 = .ok (.if_icmp .ge 7, 3) := by decide +kernel
theorem dX0_isSo_50 : decode cX0_isSo 50 = .ok (.iconst 1, 1) := by decide +kernel
theorem dX0_isSo_51 : decode cX0_isSo 51 = .ok (.goto 4, 3) := by decide +kernel
theorem dX0_isSo_54 : decode cX0_isSo 54 = .ok (.iconst 0, 1) := by decide +kernel
theorem dX0_isSo_55 : decode cX0_isSo 55 = .ok (.ireturn, 1) := by decide +kernel
theorem dX0_isSo_56 : decode cX0_isSo 56 = .ok (.iload 4, 2) := by decide +kernel
theorem dX0_isSo_58 : decode cX0_isSo 58 = .ok (.bipush 62, 2) := by decide +kernel
theorem dX0_isSo_60 : decode cX0_isSo 60 = .ok (.if_icmp .ne 17, 3) := by decide +kernel
theorem dX0_isSo_63 : decode cX0_isSo 63 = .ok (.iload_n 3, 1) := by decide +kernel
theorem dX0_isSo_64 : decode cX0_isSo 64 = .ok (.iload 5, 2) := by decide +kernel
theorem dX0_isSo_66 : decode cX0_isSo 66 = .ok (.if_icmp .le 7, 3) := by decide +kernel
theorem dX0_isSo_69 : decode cX0_isSo 69 = .ok (.iconst 1, 1) := by decide +kernel
theorem dX0_isSo_70 : decode cX0_isSo 70 = .ok (.goto 18, 3) := by decide +kernel
theorem dX0_isSo_73 : decode cX0_isSo 73 = .ok (.iconst 0, 1) := by decide +kernel
theorem dX0_isSo_74 : decode cX0_isSo 74 = .ok (.goto 14, 3) := by decide +kernel
theorem dX0_isSo_77 : decode cX0_isSo 77 = .ok (.iload_n 3, 1) := by decide +kernel
theorem dX0_isSo_78 : decode cX0_isSo 78 = .ok (.iload 5, 2) := by decide +kernel
theorem dX0_isSo_80 : decode cX0_isSo 80 = .ok (.if_icmp .ne 7, 3) := by decide +kernel
theorem dX0_isSo_83 : decode cX0_isSo 83 = .ok (.iconst 1, 1) := by decide +kernel
theorem dX0_isSo_84 : decode cX0_isSo 84 = .ok (.goto 4, 3) := by decide +kernel
theorem dX0_isSo_87 : decode cX0_isSo 87 = .ok (.iconst 0, 1) := by decide +kernel
theorem dX0_isSo_88 : decode cX0_isSo 88 = .ok (.ireturn, 1) := by decide +kernel
def fX0_isSo_20 (l0 : Int32) (s0 : Int32) : mM Int32 := bIf (((l0 >>> ((8 : Int32) &&& 31)) &&& (255 : Int32)) = (60 : Int32)) (bIf ((l0 >>> ((16 : Int32) &&& 31)) ≤ s0) (bRetZ (0 : Int32)) (bRetZ (1 : Int32))) (bIf (((l0 >>> ((8 : Int32) &&& 31)) &&& (255 : Int32)) = (62 : Int32)) (bIf (s0 ≤ (l0 >>> ((16 : Int32) &&& 31))) (bRetZ (0 : Int32)) (bRetZ (1 : Int32))) (bIf (s0 = (l0 >>> ((16 : Int32) &&& 31))) (bRetZ (1 : Int32)) (bRetZ (0 : Int32))))
set_option maxRecDepth 20000 in
theorem rX0_isSo_20 (v : mE) (d : Nat) (l0 : Int32) (s0 : Int32) : Rz v RX0 cX0_isSo 6 (some .boolean) false emI (d + 0) 20 [(0, vI l0)] [vI s0] (fX0_isSo_20 l0 s0) := by
  unfold fX0_isSo_20
  refine rz_istore_n (lv' := [(3, vI s0), (0, vI l0)]) 21 dX0_isSo_20 rfl rfl rfl ?_
  refine rz_iload_n 22 1 dX0_isSo_21 rfl rfl ?_
  refine rz_bipush 24 dX0_isSo_22 rfl cb_8 ?_
  refine rz_ishr 25 dX0_isSo_24 rfl ?_
  refine rz_sipush 28 dX0_isSo_25 rfl cs_255 ?_
  refine rz_iand 29 dX0_isSo_28 rfl ?_
  refine rz_istore (lv' := [(4, vI ((l0 >>> ((8 : Int32) &&& 31)) &&& (255 : Int32))), (3, vI s0), (0, vI l0)]) 31 dX0_isSo_29 rfl rfl rfl ?_
  refine rz_iload_n 32 2 dX0_isSo_31 rfl rfl ?_
  refine rz_bipush 34 dX0_isSo_32 rfl cb_16 ?_
  refine rz_ishr 35 dX0_isSo_34 rfl ?_
  refine rz_istore (lv' := [(5, vI (l0 >>> ((16 : Int32) &&& 31))), (4, vI ((l0 >>> ((8 : Int32) &&& 31)) &&& (255 : Int32))), (3, vI s0), (0, vI l0)]) 37 dX0_isSo_35 rfl rfl rfl ?_
  refine rz_iload 39 1 dX0_isSo_37 rfl rfl ?_
  refine rz_bipush 41 dX0_isSo_39 rfl cb_60 ?_
  refine rz_icmp_ne 56 44 dX0_isSo_41 rfl rfl ?_ ?_
  · refine rz_iload 58 1 dX0_isSo_56 rfl rfl ?_
    refine rz_bipush 60 dX0_isSo_58 rfl cb_62 ?_
    refine rz_icmp_ne 77 63 dX0_isSo_60 rfl rfl ?_ ?_
    · refine rz_iload_n 78 2 dX0_isSo_77 rfl rfl ?_
      refine rz_iload 80 0 dX0_isSo_78 rfl rfl ?_
      refine rz_icmp_ne 87 83 dX0_isSo_80 rfl rfl ?_ ?_
      · refine rz_iconst 88 dX0_isSo_87 rfl ci_0 ?_
        exact rz_zreturn rfl rfl dX0_isSo_88
      · refine rz_iconst 84 dX0_isSo_83 rfl ci_1 ?_
        refine rz_goto 88 dX0_isSo_84 rfl ?_
        exact rz_zreturn rfl rfl dX0_isSo_88
    · refine rz_iload_n 64 2 dX0_isSo_63 rfl rfl ?_
      refine rz_iload 66 0 dX0_isSo_64 rfl rfl ?_
      refine rz_icmp_le 73 69 dX0_isSo_66 rfl rfl ?_ ?_
      · refine rz_iconst 74 dX0_isSo_73 rfl ci_0 ?_
        refine rz_goto 88 dX0_isSo_74 rfl ?_
        exact rz_zreturn rfl rfl dX0_isSo_88
      · refine rz_iconst 70 dX0_isSo_69 rfl ci_1 ?_
        refine rz_goto 88 dX0_isSo_70 rfl ?_
        exact rz_zreturn rfl rfl dX0_isSo_88
  · refine rz_iload_n 45 2 dX0_isSo_44 rfl rfl ?_
    refine rz_iload 47 0 dX0_isSo_45 rfl rfl ?_
    refine rz_icmp_ge 54 50 dX0_isSo_47 rfl rfl ?_ ?_
    · refine rz_iconst 55 dX0_isSo_54 rfl ci_0 ?_
      exact rz_zreturn rfl rfl dX0_isSo_55
    · refine rz_iconst 51 dX0_isSo_50 rfl ci_1 ?_
      refine rz_goto 55 dX0_isSo_51 rfl ?_
      exact rz_zreturn rfl rfl dX0_isSo_55
def fX0_isSo (l0 : Int32) (l1 : Nat) : mM Int32 := bLen 11 l1 (fun x1 => bIf (x1 ≤ ((l0 >>> ((4 : Int32) &&& 31)) &&& (15 : Int32))) (fX0_isSo_20 l0 (0 : Int32)) (bAI 11 l1 ((l0 >>> ((4 : Int32) &&& 31)) &&& (15 : Int32)) (fun x2 => fX0_isSo_20 l0 x2)))
set_option maxRecDepth 20000 in
theorem rX0_isSo (v : mE) (d : Nat) (l0 : Int32) (l1 : Nat) : Rz v RX0 cX0_isSo 6 (some .boolean) false emI (d + 0) 0 [(0, vI l0), (1, vR l1)] [] (fX0_isSo l0 l1) := by
  unfold fX0_isSo
  refine rz_iload_n 1 0 dX0_isSo_0 rfl rfl ?_
  refine rz_iconst 2 dX0_isSo_1 rfl ci_4 ?_
  refine rz_ishr 3 dX0_isSo_2 rfl ?_
  refine rz_bipush 5 dX0_isSo_3 rfl cb_15 ?_
  refine rz_iand 6 dX0_isSo_5 rfl ?_
  refine rz_istore_n (lv' := [(2, vI ((l0 >>> ((4 : Int32) &&& 31)) &&& (15 : Int32))), (0, vI l0), (1, vR l1)]) 7 dX0_isSo_6 rfl rfl rfl ?_
  refine rz_iload_n 8 0 dX0_isSo_7 rfl rfl ?_
  refine rz_aload_n 9 2 dX0_isSo_8 rfl rfl ?_
  refine rz_alen 10 dX0_isSo_9 rfl (by decide) (fun x1 => ?_)
  refine rz_icmp_ge 19 13 dX0_isSo_10 rfl rfl ?_ ?_
  · refine rz_iconst 20 dX0_isSo_19 rfl ci_0 ?_
    exact rz_sub [1] rfl (rX0_isSo_20 v d l0 (0 : Int32))
  · refine rz_aload_n 14 2 dX0_isSo_13 rfl rfl ?_
    refine rz_iload_n 15 0 dX0_isSo_14 rfl rfl ?_
    refine rz_iald 16 dX0_isSo_15 rfl (fun x2 => ?_)
    refine rz_goto 20 dX0_isSo_16 rfl ?_
    exact rz_sub [1] rfl (rX0_isSo_20 v d l0 x2)
theorem tX0_isSo (v : mE) (d : Nat) (l0 : Int32) (l1 : Nat) : Mt v yX0_isSo cX0_isSo 6 (some .boolean) emI (d + 0) [vI l0, vR l1] (fX0_isSo l0 l1) := mt_of rfl rfl (fun h => by cases h) rfl rfl (rX0_isSo v d l0 l1)
theorem dX0_whomFor_0 : decode cX0_whomFor 0 = .ok (.iconst 0, 1) := by decide +kernel
theorem dX0_whomFor_1 : decode cX0_whomFor 1 = .ok (.istore_n 2, 1) := by decide +kernel
theorem dX0_whomFor_2 : decode cX0_whomFor 2 = .ok (.iconst 0, 1) := by decide +kernel
theorem dX0_whomFor_3 : decode cX0_whomFor 3 = .ok (.istore_n 3, 1) := by decide +kernel
theorem dX0_whomFor_4 : decode cX0_whomFor 4 = .ok (.iload_n 3, 1) := by decide +kernel
theorem dX0_whomFor_5 : decode cX0_whomFor 5 = .ok (.aload_n 0, 1) := by decide +kernel
theorem dX0_whomFor_6 : decode cX0_whomFor 6 = .ok (.getfield 9, 3) := by decide +kernel
theorem dX0_whomFor_9 : decode cX0_whomFor 9 = .ok (.arraylength, 1) := by decide +kernel
theorem dX0_whomFor_10 : decode cX0_whomFor 10 = .ok (.if_icmp .ge 128, 3) := by decide +kernel
theorem dX0_whomFor_13 : decode cX0_whomFor 13 = .ok (.iload_n 2, 1) := by decide +kernel
theorem dX0_whomFor_14 : decode cX0_whomFor 14 = .ok (.iconst 1, 1) := by decide +kernel
theorem dX0_whomFor_15 : decode cX0_whomFor 15 = .ok (.iand, 1) := by decide +kernel
theorem dX0_whomFor_16 : decode cX0_whomFor 16 = .ok (.istore 4, 2) := by decide +kernel
theorem dX0_whomFor_18 : decode cX0_whomFor 18 = .ok (.aload_n 0, 1) := by decide +kernel
theorem dX0_whomFor_19 : decode cX0_whomFor 19 = .ok (.getfield 9, 3) := by decide +kernel
theorem dX0_whomFor_22 : decode cX0_whomFor 22 = .ok (.iload_n 3, 1) := by decide +kernel
theorem dX0_whomFor_23 : decode cX0_whomFor 23 = .ok (.iaload, 1) := by decide +kernel
theorem dX0_whomFor_24 : decode cX0_whomFor 24 = .ok (.bipush 15, 2) := by decide +kernel
theorem dX0_whomFor_26 : decode cX0_whomFor 26 = .ok (.iand, 1) := by decide +kernel
theorem dX0_whomFor_27 : decode cX0_whomFor 27 = .ok (.tableswitch 85 0 3 #[29, 55, 62, 75], 29) := by decide +kernel
theorem dX0_whomFor_56 : decode cX0_whomFor 56 = .ok (.iload_n 2, 1) := by decide +kernel
theorem dX0_whomFor_57 : decode cX0_whomFor 57 = .ok (.iconst 1, 1) := by decide +kernel
theorem dX0_whomFor_58 : decode cX0_whomFor 58 = .ok (.ishl, 1) := by decide +kernel
theorem dX0_whomFor_59 : decode cX0_whomFor 59 = .ok (.aload_n 0, 1) := by decide +kernel
theorem dX0_whomFor_60 : decode cX0_whomFor 60 = .ok (.getfield 9, 3) := by decide +kernel
theorem dX0_whomFor_63 : decode cX0_whomFor 63 = .ok (.iload_n 3, 1) := by decide +kernel
theorem dX0_whomFor_64 : decode cX0_whomFor 64 = .ok (.iaload, 1) := by decide +kernel
theorem dX0_whomFor_65 : decode cX0_whomFor 65 = .ok (.aload_n 1, 1) := by decide +kernel
theorem dX0_whomFor_66 : decode cX0_whomFor 66 = .ok (.invokestatic 19, 3) := by decide +kernel
theorem dX0_whomFor_69 : decode cX0_whomFor 69 = .ok (.ifCond .eq 7, 3) := by decide +kernel
theorem dX0_whomFor_72 : decode cX0_whomFor 72 = .ok (.iconst 1, 1) := by decide +kernel
theorem dX0_whomFor_73 : decode cX0_whomFor 73 = .ok (.goto 4, 3) := by decide +kernel
theorem dX0_whomFor_76 : decode cX0_whomFor 76 = .ok (.iconst 0, 1) := by decide +kernel
theorem dX0_whomFor_77 : decode cX0_whomFor 77 = .ok (.ior, 1) := by decide +kernel
theorem dX0_whomFor_78 : decode cX0_whomFor 78 = .ok (.istore_n 2, 1) := by decide +kernel
theorem dX0_whomFor_79 : decode cX0_whomFor 79 = .ok (.goto 53, 3) := by decide +kernel
theorem dX0_whomFor_82 : decode cX0_whomFor 82 = .ok (.iload_n 2, 1) := by decide +kernel
theorem dX0_whomFor_83 : decode cX0_whomFor 83 = .ok (.iconst 1, 1) := by decide +kernel
theorem dX0_whomFor_84 : decode cX0_whomFor 84 = .ok (.ixor, 1) := by decide +kernel
theorem dX0_whomFor_85 : decode cX0_whomFor 85 = .ok (.istore_n 2, 1) := by decide +kernel
theorem dX0_whomFor_86 : decode cX0_whomFor 86 = .ok (.goto 46, 3) := by decide +kernel
theorem dX0_whomFor_89 : decode cX0_whomFor 89 = .ok (.iload_n 2, 1) := by decide +kernel
theorem dX0_whomFor_90 : decode cX0_whomFor 90 = .ok (.iconst 1, 1) := by decide +kernel
theorem dX0_whomFor_91 : decode cX0_whomFor 91 = .ok (.iushr, 1) := by decide +kernel
theorem dX0_whomFor_92 : decode cX0_whomFor 92 = .ok (.iload 4, 2) := by decide +kernel
theorem dX0_whomFor_94 : decode cX0_whomFor 94 = .ok (.bipush (-2), 2) := by decide +kernel
theorem dX0_whomFor_96 : decode cX0_whomFor 96 = .ok (.ior, 1) := by decide +kernel
theorem dX0_whomFor_97 : decode cX0_whomFor 97 = .ok (.iand, 1) := by decide +kernel
theorem dX0_whomFor_98 : decode cX0_whomFor 98 = .ok (.istore_n 2, 1) := by decide +kernel
theorem dX0_whomFor_99 : decode cX0_whomFor 99 = .ok (.goto 33, 3) := by decide +kernel
theorem dX0_whomFor_102 : decode cX0_whomFor 102 = .ok (.iload_n 2, 1) := by decide +kernel
theorem dX0_whomFor_103 : decode cX0_whomFor 103 = .ok (.iconst 1, 1) := by decide +kernel
theorem dX0_whomFor_104 : decode cX0_whomFor 104 = .ok (.iushr, 1) := by decide +kernel
theorem dX0_whomFor_105 : decode cX0_whomFor 105 = .ok (.iload 4, 2) := by decide +kernel
theorem dX0_whomFor_107 : decode cX0_whomFor 107 = .ok (.ior, 1) := by decide +kernel
theorem dX0_whomFor_108 : decode cX0_whomFor 108 = .ok (.istore_n 2, 1) := by decide +kernel
theorem dX0_whomFor_109 : decode cX0_whomFor 109 = .ok (.goto 23, 3) := by decide +kernel
theorem dX0_whomFor_112 : decode cX0_whomFor 112 = .ok (.iload 4, 2) := by decide +kernel
theorem dX0_whomFor_114 : decode cX0_whomFor 114 = .ok (.iconst 1, 1) := by decide +kernel
theorem dX0_whomFor_115 : decode cX0_whomFor 115 = .ok (.if_icmp .ne 15, 3) := by decide +kernel
theorem dX0_whomFor_118 : decode cX0_whomFor 118 = .ok (.aload_n 0, 1) := by decide +kernel
theorem dX0_whomFor_119 : decode cX0_whomFor 119 = .ok (.getfield 9, 3) := by decide +kernel
theorem dX0_whomFor_122 : decode cX0_whomFor 122 = .ok (.iload_n 3, 1) := by decide +kernel
theorem dX0_whomFor_123 : decode cX0_whomFor 123 = .ok (.iaload, 1) := by decide +kernel
theorem dX0_whomFor_124 : decode cX0_whomFor 124 = .ok (.iconst 4, 1) := by decide +kernel
theorem dX0_whomFor_125 : decode cX0_whomFor 125 = .ok (.ishr, 1) := by decide +kernel
theorem dX0_whomFor_126 : decode cX0_whomFor 126 = .ok (.bipush 15, 2) := by decide +kernel
theorem dX0_whomFor_128 : decode cX0_whomFor 128 = .ok (.iand, 1) := by decide +kernel
theorem dX0_whomFor_129 : decode cX0_whomFor 129 = .ok (.ireturn, 1) := by decide +kernel
theorem dX0_whomFor_130 : decode cX0_whomFor 130 = .ok (.iconst 0, 1) := by decide +kernel
theorem dX0_whomFor_131 : decode cX0_whomFor 131 = .ok (.istore_n 2, 1) := by decide +kernel
theorem dX0_whomFor_132 : decode cX0_whomFor 132 = .ok (.iinc 3 1, 3) := by decide +kernel
theorem dX0_whomFor_135 : decode cX0_whomFor 135 = .ok (.goto (-131), 3) := by decide +kernel
theorem dX0_whomFor_138 : decode cX0_whomFor 138 = .ok (.iconst 0, 1) := by decide +kernel
theorem dX0_whomFor_139 : decode cX0_whomFor 139 = .ok (.ireturn, 1) := by decide +kernel
def fX0_whomFor_118 (l0 : Nat) (l3 : Int32) : mM Int32 := bGR 0 l0 0 (fun x1 => bAI 11 x1 l3 (fun x2 => bRet ((x2 >>> ((4 : Int32) &&& 31)) &&& (15 : Int32))))
set_option maxRecDepth 20000 in
theorem rX0_whomFor_118 (v : mE) (d : Nat) (l0 : Nat) (l3 : Int32) : Rz v RX0 cX0_whomFor 5 (some .int) false emI (d + 1) 118 [(0, vR l0), (3, vI l3)] [] (fX0_whomFor_118 l0 l3) := by
  unfold fX0_whomFor_118
  refine rz_aload_n 119 0 dX0_whomFor_118 rfl rfl ?_
  refine rz_gR 122 dX0_whomFor_119 rfl rfl fl_X0_9 (fun x1 => ?_)
  refine rz_iload_n 123 1 dX0_whomFor_122 rfl rfl ?_
  refine rz_iald 124 dX0_whomFor_123 rfl (fun x2 => ?_)
  refine rz_iconst 125 dX0_whomFor_124 rfl ci_4 ?_
  refine rz_ishr 126 dX0_whomFor_125 rfl ?_
  refine rz_bipush 128 dX0_whomFor_126 rfl cb_15 ?_
  refine rz_iand 129 dX0_whomFor_128 rfl ?_
  exact rz_ireturn rfl rfl dX0_whomFor_129
def fX0_whomFor_77 (r4 : Nat → Nat → Int32 → Int32 → mM Int32) (l0 : Nat) (l1 : Nat) (l3 : Int32) (s0 : Int32) (s1 : Int32) : mM Int32 := r4 l0 l1 (s1 ||| s0) (l3 + 1)
set_option maxRecDepth 20000 in
theorem rX0_whomFor_77 (v : mE) (d : Nat) (r4 : Nat → Nat → Int32 → Int32 → mM Int32) (h4 : ∀ (y0 : Nat) (y1 : Nat) (y2 : Int32) (y3 : Int32), Rz v RX0 cX0_whomFor 5 (some .int) false emI (d + 1) 4 [(0, vR y0), (1, vR y1), (2, vI y2), (3, vI y3)] [] (r4 y0 y1 y2 y3)) (l0 : Nat) (l1 : Nat) (l3 : Int32) (s0 : Int32) (s1 : Int32) : Rz v RX0 cX0_whomFor 5 (some .int) false emI (d + 1) 77 [(0, vR l0), (1, vR l1), (3, vI l3)] [vI s0, vI s1] (fX0_whomFor_77 r4 l0 l1 l3 s0 s1) := by
  unfold fX0_whomFor_77
  refine rz_ior 78 dX0_whomFor_77 rfl ?_
  refine rz_istore_n (lv' := [(2, vI (s1 ||| s0)), (0, vR l0), (1, vR l1), (3, vI l3)]) 79 dX0_whomFor_78 rfl rfl rfl ?_
  refine rz_goto 132 dX0_whomFor_79 rfl ?_
  refine rz_iinc (lv' := [(3, vI (l3 + 1)), (2, vI (s1 ||| s0)), (0, vR l0), (1, vR l1)]) 135 3 dX0_whomFor_132 rfl rfl (cn_1 _) rfl rfl ?_
  refine rz_goto 4 dX0_whomFor_135 rfl ?_
  exact rz_sub [2, 3, 1, 0] rfl (h4 l0 l1 (s1 ||| s0) (l3 + 1))
def fX0_whomFor_4 : Nat → Nat → Nat → Int32 → Int32 → mM Int32
  | 0 => fun _ _ _ _ => fun _ => none
  | n + 1 => fun l0 l1 l2 l3 => let r4 := fX0_whomFor_4 n; bGR 0 l0 0 (fun x1 => bLen 11 x1 (fun x2 => bIf (x2 ≤ l3) (bRet (0 : Int32)) (bGR 0 l0 0 (fun x3 => bAI 11 x3 l3 (fun x4 => bSw (x4 &&& (15 : Int32)) 0 [(56, bGR 0 l0 0 (fun x5 => bAI 11 x5 l3 (fun x6 => bCall (fX0_isSo x6 l1) (fun x7 => bIf (x7 = 0) (fX0_whomFor_77 r4 l0 l1 l3 (0 : Int32) (l2 <<< ((1 : Int32) &&& 31))) (fX0_whomFor_77 r4 l0 l1 l3 (1 : Int32) (l2 <<< ((1 : Int32) &&& 31))))))), (82, r4 l0 l1 (l2 ^^^ (1 : Int32)) (l3 + 1)), (89, r4 l0 l1 (((l2.toUInt32 >>> (Int32.toUInt32 (1 : Int32) &&& Int32.toUInt32 31)).toInt32) &&& ((l2 &&& (1 : Int32)) ||| (-2 : Int32))) (l3 + 1)), (102, r4 l0 l1 (((l2.toUInt32 >>> (Int32.toUInt32 (1 : Int32) &&& Int32.toUInt32 31)).toInt32) ||| (l2 &&& (1 : Int32))) (l3 + 1))] (bIf ((l2 &&& (1 : Int32)) = (1 : Int32)) (fX0_whomFor_118 l0 l3) (r4 l0 l1 (0 : Int32) (l3 + 1))))))))
theorem qX0_whomFor_4  (n : Nat) (l0 : Nat) (l1 : Nat) (l2 : Int32) (l3 : Int32) : fX0_whomFor_4 (n + 1) l0 l1 l2 l3 = bGR 0 l0 0 (fun x1 => bLen 11 x1 (fun x2 => bIf (x2 ≤ l3) (bRet (0 : Int32)) (bGR 0 l0 0 (fun x3 => bAI 11 x3 l3 (fun x4 => bSw (x4 &&& (15 : Int32)) 0 [(56, bGR 0 l0 0 (fun x5 => bAI 11 x5 l3 (fun x6 => bCall (fX0_isSo x6 l1) (fun x7 => bIf (x7 = 0) (fX0_whomFor_77 (fX0_whomFor_4 n) l0 l1 l3 (0 : Int32) (l2 <<< ((1 : Int32) &&& 31))) (fX0_whomFor_77 (fX0_whomFor_4 n) l0 l1 l3 (1 : Int32) (l2 <<< ((1 : Int32) &&& 31))))))), (82, (fX0_whomFor_4 n) l0 l1 (l2 ^^^ (1 : Int32)) (l3 + 1)), (89, (fX0_whomFor_4 n) l0 l1 (((l2.toUInt32 >>> (Int32.toUInt32 (1 : Int32) &&& Int32.toUInt32 31)).toInt32) &&& ((l2 &&& (1 : Int32)) ||| (-2 : Int32))) (l3 + 1)), (102, (fX0_whomFor_4 n) l0 l1 (((l2.toUInt32 >>> (Int32.toUInt32 (1 : Int32) &&& Int32.toUInt32 31)).toInt32) ||| (l2 &&& (1 : Int32))) (l3 + 1))] (bIf ((l2 &&& (1 : Int32)) = (1 : Int32)) (fX0_whomFor_118 l0 l3) ((fX0_whomFor_4 n) l0 l1 (0 : Int32) (l3 + 1)))))))) := rfl
set_option maxRecDepth 20000 in
theorem rX0_whomFor_4 (v : mE) (d : Nat) : ∀ (n : Nat) (l0 : Nat) (l1 : Nat) (l2 : Int32) (l3 : Int32), Rz v RX0 cX0_whomFor 5 (some .int) false emI (d + 1) 4 [(0, vR l0), (1, vR l1), (2, vI l2), (3, vI l3)] [] (fX0_whomFor_4 n l0 l1 l2 l3)
  | 0, _, _, _, _ => fun _ _ _ hm => by cases hm
  | n + 1, l0, l1, l2, l3 => by
    have h4 := rX0_whomFor_4 v d n
    unfold fX0_whomFor_4
    generalize fX0_whomFor_4 n = r4 at h4 ⊢
    refine rz_iload_n 5 3 dX0_whomFor_4 rfl rfl ?_
    refine rz_aload_n 6 0 dX0_whomFor_5 rfl rfl ?_
    refine rz_gR 9 dX0_whomFor_6 rfl rfl fl_X0_9 (fun x1 => ?_)
    refine rz_alen 10 dX0_whomFor_9 rfl (by decide) (fun x2 => ?_)
    refine rz_icmp_ge 138 13 dX0_whomFor_10 rfl rfl ?_ ?_
    · refine rz_iconst 139 dX0_whomFor_138 rfl ci_0 ?_
      exact rz_ireturn rfl rfl dX0_whomFor_139
    · refine rz_iload_n 14 2 dX0_whomFor_13 rfl rfl ?_
      refine rz_iconst 15 dX0_whomFor_14 rfl ci_1 ?_
      refine rz_iand 16 dX0_whomFor_15 rfl ?_
      refine rz_istore (lv' := [(4, vI (l2 &&& (1 : Int32))), (0, vR l0), (1, vR l1), (2, vI l2), (3, vI l3)]) 18 dX0_whomFor_16 rfl rfl rfl ?_
      refine rz_aload_n 19 1 dX0_whomFor_18 rfl rfl ?_
      refine rz_gR 22 dX0_whomFor_19 rfl rfl fl_X0_9 (fun x3 => ?_)
      refine rz_iload_n 23 4 dX0_whomFor_22 rfl rfl ?_
      refine rz_iald 24 dX0_whomFor_23 rfl (fun x4 => ?_)
      refine rz_bipush 26 dX0_whomFor_24 rfl cb_15 ?_
      refine rz_iand 27 dX0_whomFor_26 rfl ?_
      refine rz_table 112 dX0_whomFor_27 rfl rfl rfl rfl ?_ ?_
      · refine rz_iload 114 0 dX0_whomFor_112 rfl rfl ?_
        refine rz_iconst 115 dX0_whomFor_114 rfl ci_1 ?_
        refine rz_icmp_ne 130 118 dX0_whomFor_115 rfl rfl ?_ ?_
        · refine rz_iconst 131 dX0_whomFor_130 rfl ci_0 ?_
          refine rz_istore_n (lv' := [(2, vI (0 : Int32)), (4, vI (l2 &&& (1 : Int32))), (0, vR l0), (1, vR l1), (3, vI l3)]) 132 dX0_whomFor_131 rfl rfl rfl ?_
          refine rz_iinc (lv' := [(3, vI (l3 + 1)), (2, vI (0 : Int32)), (4, vI (l2 &&& (1 : Int32))), (0, vR l0), (1, vR l1)]) 135 4 dX0_whomFor_132 rfl rfl (cn_1 _) rfl rfl ?_
          refine rz_goto 4 dX0_whomFor_135 rfl ?_
          exact rz_sub [3, 4, 1, 0] rfl (h4 l0 l1 (0 : Int32) (l3 + 1))
        · exact rz_sub [1, 4] rfl (rX0_whomFor_118 v d l0 l3)
      · refine List.forall_mem_cons.mpr ⟨?_, List.forall_mem_cons.mpr ⟨?_, List.forall_mem_cons.mpr ⟨?_, List.forall_mem_cons.mpr ⟨?_, fun _ h => absurd h List.not_mem_nil⟩⟩⟩⟩
        · refine rz_pr ?_
          refine rz_iload_n 57 3 dX0_whomFor_56 rfl rfl ?_
          refine rz_iconst 58 dX0_whomFor_57 rfl ci_1 ?_
          refine rz_ishl 59 dX0_whomFor_58 rfl ?_
          refine rz_aload_n 60 1 dX0_whomFor_59 rfl rfl ?_
          refine rz_gR 63 dX0_whomFor_60 rfl rfl fl_X0_9 (fun x5 => ?_)
          refine rz_iload_n 64 4 dX0_whomFor_63 rfl rfl ?_
          refine rz_iald 65 dX0_whomFor_64 rfl (fun x6 => ?_)
          refine rz_aload_n 66 2 dX0_whomFor_65 rfl rfl ?_
          refine rz_callS 69 dX0_whomFor_66 rfl (tX0_isSo v (d + 0) x6 l1) rfl rfl ml_X0_19 sm_X0_isSo in_X0 co_X0_isSo rfl rfl (fun x7 => ?_)
          refine rz_if_eq 76 72 dX0_whomFor_69 rfl rfl ?_ ?_
          · refine rz_iconst 77 dX0_whomFor_76 rfl ci_0 ?_
            exact rz_sub [1, 2, 4] rfl (rX0_whomFor_77 v d r4 h4 l0 l1 l3 (0 : Int32) (l2 <<< ((1 : Int32) &&& 31)))
          · refine rz_iconst 73 dX0_whomFor_72 rfl ci_1 ?_
            refine rz_goto 77 dX0_whomFor_73 rfl ?_
            exact rz_sub [1, 2, 4] rfl (rX0_whomFor_77 v d r4 h4 l0 l1 l3 (1 : Int32) (l2 <<< ((1 : Int32) &&& 31)))
        · refine rz_pr ?_
          refine rz_iload_n 83 3 dX0_whomFor_82 rfl rfl ?_
          refine rz_iconst 84 dX0_whomFor_83 rfl ci_1 ?_
          refine rz_ixor 85 dX0_whomFor_84 rfl ?_
          refine rz_istore_n (lv' := [(2, vI (l2 ^^^ (1 : Int32))), (4, vI (l2 &&& (1 : Int32))), (0, vR l0), (1, vR l1), (3, vI l3)]) 86 dX0_whomFor_85 rfl rfl rfl ?_
          refine rz_goto 132 dX0_whomFor_86 rfl ?_
          refine rz_iinc (lv' := [(3, vI (l3 + 1)), (2, vI (l2 ^^^ (1 : Int32))), (4, vI (l2 &&& (1 : Int32))), (0, vR l0), (1, vR l1)]) 135 4 dX0_whomFor_132 rfl rfl (cn_1 _) rfl rfl ?_
          refine rz_goto 4 dX0_whomFor_135 rfl ?_
          exact rz_sub [3, 4, 1, 0] rfl (h4 l0 l1 (l2 ^^^ (1 : Int32)) (l3 + 1))
        · refine rz_pr ?_
          refine rz_iload_n 90 3 dX0_whomFor_89 rfl rfl ?_
          refine rz_iconst 91 dX0_whomFor_90 rfl ci_1 ?_
          refine rz_iushr 92 dX0_whomFor_91 rfl ?_
          refine rz_iload 94 0 dX0_whomFor_92 rfl rfl ?_
          refine rz_bipush 96 dX0_whomFor_94 rfl cb_m2 ?_
          refine rz_ior 97 dX0_whomFor_96 rfl ?_
          refine rz_iand 98 dX0_whomFor_97 rfl ?_
          refine rz_istore_n (lv' := [(2, vI (((l2.toUInt32 >>> (Int32.toUInt32 (1 : Int32) &&& Int32.toUInt32 31)).toInt32) &&& ((l2 &&& (1 : Int32)) ||| (-2 : Int32)))), (4, vI (l2 &&& (1 : Int32))), (0, vR l0), (1, vR l1), (3, vI l3)]) 99 dX0_whomFor_98 rfl rfl rfl ?_
          refine rz_goto 132 dX0_whomFor_99 rfl ?_
          refine rz_iinc (lv' := [(3, vI (l3 + 1)), (2, vI (((l2.toUInt32 >>> (Int32.toUInt32 (1 : Int32) &&& Int32.toUInt32 31)).toInt32) &&& ((l2 &&& (1 : Int32)) ||| (-2 : Int32)))), (4, vI (l2 &&& (1 : Int32))), (0, vR l0), (1, vR l1)]) 135 4 dX0_whomFor_132 rfl rfl (cn_1 _) rfl rfl ?_
          refine rz_goto 4 dX0_whomFor_135 rfl ?_
          exact rz_sub [3, 4, 1, 0] rfl (h4 l0 l1 (((l2.toUInt32 >>> (Int32.toUInt32 (1 : Int32) &&& Int32.toUInt32 31)).toInt32) &&& ((l2 &&& (1 : Int32)) ||| (-2 : Int32))) (l3 + 1))
        · refine rz_pr ?_
          refine rz_iload_n 103 3 dX0_whomFor_102 rfl rfl ?_
          refine rz_iconst 104 dX0_whomFor_103 rfl ci_1 ?_
          refine rz_iushr 105 dX0_whomFor_104 rfl ?_
          refine rz_iload 107 0 dX0_whomFor_105 rfl rfl ?_
          refine rz_ior 108 dX0_whomFor_107 rfl ?_
          refine rz_istore_n (lv' := [(2, vI (((l2.toUInt32 >>> (Int32.toUInt32 (1 : Int32) &&& Int32.toUInt32 31)).toInt32) ||| (l2 &&& (1 : Int32)))), (4, vI (l2 &&& (1 : Int32))), (0, vR l0), (1, vR l1), (3, vI l3)]) 109 dX0_whomFor_108 rfl rfl rfl ?_
          refine rz_goto 132 dX0_whomFor_109 rfl ?_
          refine rz_iinc (lv' := [(3, vI (l3 + 1)), (2, vI (((l2.toUInt32 >>> (Int32.toUInt32 (1 : Int32) &&& Int32.toUInt32 31)).toInt32) ||| (l2 &&& (1 : Int32)))), (4, vI (l2 &&& (1 : Int32))), (0, vR l0), (1, vR l1)]) 135 4 dX0_whomFor_132 rfl rfl (cn_1 _) rfl rfl ?_
          refine rz_goto 4 dX0_whomFor_135 rfl ?_
          exact rz_sub [3, 4, 1, 0] rfl (h4 l0 l1 (((l2.toUInt32 >>> (Int32.toUInt32 (1 : Int32) &&& Int32.toUInt32 31)).toInt32) ||| (l2 &&& (1 : Int32))) (l3 + 1))
def fX0_whomFor (l0 : Nat) (l1 : Nat) : mM Int32 := fX0_whomFor_4 fu l0 l1 (0 : Int32) (0 : Int32)
set_option maxRecDepth 20000 in
theorem rX0_whomFor (v : mE) (d : Nat) (l0 : Nat) (l1 : Nat) : Rz v RX0 cX0_whomFor 5 (some .int) false emI (d + 1) 0 [(0, vR l0), (1, vR l1)] [] (fX0_whomFor l0 l1) := by
  unfold fX0_whomFor
  refine rz_iconst 1 dX0_whomFor_0 rfl ci_0 ?_
  refine rz_istore_n (lv' := [(2, vI (0 : Int32)), (0, vR l0), (1, vR l1)]) 2 dX0_whomFor_1 rfl rfl rfl ?_
  refine rz_iconst 3 dX0_whomFor_2 rfl ci_0 ?_
  refine rz_istore_n (lv' := [(3, vI (0 : Int32)), (2, vI (0 : Int32)), (0, vR l0), (1, vR l1)]) 4 dX0_whomFor_3 rfl rfl rfl ?_
  exact rz_sub [2, 3, 1, 0] rfl (rX0_whomFor_4 v d fu l0 l1 (0 : Int32) (0 : Int32))
theorem tX0_whomFor (v : mE) (d : Nat) (l0 : Nat) (l1 : Nat) : Mt v yX0_whomFor cX0_whomFor 5 (some .int) emI (d + 1) [vR l0, vR l1] (fX0_whomFor l0 l1) := mt_of rfl rfl (fun h => by cases h) rfl rfl (rX0_whomFor v d l0 l1)

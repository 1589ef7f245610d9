theorem dX9_undo_0 : decode cX9_undo 0 = .ok (.aload_n 0, 1) := by decide +kernel
theorem dX9_undo_1 : decode cX9_undo 1 = .ok (.iconst 0, 1) := by decide +kernel
theorem dX9_undo_2 : decode cX9_undo 2 = .ok (.putfield 62, 3) := by decide +kernel
theorem dX9_undo_5 : decode cX9_undo 5 = .ok (.aload_n 0, 1) := by decide +kernel
theorem dX9_undo_6 : decode cX9_undo 6 = .ok (.iconst 0, 1) := by decide +kernel
theorem dX9_undo_7 : decode cX9_undo 7 = .ok (.putfield 65, 3) := by decide +kernel
theorem dX9_undo_10 : decode cX9_undo 10 = .ok (.aload_n 0, 1) := by decide +kernel
theorem dX9_undo_11 : decode cX9_undo 11 = .ok (.iload_n 1, 1) := by decide +kernel
theorem dX9_undo_12 : decode cX9_undo 12 = .ok (.invokevirtual 318, 3) := by decide +kernel
theorem dX9_undo_15 : decode cX9_undo 15 = .ok (.ifCond .ne 9, 3) := by decide +kernel
theorem dX9_undo_18 : decode cX9_undo 18 = .ok (.aload_n 0, 1) := by decide +kernel
theorem dX9_undo_19 : decode cX9_undo 19 = .ok (.iconst 2, 1) := by decide +kernel
theorem dX9_undo_20 : decode cX9_undo 20 = .ok (.invokevirtual 357, 3) := by decide +kernel
theorem dX9_undo_23 : decode cX9_undo 23 = .ok (.ireturn, 1) := by decide +kernel
theorem dX9_undo_24 : decode cX9_undo 24 = .ok (.iload_n 2, 1) := by decide +kernel
theorem dX9_undo_25 : decode cX9_undo 25 = .ok (.i2l, 1) := by decide +kernel
theorem dX9_undo_26 : decode cX9_undo 26 = .ok (.lconst 1, 1) := by decide +kernel
theorem dX9_undo_27 : decode cX9_undo 27 = .ok (.aload_n 0, 1) := by decide +kernel
theorem dX9_undo_28 : decode cX9_undo 28 = .ok (.iload_n 1, 1) := by decide +kernel
theorem dX9_undo_29 : decode cX9_undo 29 = .ok (.invokevirtual 330, 3) := by decide +kernel
theorem dX9_undo_32 : decode cX9_undo 32 = .ok (.i2l, 1) := by decide +kernel
theorem dX9_undo_33 : decode cX9_undo 33 = .ok (.invokestatic 97, 3) := by decide +kernel
theorem dX9_undo_36 : decode cX9_undo 36 = .ok (.ifCond .ne 9, 3) := by decide +kernel
theorem dX9_undo_39 : decode cX9_undo 39 = .ok (.aload_n 0, 1) := by decide +kernel
theorem dX9_undo_40 : decode cX9_undo 40 = .ok (.iconst 5, 1) := by decide +kernel
theorem dX9_undo_41 : decode cX9_undo 41 = .ok (.invokevirtual 357, 3) := by decide +kernel
theorem dX9_undo_44 : decode cX9_undo 44 = .ok (.ireturn, 1) := by decide +kernel
theorem dX9_undo_45 : decode cX9_undo 45 = .ok (.aload_n 0, 1) := by decide +kernel
theorem dX9_undo_46 : decode cX9_undo 46 = .ok (.invokevirtual 354, 3) := by decide +kernel
theorem dX9_undo_49 : decode cX9_undo 49 = .ok (.bipush 12, 2) := by decide +kernel
theorem dX9_undo_51 : decode cX9_undo 51 = .ok (.if_icmp .ne 10, 3) := by decide +kernel
theorem dX9_undo_54 : decode cX9_undo 54 = .ok (.aload_n 0, 1) := by decide +kernel
theorem dX9_undo_55 : decode cX9_undo 55 = .ok (.bipush 7, 2) := by decide +kernel
theorem dX9_undo_57 : decode cX9_undo 57 = .ok (.invokevirtual 357, 3) := by decide +kernel
theorem dX9_undo_60 : decode cX9_undo 60 = .ok (.ireturn, 1) := by decide +kernel
theorem dX9_undo_61 : decode cX9_undo 61 = .ok (.aload_n 0, 1) := by decide +kernel
theorem dX9_undo_62 : decode cX9_undo 62 = .ok (.iload_n 1, 1) := by decide +kernel
theorem dX9_undo_63 : decode cX9_undo 63 = .ok (.invokevirtual 443, 3) := by decide +kernel
theorem dX9_undo_66 : decode cX9_undo 66 = .ok (.ifCond .ne 10, 3) := by decide +kernel
theorem dX9_undo_69 : decode cX9_undo 69 = .ok (.aload_n 0, 1) := by decide +kernel
theorem dX9_undo_70 : decode cX9_undo 70 = .ok (.bipush 9, 2) := by decide +kernel
theorem dX9_undo_72 : decode cX9_undo 72 = .ok (.invokevirtual 357, 3) := by decide +kernel
theorem dX9_undo_75 : decode cX9_undo 75 = .ok (.ireturn, 1) := by decide +kernel
theorem dX9_undo_76 : decode cX9_undo 76 = .ok (.iconst 0, 1) := by decide +kernel
theorem dX9_undo_77 : decode cX9_undo 77 = .ok (.istore_n 3, 1) := by decide +kernel
theorem dX9_undo_78 : decode cX9_undo 78 = .ok (.iconst 0, 1) := by decide +kernel
theorem dX9_undo_79 : decode cX9_undo 79 = .ok (.istore 4, 2) := by decide +kernel
theorem dX9_undo_81 : decode cX9_undo 81 = .ok (.iload 4, 2) := by decide +kernel
theorem dX9_undo_83 : decode cX9_undo 83 = .ok (.iload_n 2, 1) := by decide +kernel
theorem dX9_undo_84 : decode cX9_undo 84 = .ok (.if_icmp .ge 27, 3) := by decide +kernel
theorem dX9_undo_87 : decode cX9_undo 87 = .ok (.iload_n 3, 1) := by decide +kernel
theorem dX9_undo_88 : decode cX9_undo 88 = .ok (.aload_n 0, 1) := by decide +kernel
theorem dX9_undo_89 : decode cX9_undo 89 = .ok (.getfield 35, 3) := by decide +kernel
theorem dX9_undo_92 : decode cX9_undo 92 = .ok (.bipush 97, 2) := by decide +kernel
theorem dX9_undo_94 : decode cX9_undo 94 = .ok (.bipush 8, 2) := by decide +kernel
theorem dX9_undo_96 : decode cX9_undo 96 = .ok (.iload_n 1, 1) := by decide +kernel
theorem dX9_undo_97 : decode cX9_undo 97 = .ok (.imul, 1) := by decide +kernel
theorem dX9_undo_98 : decode cX9_undo 98 = .ok (.iadd, 1) := by decide +kernel
theorem dX9_undo_99 : decode cX9_undo 99 = .ok (.iload 4, 2) := by decide +kernel
theorem dX9_undo_101 : decode cX9_undo 101 = .ok (.iadd, 1) := by decide +kernel
theorem dX9_undo_102 : decode cX9_undo 102 = .ok (.iaload, 1) := by decide +kernel
theorem dX9_undo_103 : decode cX9_undo 103 = .ok (.iadd, 1) := by decide +kernel
theorem dX9_undo_104 : decode cX9_undo 104 = .ok (.istore_n 3, 1) := by decide +kernel
theorem dX9_undo_105 : decode cX9_undo 105 = .ok (.iinc 4 1, 3) := by decide +kernel
theorem dX9_undo_108 : decode cX9_undo 108 = .ok (.goto (-27), 3) := by decide +kernel
theorem dX9_undo_111 : decode cX9_undo 111 = .ok (.aload_n 0, 1) := by decide +kernel
theorem dX9_undo_112 : decode cX9_undo 112 = .ok (.iload_n 1, 1) := by decide +kernel
theorem dX9_undo_113 : decode cX9_undo 113 = .ok (.iload_n 3, 1) := by decide +kernel
theorem dX9_undo_114 : decode cX9_undo 114 = .ok (.invokevirtual 393, 3) := by decide +kernel
theorem dX9_undo_117 : decode cX9_undo 117 = .ok (.ireturn, 1) := by decide +kernel
def fX9_undo_111 (l0 : Nat) (l1 : Int32) (l3 : Int32) : mM Int32 := bCallV 9 l0 (fX9_partFrom l0 l1 l3) (fun x1 => bRet x1)
set_option maxRecDepth 20000 in
theorem rX9_undo_111 (v : mE) (d : Nat) (l0 : Nat) (l1 : Int32) (l3 : Int32) : Rz v RX9 cX9_undo 5 (some .int) false emI (d + 3) 111 [(0, vR l0), (1, vI l1), (3, vI l3)] [] (fX9_undo_111 l0 l1 l3) := by
  unfold fX9_undo_111
  refine rz_aload_n 112 0 dX9_undo_111 rfl rfl ?_
  refine rz_iload_n 113 1 dX9_undo_112 rfl rfl ?_
  refine rz_iload_n 114 2 dX9_undo_113 rfl rfl ?_
  refine rz_callV 117 dX9_undo_114 rfl (tX9_partFrom v (d + 1) l0 l1 l3) rfl rfl rfl rfl ml_X9_393 im_X9_partFrom se_X9_X9_partFrom in_X9 co_X9_partFrom rfl rfl (fun x1 => ?_)
  exact rz_ireturn rfl rfl dX9_undo_117
def fX9_undo_81 : Nat → Nat → Int32 → Int32 → Int32 → Int32 → mM Int32
  | 0 => fun _ _ _ _ _ => fun _ => none
  | n + 1 => fun l0 l1 l2 l3 l4 => let r81 := fX9_undo_81 n; bIf (l2 ≤ l4) (fX9_undo_111 l0 l1 l3) (bGR 9 l0 24 (fun x1 => bAI 11 x1 (((97 : Int32) + ((8 : Int32) * l1)) + l4) (fun x2 => r81 l0 l1 l2 (l3 + x2) (l4 + 1))))
theorem qX9_undo_81  (n : Nat) (l0 : Nat) (l1 : Int32) (l2 : Int32) (l3 : Int32) (l4 : Int32) : fX9_undo_81 (n + 1) l0 l1 l2 l3 l4 = bIf (l2 ≤ l4) (fX9_undo_111 l0 l1 l3) (bGR 9 l0 24 (fun x1 => bAI 11 x1 (((97 : Int32) + ((8 : Int32) * l1)) + l4) (fun x2 => (fX9_undo_81 n) l0 l1 l2 (l3 + x2) (l4 + 1)))) := rfl
set_option maxRecDepth 20000 in
theorem rX9_undo_81 (v : mE) (d : Nat) : ∀ (n : Nat) (l0 : Nat) (l1 : Int32) (l2 : Int32) (l3 : Int32) (l4 : Int32), Rz v RX9 cX9_undo 5 (some .int) false emI (d + 3) 81 [(0, vR l0), (1, vI l1), (2, vI l2), (3, vI l3), (4, vI l4)] [] (fX9_undo_81 n l0 l1 l2 l3 l4)
  | 0, _, _, _, _, _ => fun _ _ _ hm => by cases hm
  | n + 1, l0, l1, l2, l3, l4 => by
    have h81 := rX9_undo_81 v d n
    unfold fX9_undo_81
    generalize fX9_undo_81 n = r81 at h81 ⊢
    refine rz_iload 83 4 dX9_undo_81 rfl rfl ?_
    refine rz_iload_n 84 2 dX9_undo_83 rfl rfl ?_
    refine rz_icmp_ge 111 87 dX9_undo_84 rfl rfl ?_ ?_
    · exact rz_sub [0, 1, 3] rfl (rX9_undo_111 v d l0 l1 l3)
    · refine rz_iload_n 88 3 dX9_undo_87 rfl rfl ?_
      refine rz_aload_n 89 0 dX9_undo_88 rfl rfl ?_
      refine rz_gR 92 dX9_undo_89 rfl rfl fl_X9_35 (fun x1 => ?_)
      refine rz_bipush 94 dX9_undo_92 rfl cb_97 ?_
      refine rz_bipush 96 dX9_undo_94 rfl cb_8 ?_
      refine rz_iload_n 97 1 dX9_undo_96 rfl rfl ?_
      refine rz_imul 98 dX9_undo_97 rfl ?_
      refine rz_iadd 99 dX9_undo_98 rfl ?_
      refine rz_iload 101 4 dX9_undo_99 rfl rfl ?_
      refine rz_iadd 102 dX9_undo_101 rfl ?_
      refine rz_iald 103 dX9_undo_102 rfl (fun x2 => ?_)
      refine rz_iadd 104 dX9_undo_103 rfl ?_
      refine rz_istore_n (lv' := [(3, vI (l3 + x2)), (0, vR l0), (1, vI l1), (2, vI l2), (4, vI l4)]) 105 dX9_undo_104 rfl rfl rfl ?_
      refine rz_iinc (lv' := [(4, vI (l4 + 1)), (3, vI (l3 + x2)), (0, vR l0), (1, vI l1), (2, vI l2)]) 108 4 dX9_undo_105 rfl rfl (cn_1 _) rfl rfl ?_
      refine rz_goto 81 dX9_undo_108 rfl ?_
      exact rz_sub [2, 3, 4, 1, 0] rfl (h81 l0 l1 l2 (l3 + x2) (l4 + 1))
def fX9_undo (l0 : Nat) (l1 : Int32) (l2 : Int32) : mM Int32 := bPI 9 l0 1 (0 : Int32) (bPI 9 l0 0 (0 : Int32) (bCallV 9 l0 (fX9_isRope l0 l1) (fun x1 => bIf (x1 = 0) (bCallV 9 l0 (fX9_refuse l0 (2 : Int32)) (fun x9 => bRet x9)) (bCallV 9 l0 (fX9_knotsOfRope l0 l1) (fun x2 => bCall (fX9_isIn (Int32.toInt64 l2) (1 : Int64) (Int32.toInt64 x2)) (fun x3 => bIf (x3 = 0) (bCallV 9 l0 (fX9_refuse l0 (5 : Int32)) (fun x8 => bRet x8)) (bCallV 9 l0 (fX9_ropes l0) (fun x4 => bIf (x4 = (12 : Int32)) (bCallV 9 l0 (fX9_refuse l0 (7 : Int32)) (fun x7 => bRet x7)) (bCallV 9 l0 (fX9_isFree l0 l1) (fun x5 => bIf (x5 = 0) (bCallV 9 l0 (fX9_refuse l0 (9 : Int32)) (fun x6 => bRet x6)) (fX9_undo_81 fu l0 l1 l2 (0 : Int32) (0 : Int32))))))))))))
set_option maxRecDepth 20000 in
theorem rX9_undo (v : mE) (d : Nat) (l0 : Nat) (l1 : Int32) (l2 : Int32) : Rz v RX9 cX9_undo 5 (some .int) false emI (d + 3) 0 [(0, vR l0), (1, vI l1), (2, vI l2)] [] (fX9_undo l0 l1 l2) := by
  unfold fX9_undo
  refine rz_aload_n 1 0 dX9_undo_0 rfl rfl ?_
  refine rz_iconst 2 dX9_undo_1 rfl ci_0 ?_
  refine rz_pI 5 dX9_undo_2 rfl rfl rfl rfl fl_X9_62 ?_
  refine rz_aload_n 6 0 dX9_undo_5 rfl rfl ?_
  refine rz_iconst 7 dX9_undo_6 rfl ci_0 ?_
  refine rz_pI 10 dX9_undo_7 rfl rfl rfl rfl fl_X9_65 ?_
  refine rz_aload_n 11 0 dX9_undo_10 rfl rfl ?_
  refine rz_iload_n 12 1 dX9_undo_11 rfl rfl ?_
  refine rz_callV 15 dX9_undo_12 rfl (tX9_isRope v (d + 1) l0 l1) rfl rfl rfl rfl ml_X9_318 im_X9_isRope se_X9_X9_isRope in_X9 co_X9_isRope rfl rfl (fun x1 => ?_)
  refine rz_if_ne 24 18 dX9_undo_15 rfl rfl ?_ ?_
  · refine rz_iload_n 25 2 dX9_undo_24 rfl rfl ?_
    refine rz_i2l 26 dX9_undo_25 rfl ?_
    refine rz_lconst 27 dX9_undo_26 rfl cl_1 ?_
    refine rz_aload_n 28 0 dX9_undo_27 rfl rfl ?_
    refine rz_iload_n 29 1 dX9_undo_28 rfl rfl ?_
    refine rz_callV 32 dX9_undo_29 rfl (tX9_knotsOfRope v (d + 2) l0 l1) rfl rfl rfl rfl ml_X9_330 im_X9_knotsOfRope se_X9_X9_knotsOfRope in_X9 co_X9_knotsOfRope rfl rfl (fun x2 => ?_)
    refine rz_i2l 33 dX9_undo_32 rfl ?_
    refine rz_callS 36 dX9_undo_33 rfl (tX9_isIn v (d + 2) (Int32.toInt64 l2) (1 : Int64) (Int32.toInt64 x2)) rfl rfl ml_X9_97 sm_X9_isIn in_X9 co_X9_isIn rfl rfl (fun x3 => ?_)
    refine rz_if_ne 45 39 dX9_undo_36 rfl rfl ?_ ?_
    · refine rz_aload_n 46 0 dX9_undo_45 rfl rfl ?_
      refine rz_callV 49 dX9_undo_46 rfl (tX9_ropes v (d + 0) l0) rfl rfl rfl rfl ml_X9_354 im_X9_ropes se_X9_X9_ropes in_X9 co_X9_ropes rfl rfl (fun x4 => ?_)
      refine rz_bipush 51 dX9_undo_49 rfl cb_12 ?_
      refine rz_icmp_ne 61 54 dX9_undo_51 rfl rfl ?_ ?_
      · refine rz_aload_n 62 0 dX9_undo_61 rfl rfl ?_
        refine rz_iload_n 63 1 dX9_undo_62 rfl rfl ?_
        refine rz_callV 66 dX9_undo_63 rfl (tX9_isFree v (d + 2) l0 l1) rfl rfl rfl rfl ml_X9_443 im_X9_isFree se_X9_X9_isFree in_X9 co_X9_isFree rfl rfl (fun x5 => ?_)
        refine rz_if_ne 76 69 dX9_undo_66 rfl rfl ?_ ?_
        · refine rz_iconst 77 dX9_undo_76 rfl ci_0 ?_
          refine rz_istore_n (lv' := [(3, vI (0 : Int32)), (0, vR l0), (1, vI l1), (2, vI l2)]) 78 dX9_undo_77 rfl rfl rfl ?_
          refine rz_iconst 79 dX9_undo_78 rfl ci_0 ?_
          refine rz_istore (lv' := [(4, vI (0 : Int32)), (3, vI (0 : Int32)), (0, vR l0), (1, vI l1), (2, vI l2)]) 81 dX9_undo_79 rfl rfl rfl ?_
          exact rz_sub [2, 3, 4, 1, 0] rfl (rX9_undo_81 v d fu l0 l1 l2 (0 : Int32) (0 : Int32))
        · refine rz_aload_n 70 0 dX9_undo_69 rfl rfl ?_
          refine rz_bipush 72 dX9_undo_70 rfl cb_9 ?_
          refine rz_callV 75 dX9_undo_72 rfl (tX9_refuse v (d + 2) l0 (9 : Int32)) rfl rfl rfl rfl ml_X9_357 im_X9_refuse se_X9_X9_refuse in_X9 co_X9_refuse rfl rfl (fun x6 => ?_)
          exact rz_ireturn rfl rfl dX9_undo_75
      · refine rz_aload_n 55 0 dX9_undo_54 rfl rfl ?_
        refine rz_bipush 57 dX9_undo_55 rfl cb_7 ?_
        refine rz_callV 60 dX9_undo_57 rfl (tX9_refuse v (d + 2) l0 (7 : Int32)) rfl rfl rfl rfl ml_X9_357 im_X9_refuse se_X9_X9_refuse in_X9 co_X9_refuse rfl rfl (fun x7 => ?_)
        exact rz_ireturn rfl rfl dX9_undo_60
    · refine rz_aload_n 40 0 dX9_undo_39 rfl rfl ?_
      refine rz_iconst 41 dX9_undo_40 rfl ci_5 ?_
      refine rz_callV 44 dX9_undo_41 rfl (tX9_refuse v (d + 2) l0 (5 : Int32)) rfl rfl rfl rfl ml_X9_357 im_X9_refuse se_X9_X9_refuse in_X9 co_X9_refuse rfl rfl (fun x8 => ?_)
      exact rz_ireturn rfl rfl dX9_undo_44
  · refine rz_aload_n 19 0 dX9_undo_18 rfl rfl ?_
    refine rz_iconst 20 dX9_undo_19 rfl ci_2 ?_
    refine rz_callV 23 dX9_undo_20 rfl (tX9_refuse v (d + 2) l0 (2 : Int32)) rfl rfl rfl rfl ml_X9_357 im_X9_refuse se_X9_X9_refuse in_X9 co_X9_refuse rfl rfl (fun x9 => ?_)
    exact rz_ireturn rfl rfl dX9_undo_23
theorem tX9_undo (v : mE) (d : Nat) (l0 : Nat) (l1 : Int32) (l2 : Int32) : Mt v yX9_undo cX9_undo 5 (some .int) emI (d + 3) [vR l0, vI l1, vI l2] (fX9_undo l0 l1 l2) := mt_of rfl rfl (fun h => by cases h) rfl rfl (rX9_undo v d l0 l1 l2)
theorem dX9_cut__0 : decode cX9_cut_ 0 = .ok (.aload_n 0, 1) := by decide +kernel
theorem dX9_cut__1 : decode cX9_cut_ 1 = .ok (.iconst 0, 1) := by decide +kernel
theorem dX9_cut__2 : decode cX9_cut_ 2 = .ok (.putfield 62, 3) := by decide +kernel
theorem dX9_cut__5 : decode cX9_cut_ 5 = .ok (.aload_n 0, 1) := by decide +kernel
theorem dX9_cut__6 : decode cX9_cut_ 6 = .ok (.iconst 0, 1) := by decide +kernel
theorem dX9_cut__7 : decode cX9_cut_ 7 = .ok (.putfield 65, 3) := by decide +kernel
theorem dX9_cut__10 : decode cX9_cut_ 10 = .ok (.aload_n 0, 1) := by decide +kernel
theorem dX9_cut__11 : decode cX9_cut_ 11 = .ok (.iload_n 1, 1) := by decide +kernel
theorem dX9_cut__12 : decode cX9_cut_ 12 = .ok (.invokevirtual 318, 3) := by decide +kernel
theorem dX9_cut__15 : decode cX9_cut_ 15 = .ok (.ifCond .ne 9, 3) := by decide +kernel
theorem dX9_cut__18 : decode cX9_cut_ 18 = .ok (.aload_n 0, 1) := by decide +kernel
theorem dX9_cut__19 : decode cX9_cut_ 19 = .ok (.iconst 2, 1) := by decide +kernel
theorem dX9_cut__20 : decode cX9_cut_ 20 = .ok (.invokevirtual 357, 3) := by decide +kernel
theorem dX9_cut__23 : decode cX9_cut_ 23 = .ok (.ireturn, 1) := by decide +kernel
theorem dX9_cut__24 : decode cX9_cut_ 24 = .ok (.iload_n 2, 1) := by decide +kernel
theorem dX9_cut__25 : decode cX9_cut_ 25 = .ok (.i2l, 1) := by decide +kernel
theorem dX9_cut__26 : decode cX9_cut_ 26 = .ok (.lconst 1, 1) := by decide +kernel
theorem dX9_cut__27 : decode cX9_cut_ 27 = .ok (.aload_n 0, 1) := by decide +kernel
theorem dX9_cut__28 : decode cX9_cut_ 28 = .ok (.iload_n 1, 1) := by decide +kernel
theorem dX9_cut__29 : decode cX9_cut_ 29 = .ok (.invokevirtual 327, 3) := by decide +kernel
theorem dX9_cut__32 : decode cX9_cut_ 32 = .ok (.iconst 1, 1) := by decide +kernel
theorem dX9_cut__33 : decode cX9_cut_ 33 = .ok (.isub, 1) := by decide +kernel
theorem dX9_cut__34 : decode cX9_cut_ 34 = .ok (.i2l, 1) := by decide +kernel
theorem dX9_cut__35 : decode cX9_cut_ 35 = .ok (.invokestatic 97, 3) := by decide +kernel
theorem dX9_cut__38 : decode cX9_cut_ 38 = .ok (.ifCond .ne 9, 3) := by decide +kernel
theorem dX9_cut__41 : decode cX9_cut_ 41 = .ok (.aload_n 0, 1) := by decide +kernel
theorem dX9_cut__42 : decode cX9_cut_ 42 = .ok (.iconst 5, 1) := by decide +kernel
theorem dX9_cut__43 : decode cX9_cut_ 43 = .ok (.invokevirtual 357, 3) := by decide +kernel
theorem dX9_cut__46 : decode cX9_cut_ 46 = .ok (.ireturn, 1) := by decide +kernel
theorem dX9_cut__47 : decode cX9_cut_ 47 = .ok (.aload_n 0, 1) := by decide +kernel
theorem dX9_cut__48 : decode cX9_cut_ 48 = .ok (.invokevirtual 354, 3) := by decide +kernel
theorem dX9_cut__51 : decode cX9_cut_ 51 = .ok (.bipush 12, 2) := by decide +kernel
theorem dX9_cut__53 : decode cX9_cut_ 53 = .ok (.if_icmp .ne 10, 3) := by decide +kernel
theorem dX9_cut__56 : decode cX9_cut_ 56 = .ok (.aload_n 0, 1) := by decide +kernel
theorem dX9_cut__57 : decode cX9_cut_ 57 = .ok (.bipush 7, 2) := by decide +kernel
theorem dX9_cut__59 : decode cX9_cut_ 59 = .ok (.invokevirtual 357, 3) := by decide +kernel
theorem dX9_cut__62 : decode cX9_cut_ 62 = .ok (.ireturn, 1) := by decide +kernel
theorem dX9_cut__63 : decode cX9_cut_ 63 = .ok (.aload_n 0, 1) := by decide +kernel
theorem dX9_cut__64 : decode cX9_cut_ 64 = .ok (.iload_n 1, 1) := by decide +kernel
theorem dX9_cut__65 : decode cX9_cut_ 65 = .ok (.invokevirtual 443, 3) := by decide +kernel
theorem dX9_cut__68 : decode cX9_cut_ 68 = .ok (.ifCond .ne 10, 3) := by decide +kernel
theorem dX9_cut__71 : decode cX9_cut_ 71 = .ok (.aload_n 0, 1) := by decide +kernel
theorem dX9_cut__72 : decode cX9_cut_ 72 = .ok (.bipush 9, 2) := by decide +kernel
theorem dX9_cut__74 : decode cX9_cut_ 74 = .ok (.invokevirtual 357, 3) := by decide +kernel
theorem dX9_cut__77 : decode cX9_cut_ 77 = .ok (.ireturn, 1) := by decide +kernel
theorem dX9_cut__78 : decode cX9_cut_ 78 = .ok (.aload_n 0, 1) := by decide +kernel
theorem dX9_cut__79 : decode cX9_cut_ 79 = .ok (.iload_n 1, 1) := by decide +kernel
theorem dX9_cut__80 : decode cX9_cut_ 80 = .ok (.aload_n 0, 1) := by decide +kernel
theorem dX9_cut__81 : decode cX9_cut_ 81 = .ok (.iload_n 1, 1) := by decide +kernel
theorem dX9_cut__82 : decode cX9_cut_ 82 = .ok (.invokevirtual 327, 3) := by decide +kernel
theorem dX9_cut__85 : decode cX9_cut_ 85 = .ok (.iload_n 2, 1) := by decide +kernel
theorem dX9_cut__86 : decode cX9_cut_ 86 = .ok (.isub, 1) := by decide +kernel
theorem dX9_cut__87 : decode cX9_cut_ 87 = .ok (.invokevirtual 393, 3) := by decide +kernel
theorem dX9_cut__90 : decode cX9_cut_ 90 = .ok (.ireturn, 1) := by decide +kernel
def fX9_cut_ (l0 : Nat) (l1 : Int32) (l2 : Int32) : mM Int32 := bPI 9 l0 1 (0 : Int32) (bPI 9 l0 0 (0 : Int32) (bCallV 9 l0 (fX9_isRope l0 l1) (fun x1 => bIf (x1 = 0) (bCallV 9 l0 (fX9_refuse l0 (2 : Int32)) (fun x11 => bRet x11)) (bCallV 9 l0 (fX9_yardsOfRope l0 l1) (fun x2 => bCall (fX9_isIn (Int32.toInt64 l2) (1 : Int64) (Int32.toInt64 (x2 - (1 : Int32)))) (fun x3 => bIf (x3 = 0) (bCallV 9 l0 (fX9_refuse l0 (5 : Int32)) (fun x10 => bRet x10)) (bCallV 9 l0 (fX9_ropes l0) (fun x4 => bIf (x4 = (12 : Int32)) (bCallV 9 l0 (fX9_refuse l0 (7 : Int32)) (fun x9 => bRet x9)) (bCallV 9 l0 (fX9_isFree l0 l1) (fun x5 => bIf (x5 = 0) (bCallV 9 l0 (fX9_refuse l0 (9 : Int32)) (fun x8 => bRet x8)) (bCallV 9 l0 (fX9_yardsOfRope l0 l1) (fun x6 => bCallV 9 l0 (fX9_partFrom l0 l1 (x6 - l2)) (fun x7 => bRet x7)))))))))))))
set_option maxRecDepth 20000 in
theorem rX9_cut_ (v : mE) (d : Nat) (l0 : Nat) (l1 : Int32) (l2 : Int32) : Rz v RX9 cX9_cut_ 3 (some .int) false emI (d + 3) 0 [(0, vR l0), (1, vI l1), (2, vI l2)] [] (fX9_cut_ l0 l1 l2) := by
  unfold fX9_cut_
  refine rz_aload_n 1 0 dX9_cut__0 rfl rfl ?_
  refine rz_iconst 2 dX9_cut__1 rfl ci_0 ?_
  refine rz_pI 5 dX9_cut__2 rfl rfl rfl rfl fl_X9_62 ?_
  refine rz_aload_n 6 0 dX9_cut__5 rfl rfl ?_
  refine rz_iconst 7 dX9_cut__6 rfl ci_0 ?_
  refine rz_pI 10 dX9_cut__7 rfl rfl rfl rfl fl_X9_65 ?_
  refine rz_aload_n 11 0 dX9_cut__10 rfl rfl ?_
  refine rz_iload_n 12 1 dX9_cut__11 rfl rfl ?_
  refine rz_callV 15 dX9_cut__12 rfl (tX9_isRope v (d + 1) l0 l1) rfl rfl rfl rfl ml_X9_318 im_X9_isRope se_X9_X9_isRope in_X9 co_X9_isRope rfl rfl (fun x1 => ?_)
  refine rz_if_ne 24 18 dX9_cut__15 rfl rfl ?_ ?_
  · refine rz_iload_n 25 2 dX9_cut__24 rfl rfl ?_
    refine rz_i2l 26 dX9_cut__25 rfl ?_
    refine rz_lconst 27 dX9_cut__26 rfl cl_1 ?_
    refine rz_aload_n 28 0 dX9_cut__27 rfl rfl ?_
    refine rz_iload_n 29 1 dX9_cut__28 rfl rfl ?_
    refine rz_callV 32 dX9_cut__29 rfl (tX9_yardsOfRope v (d + 2) l0 l1) rfl rfl rfl rfl ml_X9_327 im_X9_yardsOfRope se_X9_X9_yardsOfRope in_X9 co_X9_yardsOfRope rfl rfl (fun x2 => ?_)
    refine rz_iconst 33 dX9_cut__32 rfl ci_1 ?_
    refine rz_isub 34 dX9_cut__33 rfl ?_
    refine rz_i2l 35 dX9_cut__34 rfl ?_
    refine rz_callS 38 dX9_cut__35 rfl (tX9_isIn v (d + 2) (Int32.toInt64 l2) (1 : Int64) (Int32.toInt64 (x2 - (1 : Int32)))) rfl rfl ml_X9_97 sm_X9_isIn in_X9 co_X9_isIn rfl rfl (fun x3 => ?_)
    refine rz_if_ne 47 41 dX9_cut__38 rfl rfl ?_ ?_
    · refine rz_aload_n 48 0 dX9_cut__47 rfl rfl ?_
      refine rz_callV 51 dX9_cut__48 rfl (tX9_ropes v (d + 0) l0) rfl rfl rfl rfl ml_X9_354 im_X9_ropes se_X9_X9_ropes in_X9 co_X9_ropes rfl rfl (fun x4 => ?_)
      refine rz_bipush 53 dX9_cut__51 rfl cb_12 ?_
      refine rz_icmp_ne 63 56 dX9_cut__53 rfl rfl ?_ ?_
      · refine rz_aload_n 64 0 dX9_cut__63 rfl rfl ?_
        refine rz_iload_n 65 1 dX9_cut__64 rfl rfl ?_
        refine rz_callV 68 dX9_cut__65 rfl (tX9_isFree v (d + 2) l0 l1) rfl rfl rfl rfl ml_X9_443 im_X9_isFree se_X9_X9_isFree in_X9 co_X9_isFree rfl rfl (fun x5 => ?_)
        refine rz_if_ne 78 71 dX9_cut__68 rfl rfl ?_ ?_
        · refine rz_aload_n 79 0 dX9_cut__78 rfl rfl ?_
          refine rz_iload_n 80 1 dX9_cut__79 rfl rfl ?_
          refine rz_aload_n 81 0 dX9_cut__80 rfl rfl ?_
          refine rz_iload_n 82 1 dX9_cut__81 rfl rfl ?_
          refine rz_callV 85 dX9_cut__82 rfl (tX9_yardsOfRope v (d + 2) l0 l1) rfl rfl rfl rfl ml_X9_327 im_X9_yardsOfRope se_X9_X9_yardsOfRope in_X9 co_X9_yardsOfRope rfl rfl (fun x6 => ?_)
          refine rz_iload_n 86 2 dX9_cut__85 rfl rfl ?_
          refine rz_isub 87 dX9_cut__86 rfl ?_
          refine rz_callV 90 dX9_cut__87 rfl (tX9_partFrom v (d + 1) l0 l1 (x6 - l2)) rfl rfl rfl rfl ml_X9_393 im_X9_partFrom se_X9_X9_partFrom in_X9 co_X9_partFrom rfl rfl (fun x7 => ?_)
          exact rz_ireturn rfl rfl dX9_cut__90
        · refine rz_aload_n 72 0 dX9_cut__71 rfl rfl ?_
          refine rz_bipush 74 dX9_cut__72 rfl cb_9 ?_
          refine rz_callV 77 dX9_cut__74 rfl (tX9_refuse v (d + 2) l0 (9 : Int32)) rfl rfl rfl rfl ml_X9_357 im_X9_refuse se_X9_X9_refuse in_X9 co_X9_refuse rfl rfl (fun x8 => ?_)
          exact rz_ireturn rfl rfl dX9_cut__77
      · refine rz_aload_n 57 0 dX9_cut__56 rfl rfl ?_
        refine rz_bipush 59 dX9_cut__57 rfl cb_7 ?_
        refine rz_callV 62 dX9_cut__59 rfl (tX9_refuse v (d + 2) l0 (7 : Int32)) rfl rfl rfl rfl ml_X9_357 im_X9_refuse se_X9_X9_refuse in_X9 co_X9_refuse rfl rfl (fun x9 => ?_)
        exact rz_ireturn rfl rfl dX9_cut__62
    · refine rz_aload_n 42 0 dX9_cut__41 rfl rfl ?_
      refine rz_iconst 43 dX9_cut__42 rfl ci_5 ?_
      refine rz_callV 46 dX9_cut__43 rfl (tX9_refuse v (d + 2) l0 (5 : Int32)) rfl rfl rfl rfl ml_X9_357 im_X9_refuse se_X9_X9_refuse in_X9 co_X9_refuse rfl rfl (fun x10 => ?_)
      exact rz_ireturn rfl rfl dX9_cut__46
  · refine rz_aload_n 19 0 dX9_cut__18 rfl rfl ?_
    refine rz_iconst 20 dX9_cut__19 rfl ci_2 ?_
    refine rz_callV 23 dX9_cut__20 rfl (tX9_refuse v (d + 2) l0 (2 : Int32)) rfl rfl rfl rfl ml_X9_357 im_X9_refuse se_X9_X9_refuse in_X9 co_X9_refuse rfl rfl (fun x11 => ?_)
    exact rz_ireturn rfl rfl dX9_cut__23
theorem tX9_cut_ (v : mE) (d : Nat) (l0 : Nat) (l1 : Int32) (l2 : Int32) : Mt v yX9_cut_ cX9_cut_ 3 (some .int) emI (d + 3) [vR l0, vI l1, vI l2] (fX9_cut_ l0 l1 l2) := mt_of rfl rfl (fun h => by cases h) rfl rfl (rX9_cut_ v d l0 l1 l2)
theorem dX9_sell_0 : decode cX9_sell 0 = .ok (.aload_n 0, 1) := by decide +kernel
theorem dX9_sell_1 : decode cX9_sell 1 = .ok (.iconst 0, 1) := by decide +kernel
theorem dX9_sell_2 : decode cX9_sell 2 = .ok (.putfield 62, 3) := by decide +kernel
theorem dX9_sell_5 : decode cX9_sell 5 = .ok (.aload_n 0, 1) := by decide +kernel
theorem dX9_sell_6 : decode cX9_sell 6 = .ok (.iconst 0, 1) := by decide +kernel
theorem dX9_sell_7 : decode cX9_sell 7 = .ok (.putfield 65, 3) := by decide +kernel
theorem dX9_sell_10 : decode cX9_sell 10 = .ok (.aload_n 0, 1) := by decide +kernel
theorem dX9_sell_11 : decode cX9_sell 11 = .ok (.iload_n 1, 1) := by decide +kernel
theorem dX9_sell_12 : decode cX9_sell 12 = .ok (.invokevirtual 318, 3) := by decide +kernel
theorem dX9_sell_15 : decode cX9_sell 15 = .ok (.ifCond .eq 11, 3) := by decide +kernel
theorem dX9_sell_18 : decode cX9_sell 18 = .ok (.aload_n 0, 1) := by decide +kernel
theorem dX9_sell_19 : decode cX9_sell 19 = .ok (.iload_n 3, 1) := by decide +kernel
theorem dX9_sell_20 : decode cX9_sell 20 = .ok (.invokevirtual 360, 3) := by decide +kernel
theorem dX9_sell_23 : decode cX9_sell 23 = .ok (.ifCond .ne 9, 3) := by decide +kernel
theorem dX9_sell_26 : decode cX9_sell 26 = .ok (.aload_n 0, 1) := by decide +kernel
theorem dX9_sell_27 : decode cX9_sell 27 = .ok (.iconst 2, 1) := by decide +kernel
theorem dX9_sell_28 : decode cX9_sell 28 = .ok (.invokevirtual 357, 3) := by decide +kernel
theorem dX9_sell_31 : decode cX9_sell 31 = .ok (.ireturn, 1) := by decide +kernel
theorem dX9_sell_32 : decode cX9_sell 32 = .ok (.aload_n 0, 1) := by decide +kernel
theorem dX9_sell_33 : decode cX9_sell 33 = .ok (.iload_n 1, 1) := by decide +kernel
theorem dX9_sell_34 : decode cX9_sell 34 = .ok (.invokevirtual 327, 3) := by decide +kernel
theorem dX9_sell_37 : decode cX9_sell 37 = .ok (.istore 4, 2) := by decide +kernel
theorem dX9_sell_39 : decode cX9_sell 39 = .ok (.iload_n 2, 1) := by decide +kernel
theorem dX9_sell_40 : decode cX9_sell 40 = .ok (.i2l, 1) := by decide +kernel
theorem dX9_sell_41 : decode cX9_sell 41 = .ok (.lconst 1, 1) := by decide +kernel
theorem dX9_sell_42 : decode cX9_sell 42 = .ok (.iload 4, 2) := by decide +kernel
theorem dX9_sell_44 : decode cX9_sell 44 = .ok (.i2l, 1) := by decide +kernel
theorem dX9_sell_45 : decode cX9_sell 45 = .ok (.invokestatic 97, 3) := by decide +kernel
theorem dX9_sell_48 : decode cX9_sell 48 = .ok (.ifCond .ne 9, 3) := by decide +kernel
theorem dX9_sell_51 : decode cX9_sell 51 = .ok (.aload_n 0, 1) := by decide +kernel
theorem dX9_sell_52 : decode cX9_sell 52 = .ok (.iconst 5, 1) := by decide +kernel
theorem dX9_sell_53 : decode cX9_sell 53 = .ok (.invokevirtual 357, 3) := by decide +kernel
theorem dX9_sell_56 : decode cX9_sell 56 = .ok (.ireturn, 1) := by decide +kernel
theorem dX9_sell_57 : decode cX9_sell 57 = .ok (.iload_n 2, 1) := by decide +kernel
theorem dX9_sell_58 : decode cX9_sell 58 = .ok (.iload 4, 2) := by decide +kernel
theorem dX9_sell_60 : decode cX9_sell 60 = .ok (.if_icmp .ge 19, 3) := by decide +kernel
theorem dX9_sell_63 : decode cX9_sell 63 = .ok (.aload_n 0, 1) := by decide +kernel
theorem dX9_sell_64 : decode cX9_sell 64 = .ok (.invokevirtual 354, 3) := by decide +kernel
theorem dX9_sell_67 : decode cX9_sell 67 = .ok (.bipush 12, 2) := by decide +kernel
theorem dX9_sell_69 : decode cX9_sell 69 = .ok (.if_icmp .ne 10, 3) := by decide +kernel
theorem dX9_sell_72 : decode cX9_sell 72 = .ok (.aload_n 0, 1) := by decide +kernel
theorem dX9_sell_73 : decode cX9_sell 73 = .ok (.bipush 7, 2) := by decide +kernel
theorem dX9_sell_75 : decode cX9_sell 75 = .ok (.invokevirtual 357, 3) := by decide +kernel
theorem dX9_sell_78 : decode cX9_sell 78 = .ok (.ireturn, 1) := by decide +kernel
theorem dX9_sell_79 : decode cX9_sell 79 = .ok (.aload_n 0, 1) := by decide +kernel
theorem dX9_sell_80 : decode cX9_sell 80 = .ok (.iload_n 1, 1) := by decide +kernel
theorem dX9_sell_81 : decode cX9_sell 81 = .ok (.invokevirtual 443, 3) := by decide +kernel
theorem dX9_sell_84 : decode cX9_sell 84 = .ok (.ifCond .eq 24, 3) := by decide +kernel
theorem dX9_sell_87 : decode cX9_sell 87 = .ok (.aload_n 0, 1) := by decide +kernel
theorem dX9_sell_88 : decode cX9_sell 88 = .ok (.iload_n 3, 1) := by decide +kernel
theorem dX9_sell_89 : decode cX9_sell 89 = .ok (.invokevirtual 342, 3) := by decide +kernel
theorem dX9_sell_92 : decode cX9_sell 92 = .ok (.ifCond .eq 16, 3) := by decide +kernel
theorem dX9_sell_95 : decode cX9_sell 95 = .ok (.aload_n 0, 1) := by decide +kernel
theorem dX9_sell_96 : decode cX9_sell 96 = .ok (.getfield 35, 3) := by decide +kernel
theorem dX9_sell_99 : decode cX9_sell 99 = .ok (.bipush 37, 2) := by decide +kernel
theorem dX9_sell_101 : decode cX9_sell 101 = .ok (.iload_n 1, 1) := by decide +kernel
theorem dX9_sell_102 : decode cX9_sell 102 = .ok (.iadd, 1) := by decide +kernel
theorem dX9_sell_103 : decode cX9_sell 103 = .ok (.iaload, 1) := by decide +kernel
theorem dX9_sell_104 : decode cX9_sell 104 = .ok (.iload_n 3, 1) := by decide +kernel
theorem dX9_sell_105 : decode cX9_sell 105 = .ok (.if_icmp .ne 10, 3) := by decide +kernel
theorem dX9_sell_108 : decode cX9_sell 108 = .ok (.aload_n 0, 1) := by decide +kernel
theorem dX9_sell_109 : decode cX9_sell 109 = .ok (.bipush 9, 2) := by decide +kernel
theorem dX9_sell_111 : decode cX9_sell 111 = .ok (.invokevirtual 357, 3) := by decide +kernel
theorem dX9_sell_114 : decode cX9_sell 114 = .ok (.ireturn, 1) := by decide +kernel
theorem dX9_sell_115 : decode cX9_sell 115 = .ok (.iconst 0, 1) := by decide +kernel
theorem dX9_sell_116 : decode cX9_sell 116 = .ok (.istore 5, 2) := by decide +kernel
theorem dX9_sell_118 : decode cX9_sell 118 = .ok (.iconst 0, 1) := by decide +kernel
theorem dX9_sell_119 : decode cX9_sell 119 = .ok (.istore 6, 2) := by decide +kernel
theorem dX9_sell_121 : decode cX9_sell 121 = .ok (.iload 6, 2) := by decide +kernel
theorem dX9_sell_123 : decode cX9_sell 123 = .ok (.aload_n 0, 1) := by decide +kernel
theorem dX9_sell_124 : decode cX9_sell 124 = .ok (.getfield 35, 3) := by decide +kernel
theorem dX9_sell_127 : decode cX9_sell 127 = .ok (.bipush 7, 2) := by decide +kernel
theorem dX9_sell_129 : decode cX9_sell 129 = .ok (.iaload, 1) := by decide +kernel
theorem dX9_sell_130 : decode cX9_sell 130 = .ok (.if_icmp .ge 37, 3) := by decide +kernel
theorem dX9_sell_133 : decode cX9_sell 133 = .ok (.iload 5, 2) := by decide +kernel
theorem dX9_sell_135 : decode cX9_sell 135 = .ok (.aload_n 0, 1) := by decide +kernel
theorem dX9_sell_136 : decode cX9_sell 136 = .ok (.iload 6, 2) := by decide +kernel
theorem dX9_sell_138 : decode cX9_sell 138 = .ok (.invokevirtual 342, 3) := by decide +kernel
theorem dX9_sell_141 : decode cX9_sell 141 = .ok (.ifCond .eq 16, 3) := by decide +kernel
theorem dX9_sell_144 : decode cX9_sell 144 = .ok (.aload_n 0, 1) := by decide +kernel
theorem dX9_sell_145 : decode cX9_sell 145 = .ok (.iload 6, 2) := by decide +kernel
theorem dX9_sell_147 : decode cX9_sell 147 = .ok (.invokevirtual 351, 3) := by decide +kernel
theorem dX9_sell_150 : decode cX9_sell 150 = .ok (.ifCond .ne 7, 3) := by decide +kernel
theorem dX9_sell_153 : decode cX9_sell 153 = .ok (.iconst 1, 1) := by decide +kernel
theorem dX9_sell_154 : decode cX9_sell 154 = .ok (.goto 4, 3) := by decide +kernel
theorem dX9_sell_157 : decode cX9_sell 157 = .ok (.iconst 0, 1) := by decide +kernel
theorem dX9_sell_158 : decode cX9_sell 158 = .ok (.iadd, 1) := by decide +kernel
theorem dX9_sell_159 : decode cX9_sell 159 = .ok (.istore 5, 2) := by decide +kernel
theorem dX9_sell_161 : decode cX9_sell 161 = .ok (.iinc 6 1, 3) := by decide +kernel
theorem dX9_sell_164 : decode cX9_sell 164 = .ok (.goto (-43), 3) := by decide +kernel
theorem dX9_sell_167 : decode cX9_sell 167 = .ok (.iload_n 2, 1) := by decide +kernel
theorem dX9_sell_168 : decode cX9_sell 168 = .ok (.iload 4, 2) := by decide +kernel
theorem dX9_sell_170 : decode cX9_sell 170 = .ok (.if_icmp .ne 7, 3) := by decide +kernel
theorem dX9_sell_173 : decode cX9_sell 173 = .ok (.iload_n 1, 1) := by decide +kernel
theorem dX9_sell_174 : decode cX9_sell 174 = .ok (.goto 12, 3) := by decide +kernel
theorem dX9_sell_177 : decode cX9_sell 177 = .ok (.aload_n 0, 1) := by decide +kernel
theorem dX9_sell_178 : decode cX9_sell 178 = .ok (.iload_n 1, 1) := by decide +kernel
theorem dX9_sell_179 : decode cX9_sell 179 = .ok (.iload 4, 2) := by decide +kernel
theorem dX9_sell_181 : decode cX9_sell 181 = .ok (.iload_n 2, 1) := by decide +kernel
theorem dX9_sell_182 : decode cX9_sell 182 = .ok (.isub, 1) := by decide +kernel
theorem dX9_sell_183 : decode cX9_sell 183 = .ok (.invokevirtual 393, 3) := by decide +kernel
theorem dX9_sell_186 : decode cX9_sell 186 = .ok (.istore 6, 2) := by decide +kernel
theorem dX9_sell_188 : decode cX9_sell 188 = .ok (.aload_n 0, 1) := by decide +kernel
theorem dX9_sell_189 : decode cX9_sell 189 = .ok (.getfield 35, 3) := by decide +kernel
theorem dX9_sell_192 : decode cX9_sell 192 = .ok (.bipush 37, 2) := by decide +kernel
theorem dX9_sell_194 : decode cX9_sell 194 = .ok (.iload 6, 2) := by decide +kernel
theorem dX9_sell_196 : decode cX9_sell 196 = .ok (.iadd, 1) := by decide +kernel
theorem dX9_sell_197 : decode cX9_sell 197 = .ok (.iload_n 3, 1) := by decide +kernel
theorem dX9_sell_198 : decode cX9_sell 198 = .ok (.iastore, 1) := by decide +kernel
theorem dX9_sell_199 : decode cX9_sell 199 = .ok (.iload_n 2, 1) := by decide +kernel
theorem dX9_sell_200 : decode cX9_sell 200 = .ok (.iconst 1, 1) := by decide +kernel
theorem dX9_sell_201 : decode cX9_sell 201 = .ok (.iload 5, 2) := by decide +kernel
theorem dX9_sell_203 : decode cX9_sell 203 = .ok (.iadd, 1) := by decide +kernel
theorem dX9_sell_204 : decode cX9_sell 204 = .ok (.imul, 1) := by decide +kernel
theorem dX9_sell_205 : decode cX9_sell 205 = .ok (.ireturn, 1) := by decide +kernel
def fX9_sell_186 (l0 : Nat) (l2 : Int32) (l3 : Int32) (l5 : Int32) (s0 : Int32) : mM Int32 := bGR 9 l0 24 (fun x1 => bSI x1 ((37 : Int32) + s0) l3 (bRet (l2 * ((1 : Int32) + l5))))
set_option maxRecDepth 20000 in
theorem rX9_sell_186 (v : mE) (d : Nat) (l0 : Nat) (l2 : Int32) (l3 : Int32) (l5 : Int32) (s0 : Int32) : Rz v RX9 cX9_sell 7 (some .int) false emI (d + 4) 186 [(0, vR l0), (2, vI l2), (3, vI l3), (5, vI l5)] [vI s0] (fX9_sell_186 l0 l2 l3 l5 s0) := by
  unfold fX9_sell_186
  refine rz_istore (lv' := [(6, vI s0), (0, vR l0), (2, vI l2), (3, vI l3), (5, vI l5)]) 188 dX9_sell_186 rfl rfl rfl ?_
  refine rz_aload_n 189 1 dX9_sell_188 rfl rfl ?_
  refine rz_gR 192 dX9_sell_189 rfl rfl fl_X9_35 (fun x1 => ?_)
  refine rz_bipush 194 dX9_sell_192 rfl cb_37 ?_
  refine rz_iload 196 0 dX9_sell_194 rfl rfl ?_
  refine rz_iadd 197 dX9_sell_196 rfl ?_
  refine rz_iload_n 198 3 dX9_sell_197 rfl rfl ?_
  refine rz_iast 199 dX9_sell_198 rfl ?_
  refine rz_iload_n 200 2 dX9_sell_199 rfl rfl ?_
  refine rz_iconst 201 dX9_sell_200 rfl ci_1 ?_
  refine rz_iload 203 4 dX9_sell_201 rfl rfl ?_
  refine rz_iadd 204 dX9_sell_203 rfl ?_
  refine rz_imul 205 dX9_sell_204 rfl ?_
  exact rz_ireturn rfl rfl dX9_sell_205
def fX9_sell_167 (l0 : Nat) (l1 : Int32) (l2 : Int32) (l3 : Int32) (l4 : Int32) (l5 : Int32) : mM Int32 := bIf (l2 = l4) (fX9_sell_186 l0 l2 l3 l5 l1) (bCallV 9 l0 (fX9_partFrom l0 l1 (l4 - l2)) (fun x1 => fX9_sell_186 l0 l2 l3 l5 x1))
set_option maxRecDepth 20000 in
theorem rX9_sell_167 (v : mE) (d : Nat) (l0 : Nat) (l1 : Int32) (l2 : Int32) (l3 : Int32) (l4 : Int32) (l5 : Int32) : Rz v RX9 cX9_sell 7 (some .int) false emI (d + 4) 167 [(0, vR l0), (1, vI l1), (2, vI l2), (3, vI l3), (4, vI l4), (5, vI l5)] [] (fX9_sell_167 l0 l1 l2 l3 l4 l5) := by
  unfold fX9_sell_167
  refine rz_iload_n 168 2 dX9_sell_167 rfl rfl ?_
  refine rz_iload 170 4 dX9_sell_168 rfl rfl ?_
  refine rz_icmp_ne 177 173 dX9_sell_170 rfl rfl ?_ ?_
  · refine rz_aload_n 178 0 dX9_sell_177 rfl rfl ?_
    refine rz_iload_n 179 1 dX9_sell_178 rfl rfl ?_
    refine rz_iload 181 4 dX9_sell_179 rfl rfl ?_
    refine rz_iload_n 182 2 dX9_sell_181 rfl rfl ?_
    refine rz_isub 183 dX9_sell_182 rfl ?_
    refine rz_callV 186 dX9_sell_183 rfl (tX9_partFrom v (d + 2) l0 l1 (l4 - l2)) rfl rfl rfl rfl ml_X9_393 im_X9_partFrom se_X9_X9_partFrom in_X9 co_X9_partFrom rfl rfl (fun x1 => ?_)
    exact rz_sub [0, 2, 3, 5] rfl (rX9_sell_186 v d l0 l2 l3 l5 x1)
  · refine rz_iload_n 174 1 dX9_sell_173 rfl rfl ?_
    refine rz_goto 186 dX9_sell_174 rfl ?_
    exact rz_sub [0, 2, 3, 5] rfl (rX9_sell_186 v d l0 l2 l3 l5 l1)
def fX9_sell_158 (r121 : Nat → Int32 → Int32 → Int32 → Int32 → Int32 → Int32 → mM Int32) (l0 : Nat) (l1 : Int32) (l2 : Int32) (l3 : Int32) (l4 : Int32) (l6 : Int32) (s0 : Int32) (s1 : Int32) : mM Int32 := r121 l0 l1 l2 l3 l4 (s1 + s0) (l6 + 1)
set_option maxRecDepth 20000 in
theorem rX9_sell_158 (v : mE) (d : Nat) (r121 : Nat → Int32 → Int32 → Int32 → Int32 → Int32 → Int32 → mM Int32) (h121 : ∀ (y0 : Nat) (y1 : Int32) (y2 : Int32) (y3 : Int32) (y4 : Int32) (y5 : Int32) (y6 : Int32), Rz v RX9 cX9_sell 7 (some .int) false emI (d + 4) 121 [(0, vR y0), (1, vI y1), (2, vI y2), (3, vI y3), (4, vI y4), (5, vI y5), (6, vI y6)] [] (r121 y0 y1 y2 y3 y4 y5 y6)) (l0 : Nat) (l1 : Int32) (l2 : Int32) (l3 : Int32) (l4 : Int32) (l6 : Int32) (s0 : Int32) (s1 : Int32) : Rz v RX9 cX9_sell 7 (some .int) false emI (d + 4) 158 [(0, vR l0), (1, vI l1), (2, vI l2), (3, vI l3), (4, vI l4), (6, vI l6)] [vI s0, vI s1] (fX9_sell_158 r121 l0 l1 l2 l3 l4 l6 s0 s1) := by
  unfold fX9_sell_158
  refine rz_iadd 159 dX9_sell_158 rfl ?_
  refine rz_istore (lv' := [(5, vI (s1 + s0)), (0, vR l0), (1, vI l1), (2, vI l2), (3, vI l3), (4, vI l4), (6, vI l6)]) 161 dX9_sell_159 rfl rfl rfl ?_
  refine rz_iinc (lv' := [(6, vI (l6 + 1)), (5, vI (s1 + s0)), (0, vR l0), (1, vI l1), (2, vI l2), (3, vI l3), (4, vI l4)]) 164 6 dX9_sell_161 rfl rfl (cn_1 _) rfl rfl ?_
  refine rz_goto 121 dX9_sell_164 rfl ?_
  exact rz_sub [2, 3, 4, 5, 6, 1, 0] rfl (h121 l0 l1 l2 l3 l4 (s1 + s0) (l6 + 1))
def fX9_sell_157 (r121 : Nat → Int32 → Int32 → Int32 → Int32 → Int32 → Int32 → mM Int32) (l0 : Nat) (l1 : Int32) (l2 : Int32) (l3 : Int32) (l4 : Int32) (l6 : Int32) (s0 : Int32) : mM Int32 := fX9_sell_158 r121 l0 l1 l2 l3 l4 l6 (0 : Int32) s0
set_option maxRecDepth 20000 in
theorem rX9_sell_157 (v : mE) (d : Nat) (r121 : Nat → Int32 → Int32 → Int32 → Int32 → Int32 → Int32 → mM Int32) (h121 : ∀ (y0 : Nat) (y1 : Int32) (y2 : Int32) (y3 : Int32) (y4 : Int32) (y5 : Int32) (y6 : Int32), Rz v RX9 cX9_sell 7 (some .int) false emI (d + 4) 121 [(0, vR y0), (1, vI y1), (2, vI y2), (3, vI y3), (4, vI y4), (5, vI y5), (6, vI y6)] [] (r121 y0 y1 y2 y3 y4 y5 y6)) (l0 : Nat) (l1 : Int32) (l2 : Int32) (l3 : Int32) (l4 : Int32) (l6 : Int32) (s0 : Int32) : Rz v RX9 cX9_sell 7 (some .int) false emI (d + 4) 157 [(0, vR l0), (1, vI l1), (2, vI l2), (3, vI l3), (4, vI l4), (6, vI l6)] [vI s0] (fX9_sell_157 r121 l0 l1 l2 l3 l4 l6 s0) := by
  unfold fX9_sell_157
  refine rz_iconst 158 dX9_sell_157 rfl ci_0 ?_
  exact rz_sub [0, 1, 2, 3, 4, 5] rfl (rX9_sell_158 v d r121 h121 l0 l1 l2 l3 l4 l6 (0 : Int32) s0)
def fX9_sell_121 : Nat → Nat → Int32 → Int32 → Int32 → Int32 → Int32 → Int32 → mM Int32
  | 0 => fun _ _ _ _ _ _ _ => fun _ => none
  | n + 1 => fun l0 l1 l2 l3 l4 l5 l6 => let r121 := fX9_sell_121 n; bGR 9 l0 24 (fun x1 => bAI 11 x1 (7 : Int32) (fun x2 => bIf (x2 ≤ l6) (fX9_sell_167 l0 l1 l2 l3 l4 l5) (bCallV 9 l0 (fX9_isAlive l0 l6) (fun x3 => bIf (x3 = 0) (fX9_sell_157 r121 l0 l1 l2 l3 l4 l6 l5) (bCallV 9 l0 (fX9_isDrinking l0 l6) (fun x4 => bIf (x4 = 0) (fX9_sell_158 r121 l0 l1 l2 l3 l4 l6 (1 : Int32) l5) (fX9_sell_157 r121 l0 l1 l2 l3 l4 l6 l5)))))))
theorem qX9_sell_121  (n : Nat) (l0 : Nat) (l1 : Int32) (l2 : Int32) (l3 : Int32) (l4 : Int32) (l5 : Int32) (l6 : Int32) : fX9_sell_121 (n + 1) l0 l1 l2 l3 l4 l5 l6 = bGR 9 l0 24 (fun x1 => bAI 11 x1 (7 : Int32) (fun x2 => bIf (x2 ≤ l6) (fX9_sell_167 l0 l1 l2 l3 l4 l5) (bCallV 9 l0 (fX9_isAlive l0 l6) (fun x3 => bIf (x3 = 0) (fX9_sell_157 (fX9_sell_121 n) l0 l1 l2 l3 l4 l6 l5) (bCallV 9 l0 (fX9_isDrinking l0 l6) (fun x4 => bIf (x4 = 0) (fX9_sell_158 (fX9_sell_121 n) l0 l1 l2 l3 l4 l6 (1 : Int32) l5) (fX9_sell_157 (fX9_sell_121 n) l0 l1 l2 l3 l4 l6 l5))))))) := rfl
set_option maxRecDepth 20000 in
theorem rX9_sell_121 (v : mE) (d : Nat) : ∀ (n : Nat) (l0 : Nat) (l1 : Int32) (l2 : Int32) (l3 : Int32) (l4 : Int32) (l5 : Int32) (l6 : Int32), Rz v RX9 cX9_sell 7 (some .int) false emI (d + 4) 121 [(0, vR l0), (1, vI l1), (2, vI l2), (3, vI l3), (4, vI l4), (5, vI l5), (6, vI l6)] [] (fX9_sell_121 n l0 l1 l2 l3 l4 l5 l6)
  | 0, _, _, _, _, _, _, _ => fun _ _ _ hm => by cases hm
  | n + 1, l0, l1, l2, l3, l4, l5, l6 => by
    have h121 := rX9_sell_121 v d n
    unfold fX9_sell_121
    generalize fX9_sell_121 n = r121 at h121 ⊢
    refine rz_iload 123 6 dX9_sell_121 rfl rfl ?_
    refine rz_aload_n 124 0 dX9_sell_123 rfl rfl ?_
    refine rz_gR 127 dX9_sell_124 rfl rfl fl_X9_35 (fun x1 => ?_)
    refine rz_bipush 129 dX9_sell_127 rfl cb_7 ?_
    refine rz_iald 130 dX9_sell_129 rfl (fun x2 => ?_)
    refine rz_icmp_ge 167 133 dX9_sell_130 rfl rfl ?_ ?_
    · exact rz_sub [0, 1, 2, 3, 4, 5] rfl (rX9_sell_167 v d l0 l1 l2 l3 l4 l5)
    · refine rz_iload 135 5 dX9_sell_133 rfl rfl ?_
      refine rz_aload_n 136 0 dX9_sell_135 rfl rfl ?_
      refine rz_iload 138 6 dX9_sell_136 rfl rfl ?_
      refine rz_callV 141 dX9_sell_138 rfl (tX9_isAlive v (d + 3) l0 l6) rfl rfl rfl rfl ml_X9_342 im_X9_isAlive se_X9_X9_isAlive in_X9 co_X9_isAlive rfl rfl (fun x3 => ?_)
      refine rz_if_eq 157 144 dX9_sell_141 rfl rfl ?_ ?_
      · exact rz_sub [0, 1, 2, 3, 4, 6] rfl (rX9_sell_157 v d r121 h121 l0 l1 l2 l3 l4 l6 l5)
      · refine rz_aload_n 145 0 dX9_sell_144 rfl rfl ?_
        refine rz_iload 147 6 dX9_sell_145 rfl rfl ?_
        refine rz_callV 150 dX9_sell_147 rfl (tX9_isDrinking v (d + 0) l0 l6) rfl rfl rfl rfl ml_X9_351 im_X9_isDrinking se_X9_X9_isDrinking in_X9 co_X9_isDrinking rfl rfl (fun x4 => ?_)
        refine rz_if_ne 157 153 dX9_sell_150 rfl rfl ?_ ?_
        · exact rz_sub [0, 1, 2, 3, 4, 6] rfl (rX9_sell_157 v d r121 h121 l0 l1 l2 l3 l4 l6 l5)
        · refine rz_iconst 154 dX9_sell_153 rfl ci_1 ?_
          refine rz_goto 158 dX9_sell_154 rfl ?_
          exact rz_sub [0, 1, 2, 3, 4, 6] rfl (rX9_sell_158 v d r121 h121 l0 l1 l2 l3 l4 l6 (1 : Int32) l5)
def fX9_sell_108 (l0 : Nat) : mM Int32 := bCallV 9 l0 (fX9_refuse l0 (9 : Int32)) (fun x1 => bRet x1)
set_option maxRecDepth 20000 in
theorem rX9_sell_108 (v : mE) (d : Nat) (l0 : Nat) : Rz v RX9 cX9_sell 7 (some .int) false emI (d + 4) 108 [(0, vR l0)] [] (fX9_sell_108 l0) := by
  unfold fX9_sell_108
  refine rz_aload_n 109 0 dX9_sell_108 rfl rfl ?_
  refine rz_bipush 111 dX9_sell_109 rfl cb_9 ?_
  refine rz_callV 114 dX9_sell_111 rfl (tX9_refuse v (d + 3) l0 (9 : Int32)) rfl rfl rfl rfl ml_X9_357 im_X9_refuse se_X9_X9_refuse in_X9 co_X9_refuse rfl rfl (fun x1 => ?_)
  exact rz_ireturn rfl rfl dX9_sell_114
def fX9_sell_79 (l0 : Nat) (l1 : Int32) (l2 : Int32) (l3 : Int32) (l4 : Int32) : mM Int32 := bCallV 9 l0 (fX9_isFree l0 l1) (fun x1 => bIf (x1 = 0) (fX9_sell_108 l0) (bCallV 9 l0 (fX9_isAlive l0 l3) (fun x2 => bIf (x2 = 0) (fX9_sell_108 l0) (bGR 9 l0 24 (fun x3 => bAI 11 x3 ((37 : Int32) + l1) (fun x4 => bIf (x4 = l3) (fX9_sell_108 l0) (fX9_sell_121 fu l0 l1 l2 l3 l4 (0 : Int32) (0 : Int32))))))))
set_option maxRecDepth 20000 in
theorem rX9_sell_79 (v : mE) (d : Nat) (l0 : Nat) (l1 : Int32) (l2 : Int32) (l3 : Int32) (l4 : Int32) : Rz v RX9 cX9_sell 7 (some .int) false emI (d + 4) 79 [(0, vR l0), (1, vI l1), (2, vI l2), (3, vI l3), (4, vI l4)] [] (fX9_sell_79 l0 l1 l2 l3 l4) := by
  unfold fX9_sell_79
  refine rz_aload_n 80 0 dX9_sell_79 rfl rfl ?_
  refine rz_iload_n 81 1 dX9_sell_80 rfl rfl ?_
  refine rz_callV 84 dX9_sell_81 rfl (tX9_isFree v (d + 3) l0 l1) rfl rfl rfl rfl ml_X9_443 im_X9_isFree se_X9_X9_isFree in_X9 co_X9_isFree rfl rfl (fun x1 => ?_)
  refine rz_if_eq 108 87 dX9_sell_84 rfl rfl ?_ ?_
  · exact rz_sub [0] rfl (rX9_sell_108 v d l0)
  · refine rz_aload_n 88 0 dX9_sell_87 rfl rfl ?_
    refine rz_iload_n 89 3 dX9_sell_88 rfl rfl ?_
    refine rz_callV 92 dX9_sell_89 rfl (tX9_isAlive v (d + 3) l0 l3) rfl rfl rfl rfl ml_X9_342 im_X9_isAlive se_X9_X9_isAlive in_X9 co_X9_isAlive rfl rfl (fun x2 => ?_)
    refine rz_if_eq 108 95 dX9_sell_92 rfl rfl ?_ ?_
    · exact rz_sub [0] rfl (rX9_sell_108 v d l0)
    · refine rz_aload_n 96 0 dX9_sell_95 rfl rfl ?_
      refine rz_gR 99 dX9_sell_96 rfl rfl fl_X9_35 (fun x3 => ?_)
      refine rz_bipush 101 dX9_sell_99 rfl cb_37 ?_
      refine rz_iload_n 102 1 dX9_sell_101 rfl rfl ?_
      refine rz_iadd 103 dX9_sell_102 rfl ?_
      refine rz_iald 104 dX9_sell_103 rfl (fun x4 => ?_)
      refine rz_iload_n 105 3 dX9_sell_104 rfl rfl ?_
      refine rz_icmp_ne 115 108 dX9_sell_105 rfl rfl ?_ ?_
      · refine rz_iconst 116 dX9_sell_115 rfl ci_0 ?_
        refine rz_istore (lv' := [(5, vI (0 : Int32)), (0, vR l0), (1, vI l1), (2, vI l2), (3, vI l3), (4, vI l4)]) 118 dX9_sell_116 rfl rfl rfl ?_
        refine rz_iconst 119 dX9_sell_118 rfl ci_0 ?_
        refine rz_istore (lv' := [(6, vI (0 : Int32)), (5, vI (0 : Int32)), (0, vR l0), (1, vI l1), (2, vI l2), (3, vI l3), (4, vI l4)]) 121 dX9_sell_119 rfl rfl rfl ?_
        exact rz_sub [2, 3, 4, 5, 6, 1, 0] rfl (rX9_sell_121 v d fu l0 l1 l2 l3 l4 (0 : Int32) (0 : Int32))
      · exact rz_sub [0] rfl (rX9_sell_108 v d l0)
def fX9_sell_26 (l0 : Nat) : mM Int32 := bCallV 9 l0 (fX9_refuse l0 (2 : Int32)) (fun x1 => bRet x1)
set_option maxRecDepth 20000 in
theorem rX9_sell_26 (v : mE) (d : Nat) (l0 : Nat) : Rz v RX9 cX9_sell 7 (some .int) false emI (d + 4) 26 [(0, vR l0)] [] (fX9_sell_26 l0) := by
  unfold fX9_sell_26
  refine rz_aload_n 27 0 dX9_sell_26 rfl rfl ?_
  refine rz_iconst 28 dX9_sell_27 rfl ci_2 ?_
  refine rz_callV 31 dX9_sell_28 rfl (tX9_refuse v (d + 3) l0 (2 : Int32)) rfl rfl rfl rfl ml_X9_357 im_X9_refuse se_X9_X9_refuse in_X9 co_X9_refuse rfl rfl (fun x1 => ?_)
  exact rz_ireturn rfl rfl dX9_sell_31
def fX9_sell (l0 : Nat) (l1 : Int32) (l2 : Int32) (l3 : Int32) : mM Int32 := bPI 9 l0 1 (0 : Int32) (bPI 9 l0 0 (0 : Int32) (bCallV 9 l0 (fX9_isRope l0 l1) (fun x1 => bIf (x1 = 0) (fX9_sell_26 l0) (bCallV 9 l0 (fX9_isPerson l0 l3) (fun x2 => bIf (x2 = 0) (fX9_sell_26 l0) (bCallV 9 l0 (fX9_yardsOfRope l0 l1) (fun x3 => bCall (fX9_isIn (Int32.toInt64 l2) (1 : Int64) (Int32.toInt64 x3)) (fun x4 => bIf (x4 = 0) (bCallV 9 l0 (fX9_refuse l0 (5 : Int32)) (fun x7 => bRet x7)) (bIf (x3 ≤ l2) (fX9_sell_79 l0 l1 l2 l3 x3) (bCallV 9 l0 (fX9_ropes l0) (fun x5 => bIf (x5 = (12 : Int32)) (bCallV 9 l0 (fX9_refuse l0 (7 : Int32)) (fun x6 => bRet x6)) (fX9_sell_79 l0 l1 l2 l3 x3))))))))))))
set_option maxRecDepth 20000 in
theorem rX9_sell (v : mE) (d : Nat) (l0 : Nat) (l1 : Int32) (l2 : Int32) (l3 : Int32) : Rz v RX9 cX9_sell 7 (some .int) false emI (d + 4) 0 [(0, vR l0), (1, vI l1), (2, vI l2), (3, vI l3)] [] (fX9_sell l0 l1 l2 l3) := by
  unfold fX9_sell
  refine rz_aload_n 1 0 dX9_sell_0 rfl rfl ?_
  refine rz_iconst 2 dX9_sell_1 rfl ci_0 ?_
  refine rz_pI 5 dX9_sell_2 rfl rfl rfl rfl fl_X9_62 ?_
  refine rz_aload_n 6 0 dX9_sell_5 rfl rfl ?_
  refine rz_iconst 7 dX9_sell_6 rfl ci_0 ?_
  refine rz_pI 10 dX9_sell_7 rfl rfl rfl rfl fl_X9_65 ?_
  refine rz_aload_n 11 0 dX9_sell_10 rfl rfl ?_
  refine rz_iload_n 12 1 dX9_sell_11 rfl rfl ?_
  refine rz_callV 15 dX9_sell_12 rfl (tX9_isRope v (d + 2) l0 l1) rfl rfl rfl rfl ml_X9_318 im_X9_isRope se_X9_X9_isRope in_X9 co_X9_isRope rfl rfl (fun x1 => ?_)
  refine rz_if_eq 26 18 dX9_sell_15 rfl rfl ?_ ?_
  · exact rz_sub [0] rfl (rX9_sell_26 v d l0)
  · refine rz_aload_n 19 0 dX9_sell_18 rfl rfl ?_
    refine rz_iload_n 20 3 dX9_sell_19 rfl rfl ?_
    refine rz_callV 23 dX9_sell_20 rfl (tX9_isPerson v (d + 2) l0 l3) rfl rfl rfl rfl ml_X9_360 im_X9_isPerson se_X9_X9_isPerson in_X9 co_X9_isPerson rfl rfl (fun x2 => ?_)
    refine rz_if_ne 32 26 dX9_sell_23 rfl rfl ?_ ?_
    · refine rz_aload_n 33 0 dX9_sell_32 rfl rfl ?_
      refine rz_iload_n 34 1 dX9_sell_33 rfl rfl ?_
      refine rz_callV 37 dX9_sell_34 rfl (tX9_yardsOfRope v (d + 3) l0 l1) rfl rfl rfl rfl ml_X9_327 im_X9_yardsOfRope se_X9_X9_yardsOfRope in_X9 co_X9_yardsOfRope rfl rfl (fun x3 => ?_)
      refine rz_istore (lv' := [(4, vI x3), (0, vR l0), (1, vI l1), (2, vI l2), (3, vI l3)]) 39 dX9_sell_37 rfl rfl rfl ?_
      refine rz_iload_n 40 3 dX9_sell_39 rfl rfl ?_
      refine rz_i2l 41 dX9_sell_40 rfl ?_
      refine rz_lconst 42 dX9_sell_41 rfl cl_1 ?_
      refine rz_iload 44 0 dX9_sell_42 rfl rfl ?_
      refine rz_i2l 45 dX9_sell_44 rfl ?_
      refine rz_callS 48 dX9_sell_45 rfl (tX9_isIn v (d + 3) (Int32.toInt64 l2) (1 : Int64) (Int32.toInt64 x3)) rfl rfl ml_X9_97 sm_X9_isIn in_X9 co_X9_isIn rfl rfl (fun x4 => ?_)
      refine rz_if_ne 57 51 dX9_sell_48 rfl rfl ?_ ?_
      · refine rz_iload_n 58 3 dX9_sell_57 rfl rfl ?_
        refine rz_iload 60 0 dX9_sell_58 rfl rfl ?_
        refine rz_icmp_ge 79 63 dX9_sell_60 rfl rfl ?_ ?_
        · exact rz_sub [1, 2, 3, 4, 0] rfl (rX9_sell_79 v d l0 l1 l2 l3 x3)
        · refine rz_aload_n 64 1 dX9_sell_63 rfl rfl ?_
          refine rz_callV 67 dX9_sell_64 rfl (tX9_ropes v (d + 1) l0) rfl rfl rfl rfl ml_X9_354 im_X9_ropes se_X9_X9_ropes in_X9 co_X9_ropes rfl rfl (fun x5 => ?_)
          refine rz_bipush 69 dX9_sell_67 rfl cb_12 ?_
          refine rz_icmp_ne 79 72 dX9_sell_69 rfl rfl ?_ ?_
          · exact rz_sub [1, 2, 3, 4, 0] rfl (rX9_sell_79 v d l0 l1 l2 l3 x3)
          · refine rz_aload_n 73 1 dX9_sell_72 rfl rfl ?_
            refine rz_bipush 75 dX9_sell_73 rfl cb_7 ?_
            refine rz_callV 78 dX9_sell_75 rfl (tX9_refuse v (d + 3) l0 (7 : Int32)) rfl rfl rfl rfl ml_X9_357 im_X9_refuse se_X9_X9_refuse in_X9 co_X9_refuse rfl rfl (fun x6 => ?_)
            exact rz_ireturn rfl rfl dX9_sell_78
      · refine rz_aload_n 52 1 dX9_sell_51 rfl rfl ?_
        refine rz_iconst 53 dX9_sell_52 rfl ci_5 ?_
        refine rz_callV 56 dX9_sell_53 rfl (tX9_refuse v (d + 3) l0 (5 : Int32)) rfl rfl rfl rfl ml_X9_357 im_X9_refuse se_X9_X9_refuse in_X9 co_X9_refuse rfl rfl (fun x7 => ?_)
        exact rz_ireturn rfl rfl dX9_sell_56
    · exact rz_sub [0] rfl (rX9_sell_26 v d l0)
theorem tX9_sell (v : mE) (d : Nat) (l0 : Nat) (l1 : Int32) (l2 : Int32) (l3 : Int32) : Mt v yX9_sell cX9_sell 7 (some .int) emI (d + 4) [vR l0, vI l1, vI l2, vI l3] (fX9_sell l0 l1 l2 l3) := mt_of rfl rfl (fun h => by cases h) rfl rfl (rX9_sell v d l0 l1 l2 l3)
theorem dX9_lend_0 : decode cX9_lend 0 = .ok (.aload_n 0, 1) := by decide +kernel
theorem dX9_lend_1 : decode cX9_lend 1 = .ok (.iconst 0, 1) := by decide +kernel
theorem dX9_lend_2 : decode cX9_lend 2 = .ok (.putfield 62, 3) := by decide +kernel
theorem dX9_lend_5 : decode cX9_lend 5 = .ok (.aload_n 0, 1) := by decide +kernel
theorem dX9_lend_6 : decode cX9_lend 6 = .ok (.iconst 0, 1) := by decide +kernel
theorem dX9_lend_7 : decode cX9_lend 7 = .ok (.putfield 65, 3) := by decide +kernel
theorem dX9_lend_10 : decode cX9_lend 10 = .ok (.aload_n 0, 1) := by decide +kernel
theorem dX9_lend_11 : decode cX9_lend 11 = .ok (.iload_n 1, 1) := by decide +kernel
theorem dX9_lend_12 : decode cX9_lend 12 = .ok (.invokevirtual 318, 3) := by decide +kernel
theorem dX9_lend_15 : decode cX9_lend 15 = .ok (.ifCond .eq 11, 3) := by decide +kernel
theorem dX9_lend_18 : decode cX9_lend 18 = .ok (.aload_n 0, 1) := by decide +kernel
theorem dX9_lend_19 : decode cX9_lend 19 = .ok (.iload_n 2, 1) := by decide +kernel
theorem dX9_lend_20 : decode cX9_lend 20 = .ok (.invokevirtual 360, 3) := by decide +kernel
theorem dX9_lend_23 : decode cX9_lend 23 = .ok (.ifCond .ne 9, 3) := by decide +kernel
theorem dX9_lend_26 : decode cX9_lend 26 = .ok (.aload_n 0, 1) := by decide +kernel
theorem dX9_lend_27 : decode cX9_lend 27 = .ok (.iconst 2, 1) := by decide +kernel
theorem dX9_lend_28 : decode cX9_lend 28 = .ok (.invokevirtual 357, 3) := by decide +kernel
theorem dX9_lend_31 : decode cX9_lend 31 = .ok (.ireturn, 1) := by decide +kernel
theorem dX9_lend_32 : decode cX9_lend 32 = .ok (.aload_n 0, 1) := by decide +kernel
theorem dX9_lend_33 : decode cX9_lend 33 = .ok (.getfield 35, 3) := by decide +kernel
theorem dX9_lend_36 : decode cX9_lend 36 = .ok (.bipush 49, 2) := by decide +kernel
theorem dX9_lend_38 : decode cX9_lend 38 = .ok (.iload_n 1, 1) := by decide +kernel
theorem dX9_lend_39 : decode cX9_lend 39 = .ok (.iadd, 1) := by decide +kernel
theorem dX9_lend_40 : decode cX9_lend 40 = .ok (.iaload, 1) := by decide +kernel
theorem dX9_lend_41 : decode cX9_lend 41 = .ok (.ifCond .ge 24, 3) := by decide +kernel
theorem dX9_lend_44 : decode cX9_lend 44 = .ok (.aload_n 0, 1) := by decide +kernel
theorem dX9_lend_45 : decode cX9_lend 45 = .ok (.iload_n 2, 1) := by decide +kernel
theorem dX9_lend_46 : decode cX9_lend 46 = .ok (.invokevirtual 342, 3) := by decide +kernel
theorem dX9_lend_49 : decode cX9_lend 49 = .ok (.ifCond .eq 16, 3) := by decide +kernel
theorem dX9_lend_52 : decode cX9_lend 52 = .ok (.aload_n 0, 1) := by decide +kernel
theorem dX9_lend_53 : decode cX9_lend 53 = .ok (.getfield 35, 3) := by decide +kernel
theorem dX9_lend_56 : decode cX9_lend 56 = .ok (.bipush 37, 2) := by decide +kernel
theorem dX9_lend_58 : decode cX9_lend 58 = .ok (.iload_n 1, 1) := by decide +kernel
theorem dX9_lend_59 : decode cX9_lend 59 = .ok (.iadd, 1) := by decide +kernel
theorem dX9_lend_60 : decode cX9_lend 60 = .ok (.iaload, 1) := by decide +kernel
theorem dX9_lend_61 : decode cX9_lend 61 = .ok (.iload_n 2, 1) := by decide +kernel
theorem dX9_lend_62 : decode cX9_lend 62 = .ok (.if_icmp .ne 10, 3) := by decide +kernel
theorem dX9_lend_65 : decode cX9_lend 65 = .ok (.aload_n 0, 1) := by decide +kernel
theorem dX9_lend_66 : decode cX9_lend 66 = .ok (.bipush 9, 2) := by decide +kernel
theorem dX9_lend_68 : decode cX9_lend 68 = .ok (.invokevirtual 357, 3) := by decide +kernel
theorem dX9_lend_71 : decode cX9_lend 71 = .ok (.ireturn, 1) := by decide +kernel
theorem dX9_lend_72 : decode cX9_lend 72 = .ok (.aload_n 0, 1) := by decide +kernel
theorem dX9_lend_73 : decode cX9_lend 73 = .ok (.getfield 35, 3) := by decide +kernel
theorem dX9_lend_76 : decode cX9_lend 76 = .ok (.bipush 49, 2) := by decide +kernel
theorem dX9_lend_78 : decode cX9_lend 78 = .ok (.iload_n 1, 1) := by decide +kernel
theorem dX9_lend_79 : decode cX9_lend 79 = .ok (.iadd, 1) := by decide +kernel
theorem dX9_lend_80 : decode cX9_lend 80 = .ok (.iload_n 2, 1) := by decide +kernel
theorem dX9_lend_81 : decode cX9_lend 81 = .ok (.iastore, 1) := by decide +kernel
theorem dX9_lend_82 : decode cX9_lend 82 = .ok (.aload_n 0, 1) := by decide +kernel
theorem dX9_lend_83 : decode cX9_lend 83 = .ok (.iload_n 2, 1) := by decide +kernel
theorem dX9_lend_84 : decode cX9_lend 84 = .ok (.invokevirtual 366, 3) := by decide +kernel
theorem dX9_lend_87 : decode cX9_lend 87 = .ok (.ireturn, 1) := by decide +kernel
def fX9_lend_65 (l0 : Nat) : mM Int32 := bCallV 9 l0 (fX9_refuse l0 (9 : Int32)) (fun x1 => bRet x1)
set_option maxRecDepth 20000 in
theorem rX9_lend_65 (v : mE) (d : Nat) (l0 : Nat) : Rz v RX9 cX9_lend 3 (some .int) false emI (d + 4) 65 [(0, vR l0)] [] (fX9_lend_65 l0) := by
  unfold fX9_lend_65
  refine rz_aload_n 66 0 dX9_lend_65 rfl rfl ?_
  refine rz_bipush 68 dX9_lend_66 rfl cb_9 ?_
  refine rz_callV 71 dX9_lend_68 rfl (tX9_refuse v (d + 3) l0 (9 : Int32)) rfl rfl rfl rfl ml_X9_357 im_X9_refuse se_X9_X9_refuse in_X9 co_X9_refuse rfl rfl (fun x1 => ?_)
  exact rz_ireturn rfl rfl dX9_lend_71
def fX9_lend_26 (l0 : Nat) : mM Int32 := bCallV 9 l0 (fX9_refuse l0 (2 : Int32)) (fun x1 => bRet x1)
set_option maxRecDepth 20000 in
theorem rX9_lend_26 (v : mE) (d : Nat) (l0 : Nat) : Rz v RX9 cX9_lend 3 (some .int) false emI (d + 4) 26 [(0, vR l0)] [] (fX9_lend_26 l0) := by
  unfold fX9_lend_26
  refine rz_aload_n 27 0 dX9_lend_26 rfl rfl ?_
  refine rz_iconst 28 dX9_lend_27 rfl ci_2 ?_
  refine rz_callV 31 dX9_lend_28 rfl (tX9_refuse v (d + 3) l0 (2 : Int32)) rfl rfl rfl rfl ml_X9_357 im_X9_refuse se_X9_X9_refuse in_X9 co_X9_refuse rfl rfl (fun x1 => ?_)
  exact rz_ireturn rfl rfl dX9_lend_31
def fX9_lend (l0 : Nat) (l1 : Int32) (l2 : Int32) : mM Int32 := bPI 9 l0 1 (0 : Int32) (bPI 9 l0 0 (0 : Int32) (bCallV 9 l0 (fX9_isRope l0 l1) (fun x1 => bIf (x1 = 0) (fX9_lend_26 l0) (bCallV 9 l0 (fX9_isPerson l0 l2) (fun x2 => bIf (x2 = 0) (fX9_lend_26 l0) (bGR 9 l0 24 (fun x3 => bAI 11 x3 ((49 : Int32) + l1) (fun x4 => bIf (0 ≤ x4) (fX9_lend_65 l0) (bCallV 9 l0 (fX9_isAlive l0 l2) (fun x5 => bIf (x5 = 0) (fX9_lend_65 l0) (bGR 9 l0 24 (fun x6 => bAI 11 x6 ((37 : Int32) + l1) (fun x7 => bIf (x7 = l2) (fX9_lend_65 l0) (bGR 9 l0 24 (fun x8 => bSI x8 ((49 : Int32) + l1) l2 (bCallV 9 l0 (fX9_yardsHeld l0 l2) (fun x9 => bRet x9)))))))))))))))))
set_option maxRecDepth 20000 in
theorem rX9_lend (v : mE) (d : Nat) (l0 : Nat) (l1 : Int32) (l2 : Int32) : Rz v RX9 cX9_lend 3 (some .int) false emI (d + 4) 0 [(0, vR l0), (1, vI l1), (2, vI l2)] [] (fX9_lend l0 l1 l2) := by
  unfold fX9_lend
  refine rz_aload_n 1 0 dX9_lend_0 rfl rfl ?_
  refine rz_iconst 2 dX9_lend_1 rfl ci_0 ?_
  refine rz_pI 5 dX9_lend_2 rfl rfl rfl rfl fl_X9_62 ?_
  refine rz_aload_n 6 0 dX9_lend_5 rfl rfl ?_
  refine rz_iconst 7 dX9_lend_6 rfl ci_0 ?_
  refine rz_pI 10 dX9_lend_7 rfl rfl rfl rfl fl_X9_65 ?_
  refine rz_aload_n 11 0 dX9_lend_10 rfl rfl ?_
  refine rz_iload_n 12 1 dX9_lend_11 rfl rfl ?_
  refine rz_callV 15 dX9_lend_12 rfl (tX9_isRope v (d + 2) l0 l1) rfl rfl rfl rfl ml_X9_318 im_X9_isRope se_X9_X9_isRope in_X9 co_X9_isRope rfl rfl (fun x1 => ?_)
  refine rz_if_eq 26 18 dX9_lend_15 rfl rfl ?_ ?_
  · exact rz_sub [0] rfl (rX9_lend_26 v d l0)
  · refine rz_aload_n 19 0 dX9_lend_18 rfl rfl ?_
    refine rz_iload_n 20 2 dX9_lend_19 rfl rfl ?_
    refine rz_callV 23 dX9_lend_20 rfl (tX9_isPerson v (d + 2) l0 l2) rfl rfl rfl rfl ml_X9_360 im_X9_isPerson se_X9_X9_isPerson in_X9 co_X9_isPerson rfl rfl (fun x2 => ?_)
    refine rz_if_ne 32 26 dX9_lend_23 rfl rfl ?_ ?_
    · refine rz_aload_n 33 0 dX9_lend_32 rfl rfl ?_
      refine rz_gR 36 dX9_lend_33 rfl rfl fl_X9_35 (fun x3 => ?_)
      refine rz_bipush 38 dX9_lend_36 rfl cb_49 ?_
      refine rz_iload_n 39 1 dX9_lend_38 rfl rfl ?_
      refine rz_iadd 40 dX9_lend_39 rfl ?_
      refine rz_iald 41 dX9_lend_40 rfl (fun x4 => ?_)
      refine rz_if_ge 65 44 dX9_lend_41 rfl rfl ?_ ?_
      · exact rz_sub [0] rfl (rX9_lend_65 v d l0)
      · refine rz_aload_n 45 0 dX9_lend_44 rfl rfl ?_
        refine rz_iload_n 46 2 dX9_lend_45 rfl rfl ?_
        refine rz_callV 49 dX9_lend_46 rfl (tX9_isAlive v (d + 3) l0 l2) rfl rfl rfl rfl ml_X9_342 im_X9_isAlive se_X9_X9_isAlive in_X9 co_X9_isAlive rfl rfl (fun x5 => ?_)
        refine rz_if_eq 65 52 dX9_lend_49 rfl rfl ?_ ?_
        · exact rz_sub [0] rfl (rX9_lend_65 v d l0)
        · refine rz_aload_n 53 0 dX9_lend_52 rfl rfl ?_
          refine rz_gR 56 dX9_lend_53 rfl rfl fl_X9_35 (fun x6 => ?_)
          refine rz_bipush 58 dX9_lend_56 rfl cb_37 ?_
          refine rz_iload_n 59 1 dX9_lend_58 rfl rfl ?_
          refine rz_iadd 60 dX9_lend_59 rfl ?_
          refine rz_iald 61 dX9_lend_60 rfl (fun x7 => ?_)
          refine rz_iload_n 62 2 dX9_lend_61 rfl rfl ?_
          refine rz_icmp_ne 72 65 dX9_lend_62 rfl rfl ?_ ?_
          · refine rz_aload_n 73 0 dX9_lend_72 rfl rfl ?_
            refine rz_gR 76 dX9_lend_73 rfl rfl fl_X9_35 (fun x8 => ?_)
            refine rz_bipush 78 dX9_lend_76 rfl cb_49 ?_
            refine rz_iload_n 79 1 dX9_lend_78 rfl rfl ?_
            refine rz_iadd 80 dX9_lend_79 rfl ?_
            refine rz_iload_n 81 2 dX9_lend_80 rfl rfl ?_
            refine rz_iast 82 dX9_lend_81 rfl ?_
            refine rz_aload_n 83 0 dX9_lend_82 rfl rfl ?_
            refine rz_iload_n 84 2 dX9_lend_83 rfl rfl ?_
            refine rz_callV 87 dX9_lend_84 rfl (tX9_yardsHeld v (d + 0) l0 l2) rfl rfl rfl rfl ml_X9_366 im_X9_yardsHeld se_X9_X9_yardsHeld in_X9 co_X9_yardsHeld rfl rfl (fun x9 => ?_)
            exact rz_ireturn rfl rfl dX9_lend_87
          · exact rz_sub [0] rfl (rX9_lend_65 v d l0)
    · exact rz_sub [0] rfl (rX9_lend_26 v d l0)
theorem tX9_lend (v : mE) (d : Nat) (l0 : Nat) (l1 : Int32) (l2 : Int32) : Mt v yX9_lend cX9_lend 3 (some .int) emI (d + 4) [vR l0, vI l1, vI l2] (fX9_lend l0 l1 l2) := mt_of rfl rfl (fun h => by cases h) rfl rfl (rX9_lend v d l0 l1 l2)
theorem dX9_takeBack_0 : decode cX9_takeBack 0 = .ok (.aload_n 0, 1) := by decide +kernel
theorem dX9_takeBack_1 : decode cX9_takeBack 1 = .ok (.iconst 0, 1) := by decide +kernel
theorem dX9_takeBack_2 : decode cX9_takeBack 2 = .ok (.putfield 62, 3) := by decide +kernel
theorem dX9_takeBack_5 : decode cX9_takeBack 5 = .ok (.aload_n 0, 1) := by decide +kernel
theorem dX9_takeBack_6 : decode cX9_takeBack 6 = .ok (.iconst 0, 1) := by decide +kernel
theorem dX9_takeBack_7 : decode cX9_takeBack 7 = .ok (.putfield 65, 3) := by decide +kernel
theorem dX9_takeBack_10 : decode cX9_takeBack 10 = .ok (.aload_n 0, 1) := by decide +kernel
theorem dX9_takeBack_11 : decode cX9_takeBack 11 = .ok (.iload_n 1, 1) := by decide +kernel
theorem dX9_takeBack_12 : decode cX9_takeBack 12 = .ok (.invokevirtual 318, 3) := by decide +kernel
theorem dX9_takeBack_15 : decode cX9_takeBack 15 = .ok (.ifCond .ne 9, 3) := by decide +kernel
theorem dX9_takeBack_18 : decode cX9_takeBack 18 = .ok (.aload_n 0, 1) := by decide +kernel
theorem dX9_takeBack_19 : decode cX9_takeBack 19 = .ok (.iconst 2, 1) := by decide +kernel
theorem dX9_takeBack_20 : decode cX9_takeBack 20 = .ok (.invokevirtual 357, 3) := by decide +kernel
theorem dX9_takeBack_23 : decode cX9_takeBack 23 = .ok (.ireturn, 1) := by decide +kernel
theorem dX9_takeBack_24 : decode cX9_takeBack 24 = .ok (.aload_n 0, 1) := by decide +kernel
theorem dX9_takeBack_25 : decode cX9_takeBack 25 = .ok (.getfield 35, 3) := by decide +kernel
theorem dX9_takeBack_28 : decode cX9_takeBack 28 = .ok (.bipush 49, 2) := by decide +kernel
theorem dX9_takeBack_30 : decode cX9_takeBack 30 = .ok (.iload_n 1, 1) := by decide +kernel
theorem dX9_takeBack_31 : decode cX9_takeBack 31 = .ok (.iadd, 1) := by decide +kernel
theorem dX9_takeBack_32 : decode cX9_takeBack 32 = .ok (.iaload, 1) := by decide +kernel
theorem dX9_takeBack_33 : decode cX9_takeBack 33 = .ok (.istore_n 2, 1) := by decide +kernel
theorem dX9_takeBack_34 : decode cX9_takeBack 34 = .ok (.iload_n 2, 1) := by decide +kernel
theorem dX9_takeBack_35 : decode cX9_takeBack 35 = .ok (.ifCond .ge 10, 3) := by decide +kernel
theorem dX9_takeBack_38 : decode cX9_takeBack 38 = .ok (.aload_n 0, 1) := by decide +kernel
theorem dX9_takeBack_39 : decode cX9_takeBack 39 = .ok (.bipush 8, 2) := by decide +kernel
theorem dX9_takeBack_41 : decode cX9_takeBack 41 = .ok (.invokevirtual 357, 3) := by decide +kernel
theorem dX9_takeBack_44 : decode cX9_takeBack 44 = .ok (.ireturn, 1) := by decide +kernel
theorem dX9_takeBack_45 : decode cX9_takeBack 45 = .ok (.aload_n 0, 1) := by decide +kernel
theorem dX9_takeBack_46 : decode cX9_takeBack 46 = .ok (.getfield 35, 3) := by decide +kernel
theorem dX9_takeBack_49 : decode cX9_takeBack 49 = .ok (.bipush 49, 2) := by decide +kernel
theorem dX9_takeBack_51 : decode cX9_takeBack 51 = .ok (.iload_n 1, 1) := by decide +kernel
theorem dX9_takeBack_52 : decode cX9_takeBack 52 = .ok (.iadd, 1) := by decide +kernel
theorem dX9_takeBack_53 : decode cX9_takeBack 53 = .ok (.iconst (-1), 1) := by decide +kernel
theorem dX9_takeBack_54 : decode cX9_takeBack 54 = .ok (.iastore, 1) := by decide +kernel
theorem dX9_takeBack_55 : decode cX9_takeBack 55 = .ok (.iload_n 2, 1) := by decide +kernel
theorem dX9_takeBack_56 : decode cX9_takeBack 56 = .ok (.ireturn, 1) := by decide +kernel
def fX9_takeBack (l0 : Nat) (l1 : Int32) : mM Int32 := bPI 9 l0 1 (0 : Int32) (bPI 9 l0 0 (0 : Int32) (bCallV 9 l0 (fX9_isRope l0 l1) (fun x1 => bIf (x1 = 0) (bCallV 9 l0 (fX9_refuse l0 (2 : Int32)) (fun x6 => bRet x6)) (bGR 9 l0 24 (fun x2 => bAI 11 x2 ((49 : Int32) + l1) (fun x3 => bIf (0 ≤ x3) (bGR 9 l0 24 (fun x4 => bSI x4 ((49 : Int32) + l1) (-1 : Int32) (bRet x3))) (bCallV 9 l0 (fX9_refuse l0 (8 : Int32)) (fun x5 => bRet x5))))))))
set_option maxRecDepth 20000 in
theorem rX9_takeBack (v : mE) (d : Nat) (l0 : Nat) (l1 : Int32) : Rz v RX9 cX9_takeBack 3 (some .int) false emI (d + 2) 0 [(0, vR l0), (1, vI l1)] [] (fX9_takeBack l0 l1) := by
  unfold fX9_takeBack
  refine rz_aload_n 1 0 dX9_takeBack_0 rfl rfl ?_
  refine rz_iconst 2 dX9_takeBack_1 rfl ci_0 ?_
  refine rz_pI 5 dX9_takeBack_2 rfl rfl rfl rfl fl_X9_62 ?_
  refine rz_aload_n 6 0 dX9_takeBack_5 rfl rfl ?_
  refine rz_iconst 7 dX9_takeBack_6 rfl ci_0 ?_
  refine rz_pI 10 dX9_takeBack_7 rfl rfl rfl rfl fl_X9_65 ?_
  refine rz_aload_n 11 0 dX9_takeBack_10 rfl rfl ?_
  refine rz_iload_n 12 1 dX9_takeBack_11 rfl rfl ?_
  refine rz_callV 15 dX9_takeBack_12 rfl (tX9_isRope v (d + 0) l0 l1) rfl rfl rfl rfl ml_X9_318 im_X9_isRope se_X9_X9_isRope in_X9 co_X9_isRope rfl rfl (fun x1 => ?_)
  refine rz_if_ne 24 18 dX9_takeBack_15 rfl rfl ?_ ?_
  · refine rz_aload_n 25 0 dX9_takeBack_24 rfl rfl ?_
    refine rz_gR 28 dX9_takeBack_25 rfl rfl fl_X9_35 (fun x2 => ?_)
    refine rz_bipush 30 dX9_takeBack_28 rfl cb_49 ?_
    refine rz_iload_n 31 1 dX9_takeBack_30 rfl rfl ?_
    refine rz_iadd 32 dX9_takeBack_31 rfl ?_
    refine rz_iald 33 dX9_takeBack_32 rfl (fun x3 => ?_)
    refine rz_istore_n (lv' := [(2, vI x3), (0, vR l0), (1, vI l1)]) 34 dX9_takeBack_33 rfl rfl rfl ?_
    refine rz_iload_n 35 0 dX9_takeBack_34 rfl rfl ?_
    refine rz_if_ge 45 38 dX9_takeBack_35 rfl rfl ?_ ?_
    · refine rz_aload_n 46 1 dX9_takeBack_45 rfl rfl ?_
      refine rz_gR 49 dX9_takeBack_46 rfl rfl fl_X9_35 (fun x4 => ?_)
      refine rz_bipush 51 dX9_takeBack_49 rfl cb_49 ?_
      refine rz_iload_n 52 2 dX9_takeBack_51 rfl rfl ?_
      refine rz_iadd 53 dX9_takeBack_52 rfl ?_
      refine rz_iconst 54 dX9_takeBack_53 rfl ci_m1 ?_
      refine rz_iast 55 dX9_takeBack_54 rfl ?_
      refine rz_iload_n 56 0 dX9_takeBack_55 rfl rfl ?_
      exact rz_ireturn rfl rfl dX9_takeBack_56
    · refine rz_aload_n 39 1 dX9_takeBack_38 rfl rfl ?_
      refine rz_bipush 41 dX9_takeBack_39 rfl cb_8 ?_
      refine rz_callV 44 dX9_takeBack_41 rfl (tX9_refuse v (d + 1) l0 (8 : Int32)) rfl rfl rfl rfl ml_X9_357 im_X9_refuse se_X9_X9_refuse in_X9 co_X9_refuse rfl rfl (fun x5 => ?_)
      exact rz_ireturn rfl rfl dX9_takeBack_44
  · refine rz_aload_n 19 0 dX9_takeBack_18 rfl rfl ?_
    refine rz_iconst 20 dX9_takeBack_19 rfl ci_2 ?_
    refine rz_callV 23 dX9_takeBack_20 rfl (tX9_refuse v (d + 1) l0 (2 : Int32)) rfl rfl rfl rfl ml_X9_357 im_X9_refuse se_X9_X9_refuse in_X9 co_X9_refuse rfl rfl (fun x6 => ?_)
    exact rz_ireturn rfl rfl dX9_takeBack_23
theorem tX9_takeBack (v : mE) (d : Nat) (l0 : Nat) (l1 : Int32) : Mt v yX9_takeBack cX9_takeBack 3 (some .int) emI (d + 2) [vR l0, vI l1] (fX9_takeBack l0 l1) := mt_of rfl rfl (fun h => by cases h) rfl rfl (rX9_takeBack v d l0 l1)
theorem dX9_dig_0 : decode cX9_dig 0 = .ok (.aload_n 0, 1) := by decide +kernel
theorem dX9_dig_1 : decode cX9_dig 1 = .ok (.iconst 0, 1) := by decide +kernel
theorem dX9_dig_2 : decode cX9_dig 2 = .ok (.putfield 62, 3) := by decide +kernel
theorem dX9_dig_5 : decode cX9_dig 5 = .ok (.aload_n 0, 1) := by decide +kernel
theorem dX9_dig_6 : decode cX9_dig 6 = .ok (.iconst 0, 1) := by decide +kernel
theorem dX9_dig_7 : decode cX9_dig 7 = .ok (.putfield 65, 3) := by decide +kernel
theorem dX9_dig_10 : decode cX9_dig 10 = .ok (.iload_n 1, 1) := by decide +kernel
theorem dX9_dig_11 : decode cX9_dig 11 = .ok (.ifCond .eq 17, 3) := by decide +kernel
theorem dX9_dig_14 : decode cX9_dig 14 = .ok (.iload_n 1, 1) := by decide +kernel
theorem dX9_dig_15 : decode cX9_dig 15 = .ok (.i2l, 1) := by decide +kernel
theorem dX9_dig_16 : decode cX9_dig 16 = .ok (.ldc2_w 446, 3) := by decide +kernel
theorem dX9_dig_19 : decode cX9_dig 19 = .ok (.ldc2_w 448, 3) := by decide +kernel
theorem dX9_dig_22 : decode cX9_dig 22 = .ok (.invokestatic 97, 3) := by decide +kernel
theorem dX9_dig_25 : decode cX9_dig 25 = .ok (.ifCond .ne 9, 3) := by decide +kernel
theorem dX9_dig_28 : decode cX9_dig 28 = .ok (.aload_n 0, 1) := by decide +kernel
theorem dX9_dig_29 : decode cX9_dig 29 = .ok (.iconst 5, 1) := by decide +kernel
theorem dX9_dig_30 : decode cX9_dig 30 = .ok (.invokevirtual 357, 3) := by decide +kernel
theorem dX9_dig_33 : decode cX9_dig 33 = .ok (.ireturn, 1) := by decide +kernel
theorem dX9_dig_34 : decode cX9_dig 34 = .ok (.aload_n 0, 1) := by decide +kernel
theorem dX9_dig_35 : decode cX9_dig 35 = .ok (.getfield 35, 3) := by decide +kernel
theorem dX9_dig_38 : decode cX9_dig 38 = .ok (.iconst 1, 1) := by decide +kernel
theorem dX9_dig_39 : decode cX9_dig 39 = .ok (.iconst 0, 1) := by decide +kernel
theorem dX9_dig_40 : decode cX9_dig 40 = .ok (.sipush 999, 3) := by decide +kernel
theorem dX9_dig_43 : decode cX9_dig 43 = .ok (.aload_n 0, 1) := by decide +kernel
theorem dX9_dig_44 : decode cX9_dig 44 = .ok (.getfield 35, 3) := by decide +kernel
theorem dX9_dig_47 : decode cX9_dig 47 = .ok (.iconst 1, 1) := by decide +kernel
theorem dX9_dig_48 : decode cX9_dig 48 = .ok (.iaload, 1) := by decide +kernel
theorem dX9_dig_49 : decode cX9_dig 49 = .ok (.iload_n 1, 1) := by decide +kernel
theorem dX9_dig_50 : decode cX9_dig 50 = .ok (.iadd, 1) := by decide +kernel
theorem dX9_dig_51 : decode cX9_dig 51 = .ok (.invokestatic 390, 3) := by decide +kernel
theorem dX9_dig_54 : decode cX9_dig 54 = .ok (.invokestatic 321, 3) := by decide +kernel
theorem dX9_dig_57 : decode cX9_dig 57 = .ok (.iastore, 1) := by decide +kernel
theorem dX9_dig_58 : decode cX9_dig 58 = .ok (.aload_n 0, 1) := by decide +kernel
theorem dX9_dig_59 : decode cX9_dig 59 = .ok (.getfield 35, 3) := by decide +kernel
theorem dX9_dig_62 : decode cX9_dig 62 = .ok (.iconst 1, 1) := by decide +kernel
theorem dX9_dig_63 : decode cX9_dig 63 = .ok (.iaload, 1) := by decide +kernel
theorem dX9_dig_64 : decode cX9_dig 64 = .ok (.ireturn, 1) := by decide +kernel
def fX9_dig_28 (l0 : Nat) : mM Int32 := bCallV 9 l0 (fX9_refuse l0 (5 : Int32)) (fun x1 => bRet x1)
set_option maxRecDepth 20000 in
theorem rX9_dig_28 (v : mE) (d : Nat) (l0 : Nat) : Rz v RX9 cX9_dig 2 (some .int) false emI (d + 1) 28 [(0, vR l0)] [] (fX9_dig_28 l0) := by
  unfold fX9_dig_28
  refine rz_aload_n 29 0 dX9_dig_28 rfl rfl ?_
  refine rz_iconst 30 dX9_dig_29 rfl ci_5 ?_
  refine rz_callV 33 dX9_dig_30 rfl (tX9_refuse v (d + 0) l0 (5 : Int32)) rfl rfl rfl rfl ml_X9_357 im_X9_refuse se_X9_X9_refuse in_X9 co_X9_refuse rfl rfl (fun x1 => ?_)
  exact rz_ireturn rfl rfl dX9_dig_33
def fX9_dig (l0 : Nat) (l1 : Int32) : mM Int32 := bPI 9 l0 1 (0 : Int32) (bPI 9 l0 0 (0 : Int32) (bIf (l1 = 0) (fX9_dig_28 l0) (bCall (fX9_isIn (Int32.toInt64 l1) (-99 : Int64) (99 : Int64)) (fun x1 => bIf (x1 = 0) (fX9_dig_28 l0) (bGR 9 l0 24 (fun x2 => bGR 9 l0 24 (fun x3 => bAI 11 x3 (1 : Int32) (fun x4 => bSI x2 (1 : Int32) (jMax (0 : Int32) (jMin (999 : Int32) (x4 + l1))) (bGR 9 l0 24 (fun x5 => bAI 11 x5 (1 : Int32) (fun x6 => bRet x6)))))))))))
set_option maxRecDepth 20000 in
theorem rX9_dig (v : mE) (d : Nat) (l0 : Nat) (l1 : Int32) : Rz v RX9 cX9_dig 2 (some .int) false emI (d + 1) 0 [(0, vR l0), (1, vI l1)] [] (fX9_dig l0 l1) := by
  unfold fX9_dig
  refine rz_aload_n 1 0 dX9_dig_0 rfl rfl ?_
  refine rz_iconst 2 dX9_dig_1 rfl ci_0 ?_
  refine rz_pI 5 dX9_dig_2 rfl rfl rfl rfl fl_X9_62 ?_
  refine rz_aload_n 6 0 dX9_dig_5 rfl rfl ?_
  refine rz_iconst 7 dX9_dig_6 rfl ci_0 ?_
  refine rz_pI 10 dX9_dig_7 rfl rfl rfl rfl fl_X9_65 ?_
  refine rz_iload_n 11 1 dX9_dig_10 rfl rfl ?_
  refine rz_if_eq 28 14 dX9_dig_11 rfl rfl ?_ ?_
  · exact rz_sub [0] rfl (rX9_dig_28 v d l0)
  · refine rz_iload_n 15 1 dX9_dig_14 rfl rfl ?_
    refine rz_i2l 16 dX9_dig_15 rfl ?_
    refine rz_ldc2 19 dX9_dig_16 rfl cu_X9_446 ?_
    refine rz_ldc2 22 dX9_dig_19 rfl cu_X9_448 ?_
    refine rz_callS 25 dX9_dig_22 rfl (tX9_isIn v (d + 0) (Int32.toInt64 l1) (-99 : Int64) (99 : Int64)) rfl rfl ml_X9_97 sm_X9_isIn in_X9 co_X9_isIn rfl rfl (fun x1 => ?_)
    refine rz_if_ne 34 28 dX9_dig_25 rfl rfl ?_ ?_
    · refine rz_aload_n 35 0 dX9_dig_34 rfl rfl ?_
      refine rz_gR 38 dX9_dig_35 rfl rfl fl_X9_35 (fun x2 => ?_)
      refine rz_iconst 39 dX9_dig_38 rfl ci_1 ?_
      refine rz_iconst 40 dX9_dig_39 rfl ci_0 ?_
      refine rz_sipush 43 dX9_dig_40 rfl cs_999 ?_
      refine rz_aload_n 44 0 dX9_dig_43 rfl rfl ?_
      refine rz_gR 47 dX9_dig_44 rfl rfl fl_X9_35 (fun x3 => ?_)
      refine rz_iconst 48 dX9_dig_47 rfl ci_1 ?_
      refine rz_iald 49 dX9_dig_48 rfl (fun x4 => ?_)
      refine rz_iload_n 50 1 dX9_dig_49 rfl rfl ?_
      refine rz_iadd 51 dX9_dig_50 rfl ?_
      refine rz_mmin 54 dX9_dig_51 rfl ml_X9_390 rfl rfl ?_
      refine rz_mmax 57 dX9_dig_54 rfl ml_X9_321 rfl rfl ?_
      refine rz_iast 58 dX9_dig_57 rfl ?_
      refine rz_aload_n 59 0 dX9_dig_58 rfl rfl ?_
      refine rz_gR 62 dX9_dig_59 rfl rfl fl_X9_35 (fun x5 => ?_)
      refine rz_iconst 63 dX9_dig_62 rfl ci_1 ?_
      refine rz_iald 64 dX9_dig_63 rfl (fun x6 => ?_)
      exact rz_ireturn rfl rfl dX9_dig_64
    · exact rz_sub [0] rfl (rX9_dig_28 v d l0)
theorem tX9_dig (v : mE) (d : Nat) (l0 : Nat) (l1 : Int32) : Mt v yX9_dig cX9_dig 2 (some .int) emI (d + 1) [vR l0, vI l1] (fX9_dig l0 l1) := mt_of rfl rfl (fun h => by cases h) rfl rfl (rX9_dig v d l0 l1)
theorem dX9_led_0 : decode cX9_led 0 = .ok (.aload_n 0, 1) := by decide +kernel
theorem dX9_led_1 : decode cX9_led 1 = .ok (.iconst 0, 1) := by decide +kernel
theorem dX9_led_2 : decode cX9_led 2 = .ok (.putfield 62, 3) := by decide +kernel
theorem dX9_led_5 : decode cX9_led 5 = .ok (.aload_n 0, 1) := by decide +kernel
theorem dX9_led_6 : decode cX9_led 6 = .ok (.iconst 0, 1) := by decide +kernel
theorem dX9_led_7 : decode cX9_led 7 = .ok (.putfield 65, 3) := by decide +kernel
theorem dX9_led_10 : decode cX9_led 10 = .ok (.aload_n 0, 1) := by decide +kernel
theorem dX9_led_11 : decode cX9_led 11 = .ok (.iload_n 1, 1) := by decide +kernel
theorem dX9_led_12 : decode cX9_led 12 = .ok (.invokevirtual 318, 3) := by decide +kernel
theorem dX9_led_15 : decode cX9_led 15 = .ok (.ifCond .ne 9, 3) := by decide +kernel
theorem dX9_led_18 : decode cX9_led 18 = .ok (.aload_n 0, 1) := by decide +kernel
theorem dX9_led_19 : decode cX9_led 19 = .ok (.iconst 2, 1) := by decide +kernel
theorem dX9_led_20 : decode cX9_led 20 = .ok (.invokevirtual 357, 3) := by decide +kernel
theorem dX9_led_23 : decode cX9_led 23 = .ok (.ireturn, 1) := by decide +kernel
theorem dX9_led_24 : decode cX9_led 24 = .ok (.iload_n 2, 1) := by decide +kernel
theorem dX9_led_25 : decode cX9_led 25 = .ok (.i2l, 1) := by decide +kernel
theorem dX9_led_26 : decode cX9_led 26 = .ok (.lconst 0, 1) := by decide +kernel
theorem dX9_led_27 : decode cX9_led 27 = .ok (.aload_n 0, 1) := by decide +kernel
theorem dX9_led_28 : decode cX9_led 28 = .ok (.iload_n 1, 1) := by decide +kernel
theorem dX9_led_29 : decode cX9_led 29 = .ok (.invokevirtual 327, 3) := by decide +kernel
theorem dX9_led_32 : decode cX9_led 32 = .ok (.iconst 1, 1) := by decide +kernel
theorem dX9_led_33 : decode cX9_led 33 = .ok (.isub, 1) := by decide +kernel
theorem dX9_led_34 : decode cX9_led 34 = .ok (.i2l, 1) := by decide +kernel
theorem dX9_led_35 : decode cX9_led 35 = .ok (.invokestatic 97, 3) := by decide +kernel
theorem dX9_led_38 : decode cX9_led 38 = .ok (.ifCond .ne 9, 3) := by decide +kernel
theorem dX9_led_41 : decode cX9_led 41 = .ok (.aload_n 0, 1) := by decide +kernel
theorem dX9_led_42 : decode cX9_led 42 = .ok (.iconst 5, 1) := by decide +kernel
theorem dX9_led_43 : decode cX9_led 43 = .ok (.invokevirtual 357, 3) := by decide +kernel
theorem dX9_led_46 : decode cX9_led 46 = .ok (.ireturn, 1) := by decide +kernel
theorem dX9_led_47 : decode cX9_led 47 = .ok (.iload_n 2, 1) := by decide +kernel
theorem dX9_led_48 : decode cX9_led 48 = .ok (.istore_n 3, 1) := by decide +kernel
theorem dX9_led_49 : decode cX9_led 49 = .ok (.iconst 0, 1) := by decide +kernel
theorem dX9_led_50 : decode cX9_led 50 = .ok (.istore 4, 2) := by decide +kernel
theorem dX9_led_52 : decode cX9_led 52 = .ok (.iload_n 3, 1) := by decide +kernel
theorem dX9_led_53 : decode cX9_led 53 = .ok (.aload_n 0, 1) := by decide +kernel
theorem dX9_led_54 : decode cX9_led 54 = .ok (.getfield 35, 3) := by decide +kernel
theorem dX9_led_57 : decode cX9_led 57 = .ok (.bipush 97, 2) := by decide +kernel
theorem dX9_led_59 : decode cX9_led 59 = .ok (.bipush 8, 2) := by decide +kernel
theorem dX9_led_61 : decode cX9_led 61 = .ok (.iload_n 1, 1) := by decide +kernel
theorem dX9_led_62 : decode cX9_led 62 = .ok (.imul, 1) := by decide +kernel
theorem dX9_led_63 : decode cX9_led 63 = .ok (.iadd, 1) := by decide +kernel
theorem dX9_led_64 : decode cX9_led 64 = .ok (.iload 4, 2) := by decide +kernel
theorem dX9_led_66 : decode cX9_led 66 = .ok (.iadd, 1) := by decide +kernel
theorem dX9_led_67 : decode cX9_led 67 = .ok (.iaload, 1) := by decide +kernel
theorem dX9_led_68 : decode cX9_led 68 = .ok (.if_icmp .lt 27, 3) := by decide +kernel
theorem dX9_led_71 : decode cX9_led 71 = .ok (.iload_n 3, 1) := by decide +kernel
theorem dX9_led_72 : decode cX9_led 72 = .ok (.aload_n 0, 1) := by decide +kernel
theorem dX9_led_73 : decode cX9_led 73 = .ok (.getfield 35, 3) := by decide +kernel
theorem dX9_led_76 : decode cX9_led 76 = .ok (.bipush 97, 2) := by decide +kernel
theorem dX9_led_78 : decode cX9_led 78 = .ok (.bipush 8, 2) := by decide +kernel
theorem dX9_led_80 : decode cX9_led 80 = .ok (.iload_n 1, 1) := by decide +kernel
theorem dX9_led_81 : decode cX9_led 81 = .ok (.imul, 1) := by decide +kernel
theorem dX9_led_82 : decode cX9_led 82 = .ok (.iadd, 1) := by decide +kernel
theorem dX9_led_83 : decode cX9_led 83 = .ok (.iload 4, 2) := by decide +kernel
theorem dX9_led_85 : decode cX9_led 85 = .ok (.iadd, 1) := by decide +kernel
theorem dX9_led_86 : decode cX9_led 86 = .ok (.iaload, 1) := by decide +kernel
theorem dX9_led_87 : decode cX9_led 87 = .ok (.isub, 1) := by decide +kernel
theorem dX9_led_88 : decode cX9_led 88 = .ok (.istore_n 3, 1) := by decide +kernel
theorem dX9_led_89 : decode cX9_led 89 = .ok (.iinc 4 1, 3) := by decide +kernel
theorem dX9_led_92 : decode cX9_led 92 = .ok (.goto (-40), 3) := by decide +kernel
theorem dX9_led_95 : decode cX9_led 95 = .ok (.aload_n 0, 1) := by decide +kernel
theorem dX9_led_96 : decode cX9_led 96 = .ok (.iload_n 1, 1) := by decide +kernel
theorem dX9_led_97 : decode cX9_led 97 = .ok (.iload 4, 2) := by decide +kernel
theorem dX9_led_99 : decode cX9_led 99 = .ok (.invokevirtual 333, 3) := by decide +kernel
theorem dX9_led_102 : decode cX9_led 102 = .ok (.ireturn, 1) := by decide +kernel
def fX9_led_95 (l0 : Nat) (l1 : Int32) (l4 : Int32) : mM Int32 := bCallV 9 l0 (fX9_ageOf l0 l1 l4) (fun x1 => bRet x1)
set_option maxRecDepth 20000 in
theorem rX9_led_95 (v : mE) (d : Nat) (l0 : Nat) (l1 : Int32) (l4 : Int32) : Rz v RX9 cX9_led 5 (some .int) false emI (d + 2) 95 [(0, vR l0), (1, vI l1), (4, vI l4)] [] (fX9_led_95 l0 l1 l4) := by
  unfold fX9_led_95
  refine rz_aload_n 96 0 dX9_led_95 rfl rfl ?_
  refine rz_iload_n 97 1 dX9_led_96 rfl rfl ?_
  refine rz_iload 99 2 dX9_led_97 rfl rfl ?_
  refine rz_callV 102 dX9_led_99 rfl (tX9_ageOf v (d + 1) l0 l1 l4) rfl rfl rfl rfl ml_X9_333 im_X9_ageOf se_X9_X9_ageOf in_X9 co_X9_ageOf rfl rfl (fun x1 => ?_)
  exact rz_ireturn rfl rfl dX9_led_102
def fX9_led_52 : Nat → Nat → Int32 → Int32 → Int32 → mM Int32
  | 0 => fun _ _ _ _ => fun _ => none
  | n + 1 => fun l0 l1 l3 l4 => let r52 := fX9_led_52 n; bGR 9 l0 24 (fun x1 => bAI 11 x1 (((97 : Int32) + ((8 : Int32) * l1)) + l4) (fun x2 => bIf (l3 < x2) (fX9_led_95 l0 l1 l4) (bGR 9 l0 24 (fun x3 => bAI 11 x3 (((97 : Int32) + ((8 : Int32) * l1)) + l4) (fun x4 => r52 l0 l1 (l3 - x4) (l4 + 1))))))
theorem qX9_led_52  (n : Nat) (l0 : Nat) (l1 : Int32) (l3 : Int32) (l4 : Int32) : fX9_led_52 (n + 1) l0 l1 l3 l4 = bGR 9 l0 24 (fun x1 => bAI 11 x1 (((97 : Int32) + ((8 : Int32) * l1)) + l4) (fun x2 => bIf (l3 < x2) (fX9_led_95 l0 l1 l4) (bGR 9 l0 24 (fun x3 => bAI 11 x3 (((97 : Int32) + ((8 : Int32) * l1)) + l4) (fun x4 => (fX9_led_52 n) l0 l1 (l3 - x4) (l4 + 1)))))) := rfl
set_option maxRecDepth 20000 in
theorem rX9_led_52 (v : mE) (d : Nat) : ∀ (n : Nat) (l0 : Nat) (l1 : Int32) (l3 : Int32) (l4 : Int32), Rz v RX9 cX9_led 5 (some .int) false emI (d + 2) 52 [(0, vR l0), (1, vI l1), (3, vI l3), (4, vI l4)] [] (fX9_led_52 n l0 l1 l3 l4)
  | 0, _, _, _, _ => fun _ _ _ hm => by cases hm
  | n + 1, l0, l1, l3, l4 => by
    have h52 := rX9_led_52 v d n
    unfold fX9_led_52
    generalize fX9_led_52 n = r52 at h52 ⊢
    refine rz_iload_n 53 2 dX9_led_52 rfl rfl ?_
    refine rz_aload_n 54 0 dX9_led_53 rfl rfl ?_
    refine rz_gR 57 dX9_led_54 rfl rfl fl_X9_35 (fun x1 => ?_)
    refine rz_bipush 59 dX9_led_57 rfl cb_97 ?_
    refine rz_bipush 61 dX9_led_59 rfl cb_8 ?_
    refine rz_iload_n 62 1 dX9_led_61 rfl rfl ?_
    refine rz_imul 63 dX9_led_62 rfl ?_
    refine rz_iadd 64 dX9_led_63 rfl ?_
    refine rz_iload 66 3 dX9_led_64 rfl rfl ?_
    refine rz_iadd 67 dX9_led_66 rfl ?_
    refine rz_iald 68 dX9_led_67 rfl (fun x2 => ?_)
    refine rz_icmp_lt 95 71 dX9_led_68 rfl rfl ?_ ?_
    · exact rz_sub [0, 1, 3] rfl (rX9_led_95 v d l0 l1 l4)
    · refine rz_iload_n 72 2 dX9_led_71 rfl rfl ?_
      refine rz_aload_n 73 0 dX9_led_72 rfl rfl ?_
      refine rz_gR 76 dX9_led_73 rfl rfl fl_X9_35 (fun x3 => ?_)
      refine rz_bipush 78 dX9_led_76 rfl cb_97 ?_
      refine rz_bipush 80 dX9_led_78 rfl cb_8 ?_
      refine rz_iload_n 81 1 dX9_led_80 rfl rfl ?_
      refine rz_imul 82 dX9_led_81 rfl ?_
      refine rz_iadd 83 dX9_led_82 rfl ?_
      refine rz_iload 85 3 dX9_led_83 rfl rfl ?_
      refine rz_iadd 86 dX9_led_85 rfl ?_
      refine rz_iald 87 dX9_led_86 rfl (fun x4 => ?_)
      refine rz_isub 88 dX9_led_87 rfl ?_
      refine rz_istore_n (lv' := [(3, vI (l3 - x4)), (0, vR l0), (1, vI l1), (4, vI l4)]) 89 dX9_led_88 rfl rfl rfl ?_
      refine rz_iinc (lv' := [(4, vI (l4 + 1)), (3, vI (l3 - x4)), (0, vR l0), (1, vI l1)]) 92 3 dX9_led_89 rfl rfl (cn_1 _) rfl rfl ?_
      refine rz_goto 52 dX9_led_92 rfl ?_
      exact rz_sub [2, 3, 1, 0] rfl (h52 l0 l1 (l3 - x4) (l4 + 1))
def fX9_led (l0 : Nat) (l1 : Int32) (l2 : Int32) : mM Int32 := bPI 9 l0 1 (0 : Int32) (bPI 9 l0 0 (0 : Int32) (bCallV 9 l0 (fX9_isRope l0 l1) (fun x1 => bIf (x1 = 0) (bCallV 9 l0 (fX9_refuse l0 (2 : Int32)) (fun x5 => bRet x5)) (bCallV 9 l0 (fX9_yardsOfRope l0 l1) (fun x2 => bCall (fX9_isIn (Int32.toInt64 l2) (0 : Int64) (Int32.toInt64 (x2 - (1 : Int32)))) (fun x3 => bIf (x3 = 0) (bCallV 9 l0 (fX9_refuse l0 (5 : Int32)) (fun x4 => bRet x4)) (fX9_led_52 fu l0 l1 l2 (0 : Int32))))))))
set_option maxRecDepth 20000 in
theorem rX9_led (v : mE) (d : Nat) (l0 : Nat) (l1 : Int32) (l2 : Int32) : Rz v RX9 cX9_led 5 (some .int) false emI (d + 2) 0 [(0, vR l0), (1, vI l1), (2, vI l2)] [] (fX9_led l0 l1 l2) := by
  unfold fX9_led
  refine rz_aload_n 1 0 dX9_led_0 rfl rfl ?_
  refine rz_iconst 2 dX9_led_1 rfl ci_0 ?_
  refine rz_pI 5 dX9_led_2 rfl rfl rfl rfl fl_X9_62 ?_
  refine rz_aload_n 6 0 dX9_led_5 rfl rfl ?_
  refine rz_iconst 7 dX9_led_6 rfl ci_0 ?_
  refine rz_pI 10 dX9_led_7 rfl rfl rfl rfl fl_X9_65 ?_
  refine rz_aload_n 11 0 dX9_led_10 rfl rfl ?_
  refine rz_iload_n 12 1 dX9_led_11 rfl rfl ?_
  refine rz_callV 15 dX9_led_12 rfl (tX9_isRope v (d + 0) l0 l1) rfl rfl rfl rfl ml_X9_318 im_X9_isRope se_X9_X9_isRope in_X9 co_X9_isRope rfl rfl (fun x1 => ?_)
  refine rz_if_ne 24 18 dX9_led_15 rfl rfl ?_ ?_
  · refine rz_iload_n 25 2 dX9_led_24 rfl rfl ?_
    refine rz_i2l 26 dX9_led_25 rfl ?_
    refine rz_lconst 27 dX9_led_26 rfl cl_0 ?_
    refine rz_aload_n 28 0 dX9_led_27 rfl rfl ?_
    refine rz_iload_n 29 1 dX9_led_28 rfl rfl ?_
    refine rz_callV 32 dX9_led_29 rfl (tX9_yardsOfRope v (d + 1) l0 l1) rfl rfl rfl rfl ml_X9_327 im_X9_yardsOfRope se_X9_X9_yardsOfRope in_X9 co_X9_yardsOfRope rfl rfl (fun x2 => ?_)
    refine rz_iconst 33 dX9_led_32 rfl ci_1 ?_
    refine rz_isub 34 dX9_led_33 rfl ?_
    refine rz_i2l 35 dX9_led_34 rfl ?_
    refine rz_callS 38 dX9_led_35 rfl (tX9_isIn v (d + 1) (Int32.toInt64 l2) (0 : Int64) (Int32.toInt64 (x2 - (1 : Int32)))) rfl rfl ml_X9_97 sm_X9_isIn in_X9 co_X9_isIn rfl rfl (fun x3 => ?_)
    refine rz_if_ne 47 41 dX9_led_38 rfl rfl ?_ ?_
    · refine rz_iload_n 48 2 dX9_led_47 rfl rfl ?_
      refine rz_istore_n (lv' := [(3, vI l2), (0, vR l0), (1, vI l1), (2, vI l2)]) 49 dX9_led_48 rfl rfl rfl ?_
      refine rz_iconst 50 dX9_led_49 rfl ci_0 ?_
      refine rz_istore (lv' := [(4, vI (0 : Int32)), (3, vI l2), (0, vR l0), (1, vI l1), (2, vI l2)]) 52 dX9_led_50 rfl rfl rfl ?_
      exact rz_sub [2, 3, 1, 0] rfl (rX9_led_52 v d fu l0 l1 l2 (0 : Int32))
    · refine rz_aload_n 42 0 dX9_led_41 rfl rfl ?_
      refine rz_iconst 43 dX9_led_42 rfl ci_5 ?_
      refine rz_callV 46 dX9_led_43 rfl (tX9_refuse v (d + 1) l0 (5 : Int32)) rfl rfl rfl rfl ml_X9_357 im_X9_refuse se_X9_X9_refuse in_X9 co_X9_refuse rfl rfl (fun x4 => ?_)
      exact rz_ireturn rfl rfl dX9_led_46
  · refine rz_aload_n 19 0 dX9_led_18 rfl rfl ?_
    refine rz_iconst 20 dX9_led_19 rfl ci_2 ?_
    refine rz_callV 23 dX9_led_20 rfl (tX9_refuse v (d + 1) l0 (2 : Int32)) rfl rfl rfl rfl ml_X9_357 im_X9_refuse se_X9_X9_refuse in_X9 co_X9_refuse rfl rfl (fun x5 => ?_)
    exact rz_ireturn rfl rfl dX9_led_23
theorem tX9_led (v : mE) (d : Nat) (l0 : Nat) (l1 : Int32) (l2 : Int32) : Mt v yX9_led cX9_led 5 (some .int) emI (d + 2) [vR l0, vI l1, vI l2] (fX9_led l0 l1 l2) := mt_of rfl rfl (fun h => by cases h) rfl rfl (rX9_led v d l0 l1 l2)
theorem dX9_share_0 : decode cX9_share 0 = .ok (.aload_n 0, 1) := by decide +kernel
theorem dX9_share_1 : decode cX9_share 1 = .ok (.iconst 0, 1) := by decide +kernel
theorem dX9_share_2 : decode cX9_share 2 = .ok (.putfield 62, 3) := by decide +kernel
theorem dX9_share_5 : decode cX9_share 5 = .ok (.aload_n 0, 1) := by decide +kernel
theorem dX9_share_6 : decode cX9_share 6 = .ok (.iconst 0, 1) := by decide +kernel
theorem dX9_share_7 : decode cX9_share 7 = .ok (.putfield 65, 3) := by decide +kernel
theorem dX9_share_10 : decode cX9_share 10 = .ok (.aload_n 0, 1) := by decide +kernel
theorem dX9_share_11 : decode cX9_share 11 = .ok (.iload_n 1, 1) := by decide +kernel
theorem dX9_share_12 : decode cX9_share 12 = .ok (.invokevirtual 360, 3) := by decide +kernel
theorem dX9_share_15 : decode cX9_share 15 = .ok (.ifCond .ne 9, 3) := by decide +kernel
theorem dX9_share_18 : decode cX9_share 18 = .ok (.aload_n 0, 1) := by decide +kernel
theorem dX9_share_19 : decode cX9_share 19 = .ok (.iconst 2, 1) := by decide +kernel
theorem dX9_share_20 : decode cX9_share 20 = .ok (.invokevirtual 77, 3) := by decide +kernel
theorem dX9_share_23 : decode cX9_share 23 = .ok (.ireturn, 1) := by decide +kernel
theorem dX9_share_24 : decode cX9_share 24 = .ok (.iconst 0, 1) := by decide +kernel
theorem dX9_share_25 : decode cX9_share 25 = .ok (.istore_n 2, 1) := by decide +kernel
theorem dX9_share_26 : decode cX9_share 26 = .ok (.iconst 0, 1) := by decide +kernel
theorem dX9_share_27 : decode cX9_share 27 = .ok (.istore_n 3, 1) := by decide +kernel
theorem dX9_share_28 : decode cX9_share 28 = .ok (.iload_n 3, 1) := by decide +kernel
theorem dX9_share_29 : decode cX9_share 29 = .ok (.bipush 12, 2) := by decide +kernel
theorem dX9_share_31 : decode cX9_share 31 = .ok (.if_icmp .ge 29, 3) := by decide +kernel
theorem dX9_share_34 : decode cX9_share 34 = .ok (.iload_n 2, 1) := by decide +kernel
theorem dX9_share_35 : decode cX9_share 35 = .ok (.aload_n 0, 1) := by decide +kernel
theorem dX9_share_36 : decode cX9_share 36 = .ok (.iload_n 3, 1) := by decide +kernel
theorem dX9_share_37 : decode cX9_share 37 = .ok (.invokevirtual 318, 3) := by decide +kernel
theorem dX9_share_40 : decode cX9_share 40 = .ok (.ifCond .eq 11, 3) := by decide +kernel
theorem dX9_share_43 : decode cX9_share 43 = .ok (.aload_n 0, 1) := by decide +kernel
theorem dX9_share_44 : decode cX9_share 44 = .ok (.iload_n 3, 1) := by decide +kernel
theorem dX9_share_45 : decode cX9_share 45 = .ok (.invokevirtual 327, 3) := by decide +kernel
theorem dX9_share_48 : decode cX9_share 48 = .ok (.goto 4, 3) := by decide +kernel
theorem dX9_share_51 : decode cX9_share 51 = .ok (.iconst 0, 1) := by decide +kernel
theorem dX9_share_52 : decode cX9_share 52 = .ok (.iadd, 1) := by decide +kernel
theorem dX9_share_53 : decode cX9_share 53 = .ok (.istore_n 2, 1) := by decide +kernel
theorem dX9_share_54 : decode cX9_share 54 = .ok (.iinc 3 1, 3) := by decide +kernel
theorem dX9_share_57 : decode cX9_share 57 = .ok (.goto (-29), 3) := by decide +kernel
theorem dX9_share_60 : decode cX9_share 60 = .ok (.iload_n 2, 1) := by decide +kernel
theorem dX9_share_61 : decode cX9_share 61 = .ok (.ifCond .ne 12, 3) := by decide +kernel
theorem dX9_share_64 : decode cX9_share 64 = .ok (.aload_n 0, 1) := by decide +kernel
theorem dX9_share_65 : decode cX9_share 65 = .ok (.bipush 8, 2) := by decide +kernel
theorem dX9_share_67 : decode cX9_share 67 = .ok (.invokevirtual 77, 3) := by decide +kernel
theorem dX9_share_70 : decode cX9_share 70 = .ok (.goto 15, 3) := by decide +kernel
theorem dX9_share_73 : decode cX9_share 73 = .ok (.aload_n 0, 1) := by decide +kernel
theorem dX9_share_74 : decode cX9_share 74 = .ok (.aload_n 0, 1) := by decide +kernel
theorem dX9_share_75 : decode cX9_share 75 = .ok (.iload_n 1, 1) := by decide +kernel
theorem dX9_share_76 : decode cX9_share 76 = .ok (.invokevirtual 363, 3) := by decide +kernel
theorem dX9_share_79 : decode cX9_share 79 = .ok (.i2l, 1) := by decide +kernel
theorem dX9_share_80 : decode cX9_share 80 = .ok (.iload_n 2, 1) := by decide +kernel
theorem dX9_share_81 : decode cX9_share 81 = .ok (.i2l, 1) := by decide +kernel
theorem dX9_share_82 : decode cX9_share 82 = .ok (.invokevirtual 439, 3) := by decide +kernel
theorem dX9_share_85 : decode cX9_share 85 = .ok (.ireturn, 1) := by decide +kernel
def fX9_share_60 (l0 : Nat) (l1 : Int32) (l2 : Int32) : mM Int32 := bIf (l2 = 0) (bCallV 9 l0 (fX9_no l0 (8 : Int32)) (fun x3 => bRetZ x3)) (bCallV 9 l0 (fX9_yardsOwn l0 l1) (fun x1 => bCallV 9 l0 (fX9_fraction l0 (Int32.toInt64 x1) (Int32.toInt64 l2)) (fun x2 => bRetZ x2)))
set_option maxRecDepth 20000 in
theorem rX9_share_60 (v : mE) (d : Nat) (l0 : Nat) (l1 : Int32) (l2 : Int32) : Rz v RX9 cX9_share 4 (some .boolean) false emI (d + 3) 60 [(0, vR l0), (1, vI l1), (2, vI l2)] [] (fX9_share_60 l0 l1 l2) := by
  unfold fX9_share_60
  refine rz_iload_n 61 2 dX9_share_60 rfl rfl ?_
  refine rz_if_ne 73 64 dX9_share_61 rfl rfl ?_ ?_
  · refine rz_aload_n 74 0 dX9_share_73 rfl rfl ?_
    refine rz_aload_n 75 0 dX9_share_74 rfl rfl ?_
    refine rz_iload_n 76 1 dX9_share_75 rfl rfl ?_
    refine rz_callV 79 dX9_share_76 rfl (tX9_yardsOwn v (d + 0) l0 l1) rfl rfl rfl rfl ml_X9_363 im_X9_yardsOwn se_X9_X9_yardsOwn in_X9 co_X9_yardsOwn rfl rfl (fun x1 => ?_)
    refine rz_i2l 80 dX9_share_79 rfl ?_
    refine rz_iload_n 81 2 dX9_share_80 rfl rfl ?_
    refine rz_i2l 82 dX9_share_81 rfl ?_
    refine rz_callV 85 dX9_share_82 rfl (tX9_fraction v (d + 1) l0 (Int32.toInt64 x1) (Int32.toInt64 l2)) rfl rfl rfl rfl ml_X9_439 im_X9_fraction se_X9_X9_fraction in_X9 co_X9_fraction rfl rfl (fun x2 => ?_)
    exact rz_zreturn rfl rfl dX9_share_85
  · refine rz_aload_n 65 0 dX9_share_64 rfl rfl ?_
    refine rz_bipush 67 dX9_share_65 rfl cb_8 ?_
    refine rz_callV 70 dX9_share_67 rfl (tX9_no v (d + 2) l0 (8 : Int32)) rfl rfl rfl rfl ml_X9_77 im_X9_no se_X9_X9_no in_X9 co_X9_no rfl rfl (fun x3 => ?_)
    refine rz_goto 85 dX9_share_70 rfl ?_
    exact rz_zreturn rfl rfl dX9_share_85
def fX9_share_52 (r28 : Nat → Int32 → Int32 → Int32 → mM Int32) (l0 : Nat) (l1 : Int32) (l3 : Int32) (s0 : Int32) (s1 : Int32) : mM Int32 := r28 l0 l1 (s1 + s0) (l3 + 1)
set_option maxRecDepth 20000 in
theorem rX9_share_52 (v : mE) (d : Nat) (r28 : Nat → Int32 → Int32 → Int32 → mM Int32) (h28 : ∀ (y0 : Nat) (y1 : Int32) (y2 : Int32) (y3 : Int32), Rz v RX9 cX9_share 4 (some .boolean) false emI (d + 3) 28 [(0, vR y0), (1, vI y1), (2, vI y2), (3, vI y3)] [] (r28 y0 y1 y2 y3)) (l0 : Nat) (l1 : Int32) (l3 : Int32) (s0 : Int32) (s1 : Int32) : Rz v RX9 cX9_share 4 (some .boolean) false emI (d + 3) 52 [(0, vR l0), (1, vI l1), (3, vI l3)] [vI s0, vI s1] (fX9_share_52 r28 l0 l1 l3 s0 s1) := by
  unfold fX9_share_52
  refine rz_iadd 53 dX9_share_52 rfl ?_
  refine rz_istore_n (lv' := [(2, vI (s1 + s0)), (0, vR l0), (1, vI l1), (3, vI l3)]) 54 dX9_share_53 rfl rfl rfl ?_
  refine rz_iinc (lv' := [(3, vI (l3 + 1)), (2, vI (s1 + s0)), (0, vR l0), (1, vI l1)]) 57 3 dX9_share_54 rfl rfl (cn_1 _) rfl rfl ?_
  refine rz_goto 28 dX9_share_57 rfl ?_
  exact rz_sub [2, 3, 1, 0] rfl (h28 l0 l1 (s1 + s0) (l3 + 1))
def fX9_share_28 : Nat → Nat → Int32 → Int32 → Int32 → mM Int32
  | 0 => fun _ _ _ _ => fun _ => none
  | n + 1 => fun l0 l1 l2 l3 => let r28 := fX9_share_28 n; bIf ((12 : Int32) ≤ l3) (fX9_share_60 l0 l1 l2) (bCallV 9 l0 (fX9_isRope l0 l3) (fun x1 => bIf (x1 = 0) (fX9_share_52 r28 l0 l1 l3 (0 : Int32) l2) (bCallV 9 l0 (fX9_yardsOfRope l0 l3) (fun x2 => fX9_share_52 r28 l0 l1 l3 x2 l2))))
theorem qX9_share_28  (n : Nat) (l0 : Nat) (l1 : Int32) (l2 : Int32) (l3 : Int32) : fX9_share_28 (n + 1) l0 l1 l2 l3 = bIf ((12 : Int32) ≤ l3) (fX9_share_60 l0 l1 l2) (bCallV 9 l0 (fX9_isRope l0 l3) (fun x1 => bIf (x1 = 0) (fX9_share_52 (fX9_share_28 n) l0 l1 l3 (0 : Int32) l2) (bCallV 9 l0 (fX9_yardsOfRope l0 l3) (fun x2 => fX9_share_52 (fX9_share_28 n) l0 l1 l3 x2 l2)))) := rfl
set_option maxRecDepth 20000 in
theorem rX9_share_28 (v : mE) (d : Nat) : ∀ (n : Nat) (l0 : Nat) (l1 : Int32) (l2 : Int32) (l3 : Int32), Rz v RX9 cX9_share 4 (some .boolean) false emI (d + 3) 28 [(0, vR l0), (1, vI l1), (2, vI l2), (3, vI l3)] [] (fX9_share_28 n l0 l1 l2 l3)
  | 0, _, _, _, _ => fun _ _ _ hm => by cases hm
  | n + 1, l0, l1, l2, l3 => by
    have h28 := rX9_share_28 v d n
    unfold fX9_share_28
    generalize fX9_share_28 n = r28 at h28 ⊢
    refine rz_iload_n 29 3 dX9_share_28 rfl rfl ?_
    refine rz_bipush 31 dX9_share_29 rfl cb_12 ?_
    refine rz_icmp_ge 60 34 dX9_share_31 rfl rfl ?_ ?_
    · exact rz_sub [0, 1, 2] rfl (rX9_share_60 v d l0 l1 l2)
    · refine rz_iload_n 35 2 dX9_share_34 rfl rfl ?_
      refine rz_aload_n 36 0 dX9_share_35 rfl rfl ?_
      refine rz_iload_n 37 3 dX9_share_36 rfl rfl ?_
      refine rz_callV 40 dX9_share_37 rfl (tX9_isRope v (d + 1) l0 l3) rfl rfl rfl rfl ml_X9_318 im_X9_isRope se_X9_X9_isRope in_X9 co_X9_isRope rfl rfl (fun x1 => ?_)
      refine rz_if_eq 51 43 dX9_share_40 rfl rfl ?_ ?_
      · refine rz_iconst 52 dX9_share_51 rfl ci_0 ?_
        exact rz_sub [0, 1, 3] rfl (rX9_share_52 v d r28 h28 l0 l1 l3 (0 : Int32) l2)
      · refine rz_aload_n 44 0 dX9_share_43 rfl rfl ?_
        refine rz_iload_n 45 3 dX9_share_44 rfl rfl ?_
        refine rz_callV 48 dX9_share_45 rfl (tX9_yardsOfRope v (d + 2) l0 l3) rfl rfl rfl rfl ml_X9_327 im_X9_yardsOfRope se_X9_X9_yardsOfRope in_X9 co_X9_yardsOfRope rfl rfl (fun x2 => ?_)
        refine rz_goto 52 dX9_share_48 rfl ?_
        exact rz_sub [0, 1, 3] rfl (rX9_share_52 v d r28 h28 l0 l1 l3 x2 l2)
def fX9_share (l0 : Nat) (l1 : Int32) : mM Int32 := bPI 9 l0 1 (0 : Int32) (bPI 9 l0 0 (0 : Int32) (bCallV 9 l0 (fX9_isPerson l0 l1) (fun x1 => bIf (x1 = 0) (bCallV 9 l0 (fX9_no l0 (2 : Int32)) (fun x2 => bRetZ x2)) (fX9_share_28 fu l0 l1 (0 : Int32) (0 : Int32)))))
set_option maxRecDepth 20000 in
theorem rX9_share (v : mE) (d : Nat) (l0 : Nat) (l1 : Int32) : Rz v RX9 cX9_share 4 (some .boolean) false emI (d + 3) 0 [(0, vR l0), (1, vI l1)] [] (fX9_share l0 l1) := by
  unfold fX9_share
  refine rz_aload_n 1 0 dX9_share_0 rfl rfl ?_
  refine rz_iconst 2 dX9_share_1 rfl ci_0 ?_
  refine rz_pI 5 dX9_share_2 rfl rfl rfl rfl fl_X9_62 ?_
  refine rz_aload_n 6 0 dX9_share_5 rfl rfl ?_
  refine rz_iconst 7 dX9_share_6 rfl ci_0 ?_
  refine rz_pI 10 dX9_share_7 rfl rfl rfl rfl fl_X9_65 ?_
  refine rz_aload_n 11 0 dX9_share_10 rfl rfl ?_
  refine rz_iload_n 12 1 dX9_share_11 rfl rfl ?_
  refine rz_callV 15 dX9_share_12 rfl (tX9_isPerson v (d + 1) l0 l1) rfl rfl rfl rfl ml_X9_360 im_X9_isPerson se_X9_X9_isPerson in_X9 co_X9_isPerson rfl rfl (fun x1 => ?_)
  refine rz_if_ne 24 18 dX9_share_15 rfl rfl ?_ ?_
  · refine rz_iconst 25 dX9_share_24 rfl ci_0 ?_
    refine rz_istore_n (lv' := [(2, vI (0 : Int32)), (0, vR l0), (1, vI l1)]) 26 dX9_share_25 rfl rfl rfl ?_
    refine rz_iconst 27 dX9_share_26 rfl ci_0 ?_
    refine rz_istore_n (lv' := [(3, vI (0 : Int32)), (2, vI (0 : Int32)), (0, vR l0), (1, vI l1)]) 28 dX9_share_27 rfl rfl rfl ?_
    exact rz_sub [2, 3, 1, 0] rfl (rX9_share_28 v d fu l0 l1 (0 : Int32) (0 : Int32))
  · refine rz_aload_n 19 0 dX9_share_18 rfl rfl ?_
    refine rz_iconst 20 dX9_share_19 rfl ci_2 ?_
    refine rz_callV 23 dX9_share_20 rfl (tX9_no v (d + 2) l0 (2 : Int32)) rfl rfl rfl rfl ml_X9_77 im_X9_no se_X9_X9_no in_X9 co_X9_no rfl rfl (fun x2 => ?_)
    exact rz_zreturn rfl rfl dX9_share_23
theorem tX9_share (v : mE) (d : Nat) (l0 : Nat) (l1 : Int32) : Mt v yX9_share cX9_share 4 (some .boolean) emI (d + 3) [vR l0, vI l1] (fX9_share l0 l1) := mt_of rfl rfl (fun h => by cases h) rfl rfl (rX9_share v d l0 l1)
theorem dX9_heirloom_0 : decode cX9_heirloom 0 = .ok (.aload_n 0, 1) := by decide +kernel
theorem dX9_heirloom_1 : decode cX9_heirloom 1 = .ok (.iconst 0, 1) := by decide +kernel
theorem dX9_heirloom_2 : decode cX9_heirloom 2 = .ok (.putfield 62, 3) := by decide +kernel
theorem dX9_heirloom_5 : decode cX9_heirloom 5 = .ok (.aload_n 0, 1) := by decide +kernel
theorem dX9_heirloom_6 : decode cX9_heirloom 6 = .ok (.iconst 0, 1) := by decide +kernel
theorem dX9_heirloom_7 : decode cX9_heirloom 7 = .ok (.putfield 65, 3) := by decide +kernel
theorem dX9_heirloom_10 : decode cX9_heirloom 10 = .ok (.aload_n 0, 1) := by decide +kernel
theorem dX9_heirloom_11 : decode cX9_heirloom 11 = .ok (.iload_n 1, 1) := by decide +kernel
theorem dX9_heirloom_12 : decode cX9_heirloom 12 = .ok (.invokevirtual 360, 3) := by decide +kernel
theorem dX9_heirloom_15 : decode cX9_heirloom 15 = .ok (.ifCond .ne 9, 3) := by decide +kernel
theorem dX9_heirloom_18 : decode cX9_heirloom 18 = .ok (.aload_n 0, 1) := by decide +kernel
theorem dX9_heirloom_19 : decode cX9_heirloom 19 = .ok (.iconst 2, 1) := by decide +kernel
theorem dX9_heirloom_20 : decode cX9_heirloom 20 = .ok (.invokevirtual 357, 3) := by decide +kernel
theorem dX9_heirloom_23 : decode cX9_heirloom 23 = .ok (.ireturn, 1) := by decide +kernel
theorem dX9_heirloom_24 : decode cX9_heirloom 24 = .ok (.iconst (-1), 1) := by decide +kernel
theorem dX9_heirloom_25 : decode cX9_heirloom 25 = .ok (.istore_n 2, 1) := by decide +kernel
theorem dX9_heirloom_26 : decode cX9_heirloom 26 = .ok (.iconst 0, 1) := by decide +kernel
theorem dX9_heirloom_27 : decode cX9_heirloom 27 = .ok (.istore_n 3, 1) := by decide +kernel
theorem dX9_heirloom_28 : decode cX9_heirloom 28 = .ok (.iload_n 3, 1) := by decide +kernel
theorem dX9_heirloom_29 : decode cX9_heirloom 29 = .ok (.bipush 12, 2) := by decide +kernel
theorem dX9_heirloom_31 : decode cX9_heirloom 31 = .ok (.if_icmp .ge 49, 3) := by decide +kernel
theorem dX9_heirloom_34 : decode cX9_heirloom 34 = .ok (.aload_n 0, 1) := by decide +kernel
theorem dX9_heirloom_35 : decode cX9_heirloom 35 = .ok (.iload_n 3, 1) := by decide +kernel
theorem dX9_heirloom_36 : decode cX9_heirloom 36 = .ok (.invokevirtual 318, 3) := by decide +kernel
theorem dX9_heirloom_39 : decode cX9_heirloom 39 = .ok (.ifCond .eq 35, 3) := by decide +kernel
theorem dX9_heirloom_42 : decode cX9_heirloom 42 = .ok (.aload_n 0, 1) := by decide +kernel
theorem dX9_heirloom_43 : decode cX9_heirloom 43 = .ok (.getfield 35, 3) := by decide +kernel
theorem dX9_heirloom_46 : decode cX9_heirloom 46 = .ok (.bipush 37, 2) := by decide +kernel
theorem dX9_heirloom_48 : decode cX9_heirloom 48 = .ok (.iload_n 3, 1) := by decide +kernel
theorem dX9_heirloom_49 : decode cX9_heirloom 49 = .ok (.iadd, 1) := by decide +kernel
theorem dX9_heirloom_50 : decode cX9_heirloom 50 = .ok (.iaload, 1) := by decide +kernel
theorem dX9_heirloom_51 : decode cX9_heirloom 51 = .ok (.iload_n 1, 1) := by decide +kernel
theorem dX9_heirloom_52 : decode cX9_heirloom 52 = .ok (.if_icmp .ne 22, 3) := by decide +kernel
theorem dX9_heirloom_55 : decode cX9_heirloom 55 = .ok (.iload_n 2, 1) := by decide +kernel
theorem dX9_heirloom_56 : decode cX9_heirloom 56 = .ok (.ifCond .lt 16, 3) := by decide +kernel
theorem dX9_heirloom_59 : decode cX9_heirloom 59 = .ok (.aload_n 0, 1) := by decide +kernel
theorem dX9_heirloom_60 : decode cX9_heirloom 60 = .ok (.iload_n 3, 1) := by decide +kernel
theorem dX9_heirloom_61 : decode cX9_heirloom 61 = .ok (.invokevirtual 372, 3) := by decide +kernel
theorem dX9_heirloom_64 : decode cX9_heirloom 64 = .ok (.aload_n 0, 1) := by decide +kernel
theorem dX9_heirloom_65 : decode cX9_heirloom 65 = .ok (.iload_n 2, 1) := by decide +kernel
theorem dX9_heirloom_66 : decode cX9_heirloom 66 = .ok (.invokevirtual 372, 3) := by decide +kernel
theorem dX9_heirloom_69 : decode cX9_heirloom 69 = .ok (.if_icmp .le 5, 3) := by decide +kernel
theorem dX9_heirloom_72 : decode cX9_heirloom 72 = .ok (.iload_n 3, 1) := by decide +kernel
theorem dX9_heirloom_73 : decode cX9_heirloom 73 = .ok (.istore_n 2, 1) := by decide +kernel
theorem dX9_heirloom_74 : decode cX9_heirloom 74 = .ok (.iinc 3 1, 3) := by decide +kernel
theorem dX9_heirloom_77 : decode cX9_heirloom 77 = .ok (.goto (-49), 3) := by decide +kernel
theorem dX9_heirloom_80 : decode cX9_heirloom 80 = .ok (.iload_n 2, 1) := by decide +kernel
theorem dX9_heirloom_81 : decode cX9_heirloom 81 = .ok (.ifCond .ge 12, 3) := by decide +kernel
theorem dX9_heirloom_84 : decode cX9_heirloom 84 = .ok (.aload_n 0, 1) := by decide +kernel
theorem dX9_heirloom_85 : decode cX9_heirloom 85 = .ok (.bipush 8, 2) := by decide +kernel
theorem dX9_heirloom_87 : decode cX9_heirloom 87 = .ok (.invokevirtual 357, 3) := by decide +kernel
theorem dX9_heirloom_90 : decode cX9_heirloom 90 = .ok (.goto 4, 3) := by decide +kernel
theorem dX9_heirloom_93 : decode cX9_heirloom 93 = .ok (.iload_n 2, 1) := by decide +kernel
theorem dX9_heirloom_94 : decode cX9_heirloom 94 = .ok (.ireturn, 1) := by decide +kernel
def fX9_heirloom_80 (l0 : Nat) (l2 : Int32) : mM Int32 := bIf (0 ≤ l2) (bRet l2) (bCallV 9 l0 (fX9_refuse l0 (8 : Int32)) (fun x1 => bRet x1))
set_option maxRecDepth 20000 in
theorem rX9_heirloom_80 (v : mE) (d : Nat) (l0 : Nat) (l2 : Int32) : Rz v RX9 cX9_heirloom 4 (some .int) false emI (d + 2) 80 [(0, vR l0), (2, vI l2)] [] (fX9_heirloom_80 l0 l2) := by
  unfold fX9_heirloom_80
  refine rz_iload_n 81 1 dX9_heirloom_80 rfl rfl ?_
  refine rz_if_ge 93 84 dX9_heirloom_81 rfl rfl ?_ ?_
  · refine rz_iload_n 94 1 dX9_heirloom_93 rfl rfl ?_
    exact rz_ireturn rfl rfl dX9_heirloom_94
  · refine rz_aload_n 85 0 dX9_heirloom_84 rfl rfl ?_
    refine rz_bipush 87 dX9_heirloom_85 rfl cb_8 ?_
    refine rz_callV 90 dX9_heirloom_87 rfl (tX9_refuse v (d + 1) l0 (8 : Int32)) rfl rfl rfl rfl ml_X9_357 im_X9_refuse se_X9_X9_refuse in_X9 co_X9_refuse rfl rfl (fun x1 => ?_)
    refine rz_goto 94 dX9_heirloom_90 rfl ?_
    exact rz_ireturn rfl rfl dX9_heirloom_94
def fX9_heirloom_72 (r28 : Nat → Int32 → Int32 → Int32 → mM Int32) (l0 : Nat) (l1 : Int32) (l3 : Int32) : mM Int32 := r28 l0 l1 l3 (l3 + 1)
set_option maxRecDepth 20000 in
theorem rX9_heirloom_72 (v : mE) (d : Nat) (r28 : Nat → Int32 → Int32 → Int32 → mM Int32) (h28 : ∀ (y0 : Nat) (y1 : Int32) (y2 : Int32) (y3 : Int32), Rz v RX9 cX9_heirloom 4 (some .int) false emI (d + 2) 28 [(0, vR y0), (1, vI y1), (2, vI y2), (3, vI y3)] [] (r28 y0 y1 y2 y3)) (l0 : Nat) (l1 : Int32) (l3 : Int32) : Rz v RX9 cX9_heirloom 4 (some .int) false emI (d + 2) 72 [(0, vR l0), (1, vI l1), (3, vI l3)] [] (fX9_heirloom_72 r28 l0 l1 l3) := by
  unfold fX9_heirloom_72
  refine rz_iload_n 73 2 dX9_heirloom_72 rfl rfl ?_
  refine rz_istore_n (lv' := [(2, vI l3), (0, vR l0), (1, vI l1), (3, vI l3)]) 74 dX9_heirloom_73 rfl rfl rfl ?_
  refine rz_iinc (lv' := [(3, vI (l3 + 1)), (2, vI l3), (0, vR l0), (1, vI l1)]) 77 3 dX9_heirloom_74 rfl rfl (cn_1 _) rfl rfl ?_
  refine rz_goto 28 dX9_heirloom_77 rfl ?_
  exact rz_sub [2, 3, 1, 0] rfl (h28 l0 l1 l3 (l3 + 1))
def fX9_heirloom_28 : Nat → Nat → Int32 → Int32 → Int32 → mM Int32
  | 0 => fun _ _ _ _ => fun _ => none
  | n + 1 => fun l0 l1 l2 l3 => let r28 := fX9_heirloom_28 n; bIf ((12 : Int32) ≤ l3) (fX9_heirloom_80 l0 l2) (bCallV 9 l0 (fX9_isRope l0 l3) (fun x1 => bIf (x1 = 0) (r28 l0 l1 l2 (l3 + 1)) (bGR 9 l0 24 (fun x2 => bAI 11 x2 ((37 : Int32) + l3) (fun x3 => bIf (x3 = l1) (bIf (l2 < 0) (fX9_heirloom_72 r28 l0 l1 l3) (bCallV 9 l0 (fX9_oldest l0 l3) (fun x4 => bCallV 9 l0 (fX9_oldest l0 l2) (fun x5 => bIf (x4 ≤ x5) (r28 l0 l1 l2 (l3 + 1)) (fX9_heirloom_72 r28 l0 l1 l3))))) (r28 l0 l1 l2 (l3 + 1)))))))
theorem qX9_heirloom_28  (n : Nat) (l0 : Nat) (l1 : Int32) (l2 : Int32) (l3 : Int32) : fX9_heirloom_28 (n + 1) l0 l1 l2 l3 = bIf ((12 : Int32) ≤ l3) (fX9_heirloom_80 l0 l2) (bCallV 9 l0 (fX9_isRope l0 l3) (fun x1 => bIf (x1 = 0) ((fX9_heirloom_28 n) l0 l1 l2 (l3 + 1)) (bGR 9 l0 24 (fun x2 => bAI 11 x2 ((37 : Int32) + l3) (fun x3 => bIf (x3 = l1) (bIf (l2 < 0) (fX9_heirloom_72 (fX9_heirloom_28 n) l0 l1 l3) (bCallV 9 l0 (fX9_oldest l0 l3) (fun x4 => bCallV 9 l0 (fX9_oldest l0 l2) (fun x5 => bIf (x4 ≤ x5) ((fX9_heirloom_28 n) l0 l1 l2 (l3 + 1)) (fX9_heirloom_72 (fX9_heirloom_28 n) l0 l1 l3))))) ((fX9_heirloom_28 n) l0 l1 l2 (l3 + 1))))))) := rfl
set_option maxRecDepth 20000 in
theorem rX9_heirloom_28 (v : mE) (d : Nat) : ∀ (n : Nat) (l0 : Nat) (l1 : Int32) (l2 : Int32) (l3 : Int32), Rz v RX9 cX9_heirloom 4 (some .int) false emI (d + 2) 28 [(0, vR l0), (1, vI l1), (2, vI l2), (3, vI l3)] [] (fX9_heirloom_28 n l0 l1 l2 l3)
  | 0, _, _, _, _ => fun _ _ _ hm => by cases hm
  | n + 1, l0, l1, l2, l3 => by
    have h28 := rX9_heirloom_28 v d n
    unfold fX9_heirloom_28
    generalize fX9_heirloom_28 n = r28 at h28 ⊢
    refine rz_iload_n 29 3 dX9_heirloom_28 rfl rfl ?_
    refine rz_bipush 31 dX9_heirloom_29 rfl cb_12 ?_
    refine rz_icmp_ge 80 34 dX9_heirloom_31 rfl rfl ?_ ?_
    · exact rz_sub [0, 2] rfl (rX9_heirloom_80 v d l0 l2)
    · refine rz_aload_n 35 0 dX9_heirloom_34 rfl rfl ?_
      refine rz_iload_n 36 3 dX9_heirloom_35 rfl rfl ?_
      refine rz_callV 39 dX9_heirloom_36 rfl (tX9_isRope v (d + 0) l0 l3) rfl rfl rfl rfl ml_X9_318 im_X9_isRope se_X9_X9_isRope in_X9 co_X9_isRope rfl rfl (fun x1 => ?_)
      refine rz_if_eq 74 42 dX9_heirloom_39 rfl rfl ?_ ?_
      · refine rz_iinc (lv' := [(3, vI (l3 + 1)), (0, vR l0), (1, vI l1), (2, vI l2)]) 77 3 dX9_heirloom_74 rfl rfl (cn_1 _) rfl rfl ?_
        refine rz_goto 28 dX9_heirloom_77 rfl ?_
        exact rz_sub [1, 2, 3, 0] rfl (h28 l0 l1 l2 (l3 + 1))
      · refine rz_aload_n 43 0 dX9_heirloom_42 rfl rfl ?_
        refine rz_gR 46 dX9_heirloom_43 rfl rfl fl_X9_35 (fun x2 => ?_)
        refine rz_bipush 48 dX9_heirloom_46 rfl cb_37 ?_
        refine rz_iload_n 49 3 dX9_heirloom_48 rfl rfl ?_
        refine rz_iadd 50 dX9_heirloom_49 rfl ?_
        refine rz_iald 51 dX9_heirloom_50 rfl (fun x3 => ?_)
        refine rz_iload_n 52 1 dX9_heirloom_51 rfl rfl ?_
        refine rz_icmp_ne 74 55 dX9_heirloom_52 rfl rfl ?_ ?_
        · refine rz_iinc (lv' := [(3, vI (l3 + 1)), (0, vR l0), (1, vI l1), (2, vI l2)]) 77 3 dX9_heirloom_74 rfl rfl (cn_1 _) rfl rfl ?_
          refine rz_goto 28 dX9_heirloom_77 rfl ?_
          exact rz_sub [1, 2, 3, 0] rfl (h28 l0 l1 l2 (l3 + 1))
        · refine rz_iload_n 56 2 dX9_heirloom_55 rfl rfl ?_
          refine rz_if_lt 72 59 dX9_heirloom_56 rfl rfl ?_ ?_
          · exact rz_sub [0, 1, 3] rfl (rX9_heirloom_72 v d r28 h28 l0 l1 l3)
          · refine rz_aload_n 60 0 dX9_heirloom_59 rfl rfl ?_
            refine rz_iload_n 61 3 dX9_heirloom_60 rfl rfl ?_
            refine rz_callV 64 dX9_heirloom_61 rfl (tX9_oldest v (d + 0) l0 l3) rfl rfl rfl rfl ml_X9_372 im_X9_oldest se_X9_X9_oldest in_X9 co_X9_oldest rfl rfl (fun x4 => ?_)
            refine rz_aload_n 65 0 dX9_heirloom_64 rfl rfl ?_
            refine rz_iload_n 66 2 dX9_heirloom_65 rfl rfl ?_
            refine rz_callV 69 dX9_heirloom_66 rfl (tX9_oldest v (d + 0) l0 l2) rfl rfl rfl rfl ml_X9_372 im_X9_oldest se_X9_X9_oldest in_X9 co_X9_oldest rfl rfl (fun x5 => ?_)
            refine rz_icmp_le 74 72 dX9_heirloom_69 rfl rfl ?_ ?_
            · refine rz_iinc (lv' := [(3, vI (l3 + 1)), (0, vR l0), (1, vI l1), (2, vI l2)]) 77 3 dX9_heirloom_74 rfl rfl (cn_1 _) rfl rfl ?_
              refine rz_goto 28 dX9_heirloom_77 rfl ?_
              exact rz_sub [1, 2, 3, 0] rfl (h28 l0 l1 l2 (l3 + 1))
            · exact rz_sub [0, 1, 3] rfl (rX9_heirloom_72 v d r28 h28 l0 l1 l3)
def fX9_heirloom (l0 : Nat) (l1 : Int32) : mM Int32 := bPI 9 l0 1 (0 : Int32) (bPI 9 l0 0 (0 : Int32) (bCallV 9 l0 (fX9_isPerson l0 l1) (fun x1 => bIf (x1 = 0) (bCallV 9 l0 (fX9_refuse l0 (2 : Int32)) (fun x2 => bRet x2)) (fX9_heirloom_28 fu l0 l1 (-1 : Int32) (0 : Int32)))))
set_option maxRecDepth 20000 in
theorem rX9_heirloom (v : mE) (d : Nat) (l0 : Nat) (l1 : Int32) : Rz v RX9 cX9_heirloom 4 (some .int) false emI (d + 2) 0 [(0, vR l0), (1, vI l1)] [] (fX9_heirloom l0 l1) := by
  unfold fX9_heirloom
  refine rz_aload_n 1 0 dX9_heirloom_0 rfl rfl ?_
  refine rz_iconst 2 dX9_heirloom_1 rfl ci_0 ?_
  refine rz_pI 5 dX9_heirloom_2 rfl rfl rfl rfl fl_X9_62 ?_
  refine rz_aload_n 6 0 dX9_heirloom_5 rfl rfl ?_
  refine rz_iconst 7 dX9_heirloom_6 rfl ci_0 ?_
  refine rz_pI 10 dX9_heirloom_7 rfl rfl rfl rfl fl_X9_65 ?_
  refine rz_aload_n 11 0 dX9_heirloom_10 rfl rfl ?_
  refine rz_iload_n 12 1 dX9_heirloom_11 rfl rfl ?_
  refine rz_callV 15 dX9_heirloom_12 rfl (tX9_isPerson v (d + 0) l0 l1) rfl rfl rfl rfl ml_X9_360 im_X9_isPerson se_X9_X9_isPerson in_X9 co_X9_isPerson rfl rfl (fun x1 => ?_)
  refine rz_if_ne 24 18 dX9_heirloom_15 rfl rfl ?_ ?_
  · refine rz_iconst 25 dX9_heirloom_24 rfl ci_m1 ?_
    refine rz_istore_n (lv' := [(2, vI (-1 : Int32)), (0, vR l0), (1, vI l1)]) 26 dX9_heirloom_25 rfl rfl rfl ?_
    refine rz_iconst 27 dX9_heirloom_26 rfl ci_0 ?_
    refine rz_istore_n (lv' := [(3, vI (0 : Int32)), (2, vI (-1 : Int32)), (0, vR l0), (1, vI l1)]) 28 dX9_heirloom_27 rfl rfl rfl ?_
    exact rz_sub [2, 3, 1, 0] rfl (rX9_heirloom_28 v d fu l0 l1 (-1 : Int32) (0 : Int32))
  · refine rz_aload_n 19 0 dX9_heirloom_18 rfl rfl ?_
    refine rz_iconst 20 dX9_heirloom_19 rfl ci_2 ?_
    refine rz_callV 23 dX9_heirloom_20 rfl (tX9_refuse v (d + 1) l0 (2 : Int32)) rfl rfl rfl rfl ml_X9_357 im_X9_refuse se_X9_X9_refuse in_X9 co_X9_refuse rfl rfl (fun x2 => ?_)
    exact rz_ireturn rfl rfl dX9_heirloom_23
theorem tX9_heirloom (v : mE) (d : Nat) (l0 : Nat) (l1 : Int32) : Mt v yX9_heirloom cX9_heirloom 4 (some .int) emI (d + 2) [vR l0, vI l1] (fX9_heirloom l0 l1) := mt_of rfl rfl (fun h => by cases h) rfl rfl (rX9_heirloom v d l0 l1)
theorem dX9_yardsOf_0 : decode cX9_yardsOf 0 = .ok (.aload_n 0, 1) := by decide +kernel
theorem dX9_yardsOf_1 : decode cX9_yardsOf 1 = .ok (.iconst 0, 1) := by decide +kernel
theorem dX9_yardsOf_2 : decode cX9_yardsOf 2 = .ok (.putfield 62, 3) := by decide +kernel
theorem dX9_yardsOf_5 : decode cX9_yardsOf 5 = .ok (.aload_n 0, 1) := by decide +kernel
theorem dX9_yardsOf_6 : decode cX9_yardsOf 6 = .ok (.iconst 0, 1) := by decide +kernel
theorem dX9_yardsOf_7 : decode cX9_yardsOf 7 = .ok (.putfield 65, 3) := by decide +kernel
theorem dX9_yardsOf_10 : decode cX9_yardsOf 10 = .ok (.iload_n 1, 1) := by decide +kernel
theorem dX9_yardsOf_11 : decode cX9_yardsOf 11 = .ok (.ifCond .lt 8, 3) := by decide +kernel
theorem dX9_yardsOf_14 : decode cX9_yardsOf 14 = .ok (.iload_n 2, 1) := by decide +kernel
theorem dX9_yardsOf_15 : decode cX9_yardsOf 15 = .ok (.iload_n 1, 1) := by decide +kernel
theorem dX9_yardsOf_16 : decode cX9_yardsOf 16 = .ok (.if_icmp .ge 9, 3) := by decide +kernel
theorem dX9_yardsOf_19 : decode cX9_yardsOf 19 = .ok (.aload_n 0, 1) := by decide +kernel
theorem dX9_yardsOf_20 : decode cX9_yardsOf 20 = .ok (.iconst 5, 1) := by decide +kernel
theorem dX9_yardsOf_21 : decode cX9_yardsOf 21 = .ok (.invokevirtual 357, 3) := by decide +kernel
theorem dX9_yardsOf_24 : decode cX9_yardsOf 24 = .ok (.ireturn, 1) := by decide +kernel
theorem dX9_yardsOf_25 : decode cX9_yardsOf 25 = .ok (.iconst 0, 1) := by decide +kernel
theorem dX9_yardsOf_26 : decode cX9_yardsOf 26 = .ok (.istore_n 3, 1) := by decide +kernel
theorem dX9_yardsOf_27 : decode cX9_yardsOf 27 = .ok (.iconst 0, 1) := by decide +kernel
theorem dX9_yardsOf_28 : decode cX9_yardsOf 28 = .ok (.istore 4, 2) := by decide +kernel
theorem dX9_yardsOf_30 : decode cX9_yardsOf 30 = .ok (.iload 4, 2) := by decide +kernel
theorem dX9_yardsOf_32 : decode cX9_yardsOf 32 = .ok (.bipush 12, 2) := by decide +kernel
theorem dX9_yardsOf_34 : decode cX9_yardsOf 34 = .ok (.if_icmp .ge 75, 3) := by decide +kernel
theorem dX9_yardsOf_37 : decode cX9_yardsOf 37 = .ok (.iconst 0, 1) := by decide +kernel
theorem dX9_yardsOf_38 : decode cX9_yardsOf 38 = .ok (.istore 5, 2) := by decide +kernel
theorem dX9_yardsOf_40 : decode cX9_yardsOf 40 = .ok (.iload 5, 2) := by decide +kernel
theorem dX9_yardsOf_42 : decode cX9_yardsOf 42 = .ok (.aload_n 0, 1) := by decide +kernel
theorem dX9_yardsOf_43 : decode cX9_yardsOf 43 = .ok (.getfield 35, 3) := by decide +kernel
theorem dX9_yardsOf_46 : decode cX9_yardsOf 46 = .ok (.bipush 85, 2) := by decide +kernel
theorem dX9_yardsOf_48 : decode cX9_yardsOf 48 = .ok (.iload 4, 2) := by decide +kernel
theorem dX9_yardsOf_50 : decode cX9_yardsOf 50 = .ok (.iadd, 1) := by decide +kernel
theorem dX9_yardsOf_51 : decode cX9_yardsOf 51 = .ok (.iaload, 1) := by decide +kernel
theorem dX9_yardsOf_52 : decode cX9_yardsOf 52 = .ok (.if_icmp .ge 51, 3) := by decide +kernel
theorem dX9_yardsOf_55 : decode cX9_yardsOf 55 = .ok (.iload_n 3, 1) := by decide +kernel
theorem dX9_yardsOf_56 : decode cX9_yardsOf 56 = .ok (.aload_n 0, 1) := by decide +kernel
theorem dX9_yardsOf_57 : decode cX9_yardsOf 57 = .ok (.iload 4, 2) := by decide +kernel
theorem dX9_yardsOf_59 : decode cX9_yardsOf 59 = .ok (.iload 5, 2) := by decide +kernel
theorem dX9_yardsOf_61 : decode cX9_yardsOf 61 = .ok (.invokevirtual 333, 3) := by decide +kernel
theorem dX9_yardsOf_64 : decode cX9_yardsOf 64 = .ok (.i2l, 1) := by decide +kernel
theorem dX9_yardsOf_65 : decode cX9_yardsOf 65 = .ok (.iload_n 1, 1) := by decide +kernel
theorem dX9_yardsOf_66 : decode cX9_yardsOf 66 = .ok (.i2l, 1) := by decide +kernel
theorem dX9_yardsOf_67 : decode cX9_yardsOf 67 = .ok (.iload_n 2, 1) := by decide +kernel
theorem dX9_yardsOf_68 : decode cX9_yardsOf 68 = .ok (.i2l, 1) := by decide +kernel
theorem dX9_yardsOf_69 : decode cX9_yardsOf 69 = .ok (.invokestatic 97, 3) := by decide +kernel
theorem dX9_yardsOf_72 : decode cX9_yardsOf 72 = .ok (.ifCond .eq 22, 3) := by decide +kernel
theorem dX9_yardsOf_75 : decode cX9_yardsOf 75 = .ok (.aload_n 0, 1) := by decide +kernel
theorem dX9_yardsOf_76 : decode cX9_yardsOf 76 = .ok (.getfield 35, 3) := by decide +kernel
theorem dX9_yardsOf_79 : decode cX9_yardsOf 79 = .ok (.bipush 97, 2) := by decide +kernel
theorem dX9_yardsOf_81 : decode cX9_yardsOf 81 = .ok (.bipush 8, 2) := by decide +kernel
theorem dX9_yardsOf_83 : decode cX9_yardsOf 83 = .ok (.iload 4, 2) := by decide +kernel
theorem dX9_yardsOf_85 : decode cX9_yardsOf 85 = .ok (.imul, 1) := by decide +kernel
theorem dX9_yardsOf_86 : decode cX9_yardsOf 86 = .ok (.iadd, 1) := by decide +kernel
theorem dX9_yardsOf_87 : decode cX9_yardsOf 87 = .ok (.iload 5, 2) := by decide +kernel
theorem dX9_yardsOf_89 : decode cX9_yardsOf 89 = .ok (.iadd, 1) := by decide +kernel
theorem dX9_yardsOf_90 : decode cX9_yardsOf 90 = .ok (.iaload, 1) := by decide +kernel
theorem dX9_yardsOf_91 : decode cX9_yardsOf 91 = .ok (.goto 4, 3) := by decide +kernel
theorem dX9_yardsOf_94 : decode cX9_yardsOf 94 = .ok (.iconst 0, 1) := by decide +kernel
theorem dX9_yardsOf_95 : decode cX9_yardsOf 95 = .ok (.iadd, 1) := by decide +kernel
theorem dX9_yardsOf_96 : decode cX9_yardsOf 96 = .ok (.istore_n 3, 1) := by decide +kernel
theorem dX9_yardsOf_97 : decode cX9_yardsOf 97 = .ok (.iinc 5 1, 3) := by decide +kernel
theorem dX9_yardsOf_100 : decode cX9_yardsOf 100 = .ok (.goto (-60), 3) := by decide +kernel
theorem dX9_yardsOf_103 : decode cX9_yardsOf 103 = .ok (.iinc 4 1, 3) := by decide +kernel
theorem dX9_yardsOf_106 : decode cX9_yardsOf 106 = .ok (.goto (-76), 3) := by decide +kernel
theorem dX9_yardsOf_109 : decode cX9_yardsOf 109 = .ok (.iload_n 3, 1) := by decide +kernel
theorem dX9_yardsOf_110 : decode cX9_yardsOf 110 = .ok (.ireturn, 1) := by decide +kernel
def fX9_yardsOf_103 (r30 : Nat → Int32 → Int32 → Int32 → Int32 → mM Int32) (l0 : Nat) (l1 : Int32) (l2 : Int32) (l3 : Int32) (l4 : Int32) : mM Int32 := r30 l0 l1 l2 l3 (l4 + 1)
set_option maxRecDepth 20000 in
theorem rX9_yardsOf_103 (v : mE) (d : Nat) (r30 : Nat → Int32 → Int32 → Int32 → Int32 → mM Int32) (h30 : ∀ (y0 : Nat) (y1 : Int32) (y2 : Int32) (y3 : Int32) (y4 : Int32), Rz v RX9 cX9_yardsOf 6 (some .int) false emI (d + 1) 30 [(0, vR y0), (1, vI y1), (2, vI y2), (3, vI y3), (4, vI y4)] [] (r30 y0 y1 y2 y3 y4)) (l0 : Nat) (l1 : Int32) (l2 : Int32) (l3 : Int32) (l4 : Int32) : Rz v RX9 cX9_yardsOf 6 (some .int) false emI (d + 1) 103 [(0, vR l0), (1, vI l1), (2, vI l2), (3, vI l3), (4, vI l4)] [] (fX9_yardsOf_103 r30 l0 l1 l2 l3 l4) := by
  unfold fX9_yardsOf_103
  refine rz_iinc (lv' := [(4, vI (l4 + 1)), (0, vR l0), (1, vI l1), (2, vI l2), (3, vI l3)]) 106 4 dX9_yardsOf_103 rfl rfl (cn_1 _) rfl rfl ?_
  refine rz_goto 30 dX9_yardsOf_106 rfl ?_
  exact rz_sub [1, 2, 3, 4, 0] rfl (h30 l0 l1 l2 l3 (l4 + 1))
def fX9_yardsOf_95 (r30 : Nat → Int32 → Int32 → Int32 → Int32 → mM Int32) (r40 : Nat → Int32 → Int32 → Int32 → Int32 → Int32 → mM Int32) (l0 : Nat) (l1 : Int32) (l2 : Int32) (l4 : Int32) (l5 : Int32) (s0 : Int32) (s1 : Int32) : mM Int32 := r40 l0 l1 l2 (s1 + s0) l4 (l5 + 1)
set_option maxRecDepth 20000 in
theorem rX9_yardsOf_95 (v : mE) (d : Nat) (r30 : Nat → Int32 → Int32 → Int32 → Int32 → mM Int32) (h30 : ∀ (y0 : Nat) (y1 : Int32) (y2 : Int32) (y3 : Int32) (y4 : Int32), Rz v RX9 cX9_yardsOf 6 (some .int) false emI (d + 1) 30 [(0, vR y0), (1, vI y1), (2, vI y2), (3, vI y3), (4, vI y4)] [] (r30 y0 y1 y2 y3 y4)) (r40 : Nat → Int32 → Int32 → Int32 → Int32 → Int32 → mM Int32) (h40 : ∀ (y0 : Nat) (y1 : Int32) (y2 : Int32) (y3 : Int32) (y4 : Int32) (y5 : Int32), Rz v RX9 cX9_yardsOf 6 (some .int) false emI (d + 1) 40 [(0, vR y0), (1, vI y1), (2, vI y2), (3, vI y3), (4, vI y4), (5, vI y5)] [] (r40 y0 y1 y2 y3 y4 y5)) (l0 : Nat) (l1 : Int32) (l2 : Int32) (l4 : Int32) (l5 : Int32) (s0 : Int32) (s1 : Int32) : Rz v RX9 cX9_yardsOf 6 (some .int) false emI (d + 1) 95 [(0, vR l0), (1, vI l1), (2, vI l2), (4, vI l4), (5, vI l5)] [vI s0, vI s1] (fX9_yardsOf_95 r30 r40 l0 l1 l2 l4 l5 s0 s1) := by
  unfold fX9_yardsOf_95
  refine rz_iadd 96 dX9_yardsOf_95 rfl ?_
  refine rz_istore_n (lv' := [(3, vI (s1 + s0)), (0, vR l0), (1, vI l1), (2, vI l2), (4, vI l4), (5, vI l5)]) 97 dX9_yardsOf_96 rfl rfl rfl ?_
  refine rz_iinc (lv' := [(5, vI (l5 + 1)), (3, vI (s1 + s0)), (0, vR l0), (1, vI l1), (2, vI l2), (4, vI l4)]) 100 5 dX9_yardsOf_97 rfl rfl (cn_1 _) rfl rfl ?_
  refine rz_goto 40 dX9_yardsOf_100 rfl ?_
  exact rz_sub [2, 3, 4, 1, 5, 0] rfl (h40 l0 l1 l2 (s1 + s0) l4 (l5 + 1))
def fX9_yardsOf_40 (r30 : Nat → Int32 → Int32 → Int32 → Int32 → mM Int32) : Nat → Nat → Int32 → Int32 → Int32 → Int32 → Int32 → mM Int32
  | 0 => fun _ _ _ _ _ _ => fun _ => none
  | n + 1 => fun l0 l1 l2 l3 l4 l5 => let r40 := fX9_yardsOf_40 r30 n; bGR 9 l0 24 (fun x1 => bAI 11 x1 ((85 : Int32) + l4) (fun x2 => bIf (x2 ≤ l5) (fX9_yardsOf_103 r30 l0 l1 l2 l3 l4) (bCallV 9 l0 (fX9_ageOf l0 l4 l5) (fun x3 => bCall (fX9_isIn (Int32.toInt64 x3) (Int32.toInt64 l1) (Int32.toInt64 l2)) (fun x4 => bIf (x4 = 0) (fX9_yardsOf_95 r30 r40 l0 l1 l2 l4 l5 (0 : Int32) l3) (bGR 9 l0 24 (fun x5 => bAI 11 x5 (((97 : Int32) + ((8 : Int32) * l4)) + l5) (fun x6 => fX9_yardsOf_95 r30 r40 l0 l1 l2 l4 l5 x6 l3))))))))
theorem qX9_yardsOf_40 (r30 : Nat → Int32 → Int32 → Int32 → Int32 → mM Int32) (n : Nat) (l0 : Nat) (l1 : Int32) (l2 : Int32) (l3 : Int32) (l4 : Int32) (l5 : Int32) : fX9_yardsOf_40 r30 (n + 1) l0 l1 l2 l3 l4 l5 = bGR 9 l0 24 (fun x1 => bAI 11 x1 ((85 : Int32) + l4) (fun x2 => bIf (x2 ≤ l5) (fX9_yardsOf_103 r30 l0 l1 l2 l3 l4) (bCallV 9 l0 (fX9_ageOf l0 l4 l5) (fun x3 => bCall (fX9_isIn (Int32.toInt64 x3) (Int32.toInt64 l1) (Int32.toInt64 l2)) (fun x4 => bIf (x4 = 0) (fX9_yardsOf_95 r30 (fX9_yardsOf_40 r30 n) l0 l1 l2 l4 l5 (0 : Int32) l3) (bGR 9 l0 24 (fun x5 => bAI 11 x5 (((97 : Int32) + ((8 : Int32) * l4)) + l5) (fun x6 => fX9_yardsOf_95 r30 (fX9_yardsOf_40 r30 n) l0 l1 l2 l4 l5 x6 l3)))))))) := rfl
set_option maxRecDepth 20000 in
theorem rX9_yardsOf_40 (v : mE) (d : Nat) (r30 : Nat → Int32 → Int32 → Int32 → Int32 → mM Int32) (h30 : ∀ (y0 : Nat) (y1 : Int32) (y2 : Int32) (y3 : Int32) (y4 : Int32), Rz v RX9 cX9_yardsOf 6 (some .int) false emI (d + 1) 30 [(0, vR y0), (1, vI y1), (2, vI y2), (3, vI y3), (4, vI y4)] [] (r30 y0 y1 y2 y3 y4)) : ∀ (n : Nat) (l0 : Nat) (l1 : Int32) (l2 : Int32) (l3 : Int32) (l4 : Int32) (l5 : Int32), Rz v RX9 cX9_yardsOf 6 (some .int) false emI (d + 1) 40 [(0, vR l0), (1, vI l1), (2, vI l2), (3, vI l3), (4, vI l4), (5, vI l5)] [] (fX9_yardsOf_40 r30 n l0 l1 l2 l3 l4 l5)
  | 0, _, _, _, _, _, _ => fun _ _ _ hm => by cases hm
  | n + 1, l0, l1, l2, l3, l4, l5 => by
    have h40 := rX9_yardsOf_40 v d r30 h30 n
    unfold fX9_yardsOf_40
    generalize fX9_yardsOf_40 r30 n = r40 at h40 ⊢
    refine rz_iload 42 5 dX9_yardsOf_40 rfl rfl ?_
    refine rz_aload_n 43 0 dX9_yardsOf_42 rfl rfl ?_
    refine rz_gR 46 dX9_yardsOf_43 rfl rfl fl_X9_35 (fun x1 => ?_)
    refine rz_bipush 48 dX9_yardsOf_46 rfl cb_85 ?_
    refine rz_iload 50 4 dX9_yardsOf_48 rfl rfl ?_
    refine rz_iadd 51 dX9_yardsOf_50 rfl ?_
    refine rz_iald 52 dX9_yardsOf_51 rfl (fun x2 => ?_)
    refine rz_icmp_ge 103 55 dX9_yardsOf_52 rfl rfl ?_ ?_
    · exact rz_sub [0, 1, 2, 3, 4] rfl (rX9_yardsOf_103 v d r30 h30 l0 l1 l2 l3 l4)
    · refine rz_iload_n 56 3 dX9_yardsOf_55 rfl rfl ?_
      refine rz_aload_n 57 0 dX9_yardsOf_56 rfl rfl ?_
      refine rz_iload 59 4 dX9_yardsOf_57 rfl rfl ?_
      refine rz_iload 61 5 dX9_yardsOf_59 rfl rfl ?_
      refine rz_callV 64 dX9_yardsOf_61 rfl (tX9_ageOf v (d + 0) l0 l4 l5) rfl rfl rfl rfl ml_X9_333 im_X9_ageOf se_X9_X9_ageOf in_X9 co_X9_ageOf rfl rfl (fun x3 => ?_)
      refine rz_i2l 65 dX9_yardsOf_64 rfl ?_
      refine rz_iload_n 66 1 dX9_yardsOf_65 rfl rfl ?_
      refine rz_i2l 67 dX9_yardsOf_66 rfl ?_
      refine rz_iload_n 68 2 dX9_yardsOf_67 rfl rfl ?_
      refine rz_i2l 69 dX9_yardsOf_68 rfl ?_
      refine rz_callS 72 dX9_yardsOf_69 rfl (tX9_isIn v (d + 0) (Int32.toInt64 x3) (Int32.toInt64 l1) (Int32.toInt64 l2)) rfl rfl ml_X9_97 sm_X9_isIn in_X9 co_X9_isIn rfl rfl (fun x4 => ?_)
      refine rz_if_eq 94 75 dX9_yardsOf_72 rfl rfl ?_ ?_
      · refine rz_iconst 95 dX9_yardsOf_94 rfl ci_0 ?_
        exact rz_sub [0, 1, 2, 4, 5] rfl (rX9_yardsOf_95 v d r30 h30 r40 h40 l0 l1 l2 l4 l5 (0 : Int32) l3)
      · refine rz_aload_n 76 0 dX9_yardsOf_75 rfl rfl ?_
        refine rz_gR 79 dX9_yardsOf_76 rfl rfl fl_X9_35 (fun x5 => ?_)
        refine rz_bipush 81 dX9_yardsOf_79 rfl cb_97 ?_
        refine rz_bipush 83 dX9_yardsOf_81 rfl cb_8 ?_
        refine rz_iload 85 4 dX9_yardsOf_83 rfl rfl ?_
        refine rz_imul 86 dX9_yardsOf_85 rfl ?_
        refine rz_iadd 87 dX9_yardsOf_86 rfl ?_
        refine rz_iload 89 5 dX9_yardsOf_87 rfl rfl ?_
        refine rz_iadd 90 dX9_yardsOf_89 rfl ?_
        refine rz_iald 91 dX9_yardsOf_90 rfl (fun x6 => ?_)
        refine rz_goto 95 dX9_yardsOf_91 rfl ?_
        exact rz_sub [0, 1, 2, 4, 5] rfl (rX9_yardsOf_95 v d r30 h30 r40 h40 l0 l1 l2 l4 l5 x6 l3)
def fX9_yardsOf_30 : Nat → Nat → Int32 → Int32 → Int32 → Int32 → mM Int32
  | 0 => fun _ _ _ _ _ => fun _ => none
  | n + 1 => fun l0 l1 l2 l3 l4 => let r30 := fX9_yardsOf_30 n; bIf ((12 : Int32) ≤ l4) (bRet l3) (fX9_yardsOf_40 r30 fu l0 l1 l2 l3 l4 (0 : Int32))
theorem qX9_yardsOf_30  (n : Nat) (l0 : Nat) (l1 : Int32) (l2 : Int32) (l3 : Int32) (l4 : Int32) : fX9_yardsOf_30 (n + 1) l0 l1 l2 l3 l4 = bIf ((12 : Int32) ≤ l4) (bRet l3) (fX9_yardsOf_40 (fX9_yardsOf_30 n) fu l0 l1 l2 l3 l4 (0 : Int32)) := rfl
set_option maxRecDepth 20000 in
theorem rX9_yardsOf_30 (v : mE) (d : Nat) : ∀ (n : Nat) (l0 : Nat) (l1 : Int32) (l2 : Int32) (l3 : Int32) (l4 : Int32), Rz v RX9 cX9_yardsOf 6 (some .int) false emI (d + 1) 30 [(0, vR l0), (1, vI l1), (2, vI l2), (3, vI l3), (4, vI l4)] [] (fX9_yardsOf_30 n l0 l1 l2 l3 l4)
  | 0, _, _, _, _, _ => fun _ _ _ hm => by cases hm
  | n + 1, l0, l1, l2, l3, l4 => by
    have h30 := rX9_yardsOf_30 v d n
    unfold fX9_yardsOf_30
    generalize fX9_yardsOf_30 n = r30 at h30 ⊢
    refine rz_iload 32 4 dX9_yardsOf_30 rfl rfl ?_
    refine rz_bipush 34 dX9_yardsOf_32 rfl cb_12 ?_
    refine rz_icmp_ge 109 37 dX9_yardsOf_34 rfl rfl ?_ ?_
    · refine rz_iload_n 110 3 dX9_yardsOf_109 rfl rfl ?_
      exact rz_ireturn rfl rfl dX9_yardsOf_110
    · refine rz_iconst 38 dX9_yardsOf_37 rfl ci_0 ?_
      refine rz_istore (lv' := [(5, vI (0 : Int32)), (0, vR l0), (1, vI l1), (2, vI l2), (3, vI l3), (4, vI l4)]) 40 dX9_yardsOf_38 rfl rfl rfl ?_
      exact rz_sub [1, 2, 3, 4, 5, 0] rfl (rX9_yardsOf_40 v d r30 h30 fu l0 l1 l2 l3 l4 (0 : Int32))
def fX9_yardsOf_19 (l0 : Nat) : mM Int32 := bCallV 9 l0 (fX9_refuse l0 (5 : Int32)) (fun x1 => bRet x1)
set_option maxRecDepth 20000 in
theorem rX9_yardsOf_19 (v : mE) (d : Nat) (l0 : Nat) : Rz v RX9 cX9_yardsOf 6 (some .int) false emI (d + 1) 19 [(0, vR l0)] [] (fX9_yardsOf_19 l0) := by
  unfold fX9_yardsOf_19
  refine rz_aload_n 20 0 dX9_yardsOf_19 rfl rfl ?_
  refine rz_iconst 21 dX9_yardsOf_20 rfl ci_5 ?_
  refine rz_callV 24 dX9_yardsOf_21 rfl (tX9_refuse v (d + 0) l0 (5 : Int32)) rfl rfl rfl rfl ml_X9_357 im_X9_refuse se_X9_X9_refuse in_X9 co_X9_refuse rfl rfl (fun x1 => ?_)
  exact rz_ireturn rfl rfl dX9_yardsOf_24
def fX9_yardsOf (l0 : Nat) (l1 : Int32) (l2 : Int32) : mM Int32 := bPI 9 l0 1 (0 : Int32) (bPI 9 l0 0 (0 : Int32) (bIf (l1 < 0) (fX9_yardsOf_19 l0) (bIf (l1 ≤ l2) (fX9_yardsOf_30 fu l0 l1 l2 (0 : Int32) (0 : Int32)) (fX9_yardsOf_19 l0))))
set_option maxRecDepth 20000 in
theorem rX9_yardsOf (v : mE) (d : Nat) (l0 : Nat) (l1 : Int32) (l2 : Int32) : Rz v RX9 cX9_yardsOf 6 (some .int) false emI (d + 1) 0 [(0, vR l0), (1, vI l1), (2, vI l2)] [] (fX9_yardsOf l0 l1 l2) := by
  unfold fX9_yardsOf
  refine rz_aload_n 1 0 dX9_yardsOf_0 rfl rfl ?_
  refine rz_iconst 2 dX9_yardsOf_1 rfl ci_0 ?_
  refine rz_pI 5 dX9_yardsOf_2 rfl rfl rfl rfl fl_X9_62 ?_
  refine rz_aload_n 6 0 dX9_yardsOf_5 rfl rfl ?_
  refine rz_iconst 7 dX9_yardsOf_6 rfl ci_0 ?_
  refine rz_pI 10 dX9_yardsOf_7 rfl rfl rfl rfl fl_X9_65 ?_
  refine rz_iload_n 11 1 dX9_yardsOf_10 rfl rfl ?_
  refine rz_if_lt 19 14 dX9_yardsOf_11 rfl rfl ?_ ?_
  · exact rz_sub [0] rfl (rX9_yardsOf_19 v d l0)
  · refine rz_iload_n 15 2 dX9_yardsOf_14 rfl rfl ?_
    refine rz_iload_n 16 1 dX9_yardsOf_15 rfl rfl ?_
    refine rz_icmp_ge 25 19 dX9_yardsOf_16 rfl rfl ?_ ?_
    · refine rz_iconst 26 dX9_yardsOf_25 rfl ci_0 ?_
      refine rz_istore_n (lv' := [(3, vI (0 : Int32)), (0, vR l0), (1, vI l1), (2, vI l2)]) 27 dX9_yardsOf_26 rfl rfl rfl ?_
      refine rz_iconst 28 dX9_yardsOf_27 rfl ci_0 ?_
      refine rz_istore (lv' := [(4, vI (0 : Int32)), (3, vI (0 : Int32)), (0, vR l0), (1, vI l1), (2, vI l2)]) 30 dX9_yardsOf_28 rfl rfl rfl ?_
      exact rz_sub [2, 3, 4, 1, 0] rfl (rX9_yardsOf_30 v d fu l0 l1 l2 (0 : Int32) (0 : Int32))
    · exact rz_sub [0] rfl (rX9_yardsOf_19 v d l0)
theorem tX9_yardsOf (v : mE) (d : Nat) (l0 : Nat) (l1 : Int32) (l2 : Int32) : Mt v yX9_yardsOf cX9_yardsOf 6 (some .int) emI (d + 1) [vR l0, vI l1, vI l2] (fX9_yardsOf l0 l1 l2) := mt_of rfl rfl (fun h => by cases h) rfl rfl (rX9_yardsOf v d l0 l1 l2)
theorem dX9_needed_0 : decode cX9_needed 0 = .ok (.aload_n 0, 1) := by decide +kernel
theorem dX9_needed_1 : decode cX9_needed 1 = .ok (.iconst 0, 1) := by decide +kernel
theorem dX9_needed_2 : decode cX9_needed 2 = .ok (.putfield 62, 3) := by decide +kernel
theorem dX9_needed_5 : decode cX9_needed 5 = .ok (.aload_n 0, 1) := by decide +kernel
theorem dX9_needed_6 : decode cX9_needed 6 = .ok (.iconst 0, 1) := by decide +kernel
theorem dX9_needed_7 : decode cX9_needed 7 = .ok (.putfield 65, 3) := by decide +kernel
theorem dX9_needed_10 : decode cX9_needed 10 = .ok (.aload_n 0, 1) := by decide +kernel
theorem dX9_needed_11 : decode cX9_needed 11 = .ok (.invokevirtual 420, 3) := by decide +kernel
theorem dX9_needed_14 : decode cX9_needed 14 = .ok (.invokestatic 377, 3) := by decide +kernel
theorem dX9_needed_17 : decode cX9_needed 17 = .ok (.istore_n 1, 1) := by decide +kernel
theorem dX9_needed_18 : decode cX9_needed 18 = .ok (.iconst 0, 1) := by decide +kernel
theorem dX9_needed_19 : decode cX9_needed 19 = .ok (.istore_n 2, 1) := by decide +kernel
theorem dX9_needed_20 : decode cX9_needed 20 = .ok (.iconst 0, 1) := by decide +kernel
theorem dX9_needed_21 : decode cX9_needed 21 = .ok (.istore_n 3, 1) := by decide +kernel
theorem dX9_needed_22 : decode cX9_needed 22 = .ok (.iload_n 3, 1) := by decide +kernel
theorem dX9_needed_23 : decode cX9_needed 23 = .ok (.bipush 12, 2) := by decide +kernel
theorem dX9_needed_25 : decode cX9_needed 25 = .ok (.if_icmp .ge 73, 3) := by decide +kernel
theorem dX9_needed_28 : decode cX9_needed 28 = .ok (.aload_n 0, 1) := by decide +kernel
theorem dX9_needed_29 : decode cX9_needed 29 = .ok (.iload_n 3, 1) := by decide +kernel
theorem dX9_needed_30 : decode cX9_needed 30 = .ok (.invokevirtual 318, 3) := by decide +kernel
theorem dX9_needed_33 : decode cX9_needed 33 = .ok (.ifCond .ne 6, 3) := by decide +kernel
theorem dX9_needed_36 : decode cX9_needed 36 = .ok (.goto 56, 3) := by decide +kernel
theorem dX9_needed_39 : decode cX9_needed 39 = .ok (.aload_n 0, 1) := by decide +kernel
theorem dX9_needed_40 : decode cX9_needed 40 = .ok (.getfield 35, 3) := by decide +kernel
theorem dX9_needed_43 : decode cX9_needed 43 = .ok (.bipush 85, 2) := by decide +kernel
theorem dX9_needed_45 : decode cX9_needed 45 = .ok (.iload_n 3, 1) := by decide +kernel
theorem dX9_needed_46 : decode cX9_needed 46 = .ok (.iadd, 1) := by decide +kernel
theorem dX9_needed_47 : decode cX9_needed 47 = .ok (.iaload, 1) := by decide +kernel
theorem dX9_needed_48 : decode cX9_needed 48 = .ok (.istore 4, 2) := by decide +kernel
theorem dX9_needed_50 : decode cX9_needed 50 = .ok (.aload_n 0, 1) := by decide +kernel
theorem dX9_needed_51 : decode cX9_needed 51 = .ok (.getfield 35, 3) := by decide +kernel
theorem dX9_needed_54 : decode cX9_needed 54 = .ok (.bipush 85, 2) := by decide +kernel
theorem dX9_needed_56 : decode cX9_needed 56 = .ok (.iload_n 3, 1) := by decide +kernel
theorem dX9_needed_57 : decode cX9_needed 57 = .ok (.iadd, 1) := by decide +kernel
theorem dX9_needed_58 : decode cX9_needed 58 = .ok (.iconst 0, 1) := by decide +kernel
theorem dX9_needed_59 : decode cX9_needed 59 = .ok (.iastore, 1) := by decide +kernel
theorem dX9_needed_60 : decode cX9_needed 60 = .ok (.iload_n 2, 1) := by decide +kernel
theorem dX9_needed_61 : decode cX9_needed 61 = .ok (.aload_n 0, 1) := by decide +kernel
theorem dX9_needed_62 : decode cX9_needed 62 = .ok (.invokevirtual 420, 3) := by decide +kernel
theorem dX9_needed_65 : decode cX9_needed 65 = .ok (.invokestatic 377, 3) := by decide +kernel
theorem dX9_needed_68 : decode cX9_needed 68 = .ok (.iload_n 1, 1) := by decide +kernel
theorem dX9_needed_69 : decode cX9_needed 69 = .ok (.if_icmp .ge 9, 3) := by decide +kernel
theorem dX9_needed_72 : decode cX9_needed 72 = .ok (.iconst 1, 1) := by decide +kernel
theorem dX9_needed_73 : decode cX9_needed 73 = .ok (.iload_n 3, 1) := by decide +kernel
theorem dX9_needed_74 : decode cX9_needed 74 = .ok (.ishl, 1) := by decide +kernel
theorem dX9_needed_75 : decode cX9_needed 75 = .ok (.goto 4, 3) := by decide +kernel
theorem dX9_needed_78 : decode cX9_needed 78 = .ok (.iconst 0, 1) := by decide +kernel
theorem dX9_needed_79 : decode cX9_needed 79 = .ok (.ior, 1) := by decide +kernel
theorem dX9_needed_80 : decode cX9_needed 80 = .ok (.istore_n 2, 1) := by decide +kernel
theorem dX9_needed_81 : decode cX9_needed 81 = .ok (.aload_n 0, 1) := by decide +kernel
theorem dX9_needed_82 : decode cX9_needed 82 = .ok (.getfield 35, 3) := by decide +kernel
theorem dX9_needed_85 : decode cX9_needed 85 = .ok (.bipush 85, 2) := by decide +kernel
theorem dX9_needed_87 : decode cX9_needed 87 = .ok (.iload_n 3, 1) := by decide +kernel
theorem dX9_needed_88 : decode cX9_needed 88 = .ok (.iadd, 1) := by decide +kernel
theorem dX9_needed_89 : decode cX9_needed 89 = .ok (.iload 4, 2) := by decide +kernel
theorem dX9_needed_91 : decode cX9_needed 91 = .ok (.iastore, 1) := by decide +kernel
theorem dX9_needed_92 : decode cX9_needed 92 = .ok (.iinc 3 1, 3) := by decide +kernel
theorem dX9_needed_95 : decode cX9_needed 95 = .ok (.goto (-73), 3) := by decide +kernel
theorem dX9_needed_98 : decode cX9_needed 98 = .ok (.iload_n 2, 1) := by decide +kernel
theorem dX9_needed_99 : decode cX9_needed 99 = .ok (.ireturn, 1) := by decide +kernel
def fX9_needed_79 (r22 : Nat → Int32 → Int32 → Int32 → mM Int32) (l0 : Nat) (l1 : Int32) (l3 : Int32) (l4 : Int32) (s0 : Int32) (s1 : Int32) : mM Int32 := bGR 9 l0 24 (fun x1 => bSI x1 ((85 : Int32) + l3) l4 (r22 l0 l1 (s1 ||| s0) (l3 + 1)))
set_option maxRecDepth 20000 in
theorem rX9_needed_79 (v : mE) (d : Nat) (r22 : Nat → Int32 → Int32 → Int32 → mM Int32) (h22 : ∀ (y0 : Nat) (y1 : Int32) (y2 : Int32) (y3 : Int32), Rz v RX9 cX9_needed 5 (some .int) false emI (d + 5) 22 [(0, vR y0), (1, vI y1), (2, vI y2), (3, vI y3)] [] (r22 y0 y1 y2 y3)) (l0 : Nat) (l1 : Int32) (l3 : Int32) (l4 : Int32) (s0 : Int32) (s1 : Int32) : Rz v RX9 cX9_needed 5 (some .int) false emI (d + 5) 79 [(0, vR l0), (1, vI l1), (3, vI l3), (4, vI l4)] [vI s0, vI s1] (fX9_needed_79 r22 l0 l1 l3 l4 s0 s1) := by
  unfold fX9_needed_79
  refine rz_ior 80 dX9_needed_79 rfl ?_
  refine rz_istore_n (lv' := [(2, vI (s1 ||| s0)), (0, vR l0), (1, vI l1), (3, vI l3), (4, vI l4)]) 81 dX9_needed_80 rfl rfl rfl ?_
  refine rz_aload_n 82 1 dX9_needed_81 rfl rfl ?_
  refine rz_gR 85 dX9_needed_82 rfl rfl fl_X9_35 (fun x1 => ?_)
  refine rz_bipush 87 dX9_needed_85 rfl cb_85 ?_
  refine rz_iload_n 88 3 dX9_needed_87 rfl rfl ?_
  refine rz_iadd 89 dX9_needed_88 rfl ?_
  refine rz_iload 91 4 dX9_needed_89 rfl rfl ?_
  refine rz_iast 92 dX9_needed_91 rfl ?_
  refine rz_iinc (lv' := [(3, vI (l3 + 1)), (2, vI (s1 ||| s0)), (0, vR l0), (1, vI l1), (4, vI l4)]) 95 3 dX9_needed_92 rfl rfl (cn_1 _) rfl rfl ?_
  refine rz_goto 22 dX9_needed_95 rfl ?_
  exact rz_sub [2, 3, 1, 0] rfl (h22 l0 l1 (s1 ||| s0) (l3 + 1))
def fX9_needed_22 : Nat → Nat → Int32 → Int32 → Int32 → mM Int32
  | 0 => fun _ _ _ _ => fun _ => none
  | n + 1 => fun l0 l1 l2 l3 => let r22 := fX9_needed_22 n; bIf ((12 : Int32) ≤ l3) (bRet l2) (bCallV 9 l0 (fX9_isRope l0 l3) (fun x1 => bIf (x1 = 0) (r22 l0 l1 l2 (l3 + 1)) (bGR 9 l0 24 (fun x2 => bAI 11 x2 ((85 : Int32) + l3) (fun x3 => bGR 9 l0 24 (fun x4 => bSI x4 ((85 : Int32) + l3) (0 : Int32) (bCallV 9 l0 (fX9_drinkers l0) (fun x5 => bCall (fX9_bits x5) (fun x6 => bIf (l1 ≤ x6) (fX9_needed_79 r22 l0 l1 l3 x3 (0 : Int32) l2) (fX9_needed_79 r22 l0 l1 l3 x3 ((1 : Int32) <<< (l3 &&& 31)) l2))))))))))
theorem qX9_needed_22  (n : Nat) (l0 : Nat) (l1 : Int32) (l2 : Int32) (l3 : Int32) : fX9_needed_22 (n + 1) l0 l1 l2 l3 = bIf ((12 : Int32) ≤ l3) (bRet l2) (bCallV 9 l0 (fX9_isRope l0 l3) (fun x1 => bIf (x1 = 0) ((fX9_needed_22 n) l0 l1 l2 (l3 + 1)) (bGR 9 l0 24 (fun x2 => bAI 11 x2 ((85 : Int32) + l3) (fun x3 => bGR 9 l0 24 (fun x4 => bSI x4 ((85 : Int32) + l3) (0 : Int32) (bCallV 9 l0 (fX9_drinkers l0) (fun x5 => bCall (fX9_bits x5) (fun x6 => bIf (l1 ≤ x6) (fX9_needed_79 (fX9_needed_22 n) l0 l1 l3 x3 (0 : Int32) l2) (fX9_needed_79 (fX9_needed_22 n) l0 l1 l3 x3 ((1 : Int32) <<< (l3 &&& 31)) l2)))))))))) := rfl
set_option maxRecDepth 20000 in
theorem rX9_needed_22 (v : mE) (d : Nat) : ∀ (n : Nat) (l0 : Nat) (l1 : Int32) (l2 : Int32) (l3 : Int32), Rz v RX9 cX9_needed 5 (some .int) false emI (d + 5) 22 [(0, vR l0), (1, vI l1), (2, vI l2), (3, vI l3)] [] (fX9_needed_22 n l0 l1 l2 l3)
  | 0, _, _, _, _ => fun _ _ _ hm => by cases hm
  | n + 1, l0, l1, l2, l3 => by
    have h22 := rX9_needed_22 v d n
    unfold fX9_needed_22
    generalize fX9_needed_22 n = r22 at h22 ⊢
    refine rz_iload_n 23 3 dX9_needed_22 rfl rfl ?_
    refine rz_bipush 25 dX9_needed_23 rfl cb_12 ?_
    refine rz_icmp_ge 98 28 dX9_needed_25 rfl rfl ?_ ?_
    · refine rz_iload_n 99 2 dX9_needed_98 rfl rfl ?_
      exact rz_ireturn rfl rfl dX9_needed_99
    · refine rz_aload_n 29 0 dX9_needed_28 rfl rfl ?_
      refine rz_iload_n 30 3 dX9_needed_29 rfl rfl ?_
      refine rz_callV 33 dX9_needed_30 rfl (tX9_isRope v (d + 3) l0 l3) rfl rfl rfl rfl ml_X9_318 im_X9_isRope se_X9_X9_isRope in_X9 co_X9_isRope rfl rfl (fun x1 => ?_)
      refine rz_if_ne 39 36 dX9_needed_33 rfl rfl ?_ ?_
      · refine rz_aload_n 40 0 dX9_needed_39 rfl rfl ?_
        refine rz_gR 43 dX9_needed_40 rfl rfl fl_X9_35 (fun x2 => ?_)
        refine rz_bipush 45 dX9_needed_43 rfl cb_85 ?_
        refine rz_iload_n 46 3 dX9_needed_45 rfl rfl ?_
        refine rz_iadd 47 dX9_needed_46 rfl ?_
        refine rz_iald 48 dX9_needed_47 rfl (fun x3 => ?_)
        refine rz_istore (lv' := [(4, vI x3), (0, vR l0), (1, vI l1), (2, vI l2), (3, vI l3)]) 50 dX9_needed_48 rfl rfl rfl ?_
        refine rz_aload_n 51 1 dX9_needed_50 rfl rfl ?_
        refine rz_gR 54 dX9_needed_51 rfl rfl fl_X9_35 (fun x4 => ?_)
        refine rz_bipush 56 dX9_needed_54 rfl cb_85 ?_
        refine rz_iload_n 57 4 dX9_needed_56 rfl rfl ?_
        refine rz_iadd 58 dX9_needed_57 rfl ?_
        refine rz_iconst 59 dX9_needed_58 rfl ci_0 ?_
        refine rz_iast 60 dX9_needed_59 rfl ?_
        refine rz_iload_n 61 3 dX9_needed_60 rfl rfl ?_
        refine rz_aload_n 62 1 dX9_needed_61 rfl rfl ?_
        refine rz_callV 65 dX9_needed_62 rfl (tX9_drinkers v (d + 0) l0) rfl rfl rfl rfl ml_X9_420 im_X9_drinkers se_X9_X9_drinkers in_X9 co_X9_drinkers rfl rfl (fun x5 => ?_)
        refine rz_callS 68 dX9_needed_65 rfl (tX9_bits v (d + 4) x5) rfl rfl ml_X9_377 sm_X9_bits in_X9 co_X9_bits rfl rfl (fun x6 => ?_)
        refine rz_iload_n 69 2 dX9_needed_68 rfl rfl ?_
        refine rz_icmp_ge 78 72 dX9_needed_69 rfl rfl ?_ ?_
        · refine rz_iconst 79 dX9_needed_78 rfl ci_0 ?_
          exact rz_sub [1, 2, 4, 0] rfl (rX9_needed_79 v d r22 h22 l0 l1 l3 x3 (0 : Int32) l2)
        · refine rz_iconst 73 dX9_needed_72 rfl ci_1 ?_
          refine rz_iload_n 74 4 dX9_needed_73 rfl rfl ?_
          refine rz_ishl 75 dX9_needed_74 rfl ?_
          refine rz_goto 79 dX9_needed_75 rfl ?_
          exact rz_sub [1, 2, 4, 0] rfl (rX9_needed_79 v d r22 h22 l0 l1 l3 x3 ((1 : Int32) <<< (l3 &&& 31)) l2)
      · refine rz_goto 92 dX9_needed_36 rfl ?_
        refine rz_iinc (lv' := [(3, vI (l3 + 1)), (0, vR l0), (1, vI l1), (2, vI l2)]) 95 3 dX9_needed_92 rfl rfl (cn_1 _) rfl rfl ?_
        refine rz_goto 22 dX9_needed_95 rfl ?_
        exact rz_sub [1, 2, 3, 0] rfl (h22 l0 l1 l2 (l3 + 1))
def fX9_needed (l0 : Nat) : mM Int32 := bPI 9 l0 1 (0 : Int32) (bPI 9 l0 0 (0 : Int32) (bCallV 9 l0 (fX9_drinkers l0) (fun x1 => bCall (fX9_bits x1) (fun x2 => fX9_needed_22 fu l0 x2 (0 : Int32) (0 : Int32)))))
set_option maxRecDepth 20000 in
theorem rX9_needed (v : mE) (d : Nat) (l0 : Nat) : Rz v RX9 cX9_needed 5 (some .int) false emI (d + 5) 0 [(0, vR l0)] [] (fX9_needed l0) := by
  unfold fX9_needed
  refine rz_aload_n 1 0 dX9_needed_0 rfl rfl ?_
  refine rz_iconst 2 dX9_needed_1 rfl ci_0 ?_
  refine rz_pI 5 dX9_needed_2 rfl rfl rfl rfl fl_X9_62 ?_
  refine rz_aload_n 6 0 dX9_needed_5 rfl rfl ?_
  refine rz_iconst 7 dX9_needed_6 rfl ci_0 ?_
  refine rz_pI 10 dX9_needed_7 rfl rfl rfl rfl fl_X9_65 ?_
  refine rz_aload_n 11 0 dX9_needed_10 rfl rfl ?_
  refine rz_callV 14 dX9_needed_11 rfl (tX9_drinkers v (d + 0) l0) rfl rfl rfl rfl ml_X9_420 im_X9_drinkers se_X9_X9_drinkers in_X9 co_X9_drinkers rfl rfl (fun x1 => ?_)
  refine rz_callS 17 dX9_needed_14 rfl (tX9_bits v (d + 4) x1) rfl rfl ml_X9_377 sm_X9_bits in_X9 co_X9_bits rfl rfl (fun x2 => ?_)
  refine rz_istore_n (lv' := [(1, vI x2), (0, vR l0)]) 18 dX9_needed_17 rfl rfl rfl ?_
  refine rz_iconst 19 dX9_needed_18 rfl ci_0 ?_
  refine rz_istore_n (lv' := [(2, vI (0 : Int32)), (1, vI x2), (0, vR l0)]) 20 dX9_needed_19 rfl rfl rfl ?_
  refine rz_iconst 21 dX9_needed_20 rfl ci_0 ?_
  refine rz_istore_n (lv' := [(3, vI (0 : Int32)), (2, vI (0 : Int32)), (1, vI x2), (0, vR l0)]) 22 dX9_needed_21 rfl rfl rfl ?_
  exact rz_sub [3, 2, 1, 0] rfl (rX9_needed_22 v d fu l0 x2 (0 : Int32) (0 : Int32))
theorem tX9_needed (v : mE) (d : Nat) (l0 : Nat) : Mt v yX9_needed cX9_needed 5 (some .int) emI (d + 5) [vR l0] (fX9_needed l0) := mt_of rfl rfl (fun h => by cases h) rfl rfl (rX9_needed v d l0)
theorem dX9_knotsFor_0 : decode cX9_knotsFor 0 = .ok (.iconst 1, 1) := by decide +kernel
theorem dX9_knotsFor_1 : decode cX9_knotsFor 1 = .ok (.istore_n 2, 1) := by decide +kernel
theorem dX9_knotsFor_2 : decode cX9_knotsFor 2 = .ok (.iconst 0, 1) := by decide +kernel
theorem dX9_knotsFor_3 : decode cX9_knotsFor 3 = .ok (.istore_n 3, 1) := by decide +kernel
theorem dX9_knotsFor_4 : decode cX9_knotsFor 4 = .ok (.iload_n 3, 1) := by decide +kernel
theorem dX9_knotsFor_5 : decode cX9_knotsFor 5 = .ok (.bipush 12, 2) := by decide +kernel
theorem dX9_knotsFor_7 : decode cX9_knotsFor 7 = .ok (.if_icmp .ge 63, 3) := by decide +kernel
theorem dX9_knotsFor_10 : decode cX9_knotsFor 10 = .ok (.iload_n 1, 1) := by decide +kernel
theorem dX9_knotsFor_11 : decode cX9_knotsFor 11 = .ok (.iload_n 3, 1) := by decide +kernel
theorem dX9_knotsFor_12 : decode cX9_knotsFor 12 = .ok (.ishr, 1) := by decide +kernel
theorem dX9_knotsFor_13 : decode cX9_knotsFor 13 = .ok (.iconst 1, 1) := by decide +kernel
theorem dX9_knotsFor_14 : decode cX9_knotsFor 14 = .ok (.iand, 1) := by decide +kernel
theorem dX9_knotsFor_15 : decode cX9_knotsFor 15 = .ok (.ifCond .ne 6, 3) := by decide +kernel
theorem dX9_knotsFor_18 : decode cX9_knotsFor 18 = .ok (.goto 46, 3) := by decide +kernel
theorem dX9_knotsFor_21 : decode cX9_knotsFor 21 = .ok (.aload_n 0, 1) := by decide +kernel
theorem dX9_knotsFor_22 : decode cX9_knotsFor 22 = .ok (.iload_n 3, 1) := by decide +kernel
theorem dX9_knotsFor_23 : decode cX9_knotsFor 23 = .ok (.invokevirtual 318, 3) := by decide +kernel
theorem dX9_knotsFor_26 : decode cX9_knotsFor 26 = .ok (.ifCond .eq 24, 3) := by decide +kernel
theorem dX9_knotsFor_29 : decode cX9_knotsFor 29 = .ok (.aload_n 0, 1) := by decide +kernel
theorem dX9_knotsFor_30 : decode cX9_knotsFor 30 = .ok (.getfield 35, 3) := by decide +kernel
theorem dX9_knotsFor_33 : decode cX9_knotsFor 33 = .ok (.bipush 61, 2) := by decide +kernel
theorem dX9_knotsFor_35 : decode cX9_knotsFor 35 = .ok (.iload_n 3, 1) := by decide +kernel
theorem dX9_knotsFor_36 : decode cX9_knotsFor 36 = .ok (.iadd, 1) := by decide +kernel
theorem dX9_knotsFor_37 : decode cX9_knotsFor 37 = .ok (.iaload, 1) := by decide +kernel
theorem dX9_knotsFor_38 : decode cX9_knotsFor 38 = .ok (.iconst 1, 1) := by decide +kernel
theorem dX9_knotsFor_39 : decode cX9_knotsFor 39 = .ok (.if_icmp .ne 15, 3) := by decide +kernel
theorem dX9_knotsFor_42 : decode cX9_knotsFor 42 = .ok (.iload_n 1, 1) := by decide +kernel
theorem dX9_knotsFor_43 : decode cX9_knotsFor 43 = .ok (.invokestatic 377, 3) := by decide +kernel
theorem dX9_knotsFor_46 : decode cX9_knotsFor 46 = .ok (.iconst 1, 1) := by decide +kernel
theorem dX9_knotsFor_47 : decode cX9_knotsFor 47 = .ok (.if_icmp .le 7, 3) := by decide +kernel
theorem dX9_knotsFor_50 : decode cX9_knotsFor 50 = .ok (.ldc_w 450, 3) := by decide +kernel
theorem dX9_knotsFor_53 : decode cX9_knotsFor 53 = .ok (.ireturn, 1) := by decide +kernel
theorem dX9_knotsFor_54 : decode cX9_knotsFor 54 = .ok (.iload_n 2, 1) := by decide +kernel
theorem dX9_knotsFor_55 : decode cX9_knotsFor 55 = .ok (.aload_n 0, 1) := by decide +kernel
theorem dX9_knotsFor_56 : decode cX9_knotsFor 56 = .ok (.iload_n 3, 1) := by decide +kernel
theorem dX9_knotsFor_57 : decode cX9_knotsFor 57 = .ok (.invokevirtual 339, 3) := by decide +kernel
theorem dX9_knotsFor_60 : decode cX9_knotsFor 60 = .ok (.iconst 1, 1) := by decide +kernel
theorem dX9_knotsFor_61 : decode cX9_knotsFor 61 = .ok (.isub, 1) := by decide +kernel
theorem dX9_knotsFor_62 : decode cX9_knotsFor 62 = .ok (.iadd, 1) := by decide +kernel
theorem dX9_knotsFor_63 : decode cX9_knotsFor 63 = .ok (.istore_n 2, 1) := by decide +kernel
theorem dX9_knotsFor_64 : decode cX9_knotsFor 64 = .ok (.iinc 3 1, 3) := by decide +kernel
theorem dX9_knotsFor_67 : decode cX9_knotsFor 67 = .ok (.goto (-63), 3) := by decide +kernel
theorem dX9_knotsFor_70 : decode cX9_knotsFor 70 = .ok (.iload_n 2, 1) := by decide +kernel
theorem dX9_knotsFor_71 : decode cX9_knotsFor 71 = .ok (.aload_n 0, 1) := by decide +kernel
theorem dX9_knotsFor_72 : decode cX9_knotsFor 72 = .ok (.invokevirtual 324, 3) := by decide +kernel
theorem dX9_knotsFor_75 : decode cX9_knotsFor 75 = .ok (.if_icmp .lt 12, 3) := by decide +kernel
theorem dX9_knotsFor_78 : decode cX9_knotsFor 78 = .ok (.iload_n 1, 1) := by decide +kernel
theorem dX9_knotsFor_79 : decode cX9_knotsFor 79 = .ok (.invokestatic 377, 3) := by decide +kernel
theorem dX9_knotsFor_82 : decode cX9_knotsFor 82 = .ok (.iconst 1, 1) := by decide +kernel
theorem dX9_knotsFor_83 : decode cX9_knotsFor 83 = .ok (.isub, 1) := by decide +kernel
theorem dX9_knotsFor_84 : decode cX9_knotsFor 84 = .ok (.goto 6, 3) := by decide +kernel
theorem dX9_knotsFor_87 : decode cX9_knotsFor 87 = .ok (.ldc_w 450, 3) := by decide +kernel
theorem dX9_knotsFor_90 : decode cX9_knotsFor 90 = .ok (.ireturn, 1) := by decide +kernel
def fX9_knotsFor_70 (l0 : Nat) (l1 : Int32) (l2 : Int32) : mM Int32 := bCallV 9 l0 (fX9_depthNow l0) (fun x1 => bIf (l2 < x1) (bRet (1000000 : Int32)) (bCall (fX9_bits l1) (fun x2 => bRet (x2 - (1 : Int32)))))
set_option maxRecDepth 20000 in
theorem rX9_knotsFor_70 (v : mE) (d : Nat) (l0 : Nat) (l1 : Int32) (l2 : Int32) : Rz v RX9 cX9_knotsFor 4 (some .int) false emI (d + 2) 70 [(0, vR l0), (1, vI l1), (2, vI l2)] [] (fX9_knotsFor_70 l0 l1 l2) := by
  unfold fX9_knotsFor_70
  refine rz_iload_n 71 2 dX9_knotsFor_70 rfl rfl ?_
  refine rz_aload_n 72 0 dX9_knotsFor_71 rfl rfl ?_
  refine rz_callV 75 dX9_knotsFor_72 rfl (tX9_depthNow v (d + 0) l0) rfl rfl rfl rfl ml_X9_324 im_X9_depthNow se_X9_X9_depthNow in_X9 co_X9_depthNow rfl rfl (fun x1 => ?_)
  refine rz_icmp_lt 87 78 dX9_knotsFor_75 rfl rfl ?_ ?_
  · refine rz_ldcw 90 dX9_knotsFor_87 rfl ct_X9_450 ?_
    exact rz_ireturn rfl rfl dX9_knotsFor_90
  · refine rz_iload_n 79 1 dX9_knotsFor_78 rfl rfl ?_
    refine rz_callS 82 dX9_knotsFor_79 rfl (tX9_bits v (d + 1) l1) rfl rfl ml_X9_377 sm_X9_bits in_X9 co_X9_bits rfl rfl (fun x2 => ?_)
    refine rz_iconst 83 dX9_knotsFor_82 rfl ci_1 ?_
    refine rz_isub 84 dX9_knotsFor_83 rfl ?_
    refine rz_goto 90 dX9_knotsFor_84 rfl ?_
    exact rz_ireturn rfl rfl dX9_knotsFor_90
def fX9_knotsFor_54 (r4 : Nat → Int32 → Int32 → Int32 → mM Int32) (l0 : Nat) (l1 : Int32) (l2 : Int32) (l3 : Int32) : mM Int32 := bCallV 9 l0 (fX9_reachOf l0 l3) (fun x1 => r4 l0 l1 (l2 + (x1 - (1 : Int32))) (l3 + 1))
set_option maxRecDepth 20000 in
theorem rX9_knotsFor_54 (v : mE) (d : Nat) (r4 : Nat → Int32 → Int32 → Int32 → mM Int32) (h4 : ∀ (y0 : Nat) (y1 : Int32) (y2 : Int32) (y3 : Int32), Rz v RX9 cX9_knotsFor 4 (some .int) false emI (d + 2) 4 [(0, vR y0), (1, vI y1), (2, vI y2), (3, vI y3)] [] (r4 y0 y1 y2 y3)) (l0 : Nat) (l1 : Int32) (l2 : Int32) (l3 : Int32) : Rz v RX9 cX9_knotsFor 4 (some .int) false emI (d + 2) 54 [(0, vR l0), (1, vI l1), (2, vI l2), (3, vI l3)] [] (fX9_knotsFor_54 r4 l0 l1 l2 l3) := by
  unfold fX9_knotsFor_54
  refine rz_iload_n 55 2 dX9_knotsFor_54 rfl rfl ?_
  refine rz_aload_n 56 0 dX9_knotsFor_55 rfl rfl ?_
  refine rz_iload_n 57 3 dX9_knotsFor_56 rfl rfl ?_
  refine rz_callV 60 dX9_knotsFor_57 rfl (tX9_reachOf v (d + 0) l0 l3) rfl rfl rfl rfl ml_X9_339 im_X9_reachOf se_X9_X9_reachOf in_X9 co_X9_reachOf rfl rfl (fun x1 => ?_)
  refine rz_iconst 61 dX9_knotsFor_60 rfl ci_1 ?_
  refine rz_isub 62 dX9_knotsFor_61 rfl ?_
  refine rz_iadd 63 dX9_knotsFor_62 rfl ?_
  refine rz_istore_n (lv' := [(2, vI (l2 + (x1 - (1 : Int32)))), (0, vR l0), (1, vI l1), (3, vI l3)]) 64 dX9_knotsFor_63 rfl rfl rfl ?_
  refine rz_iinc (lv' := [(3, vI (l3 + 1)), (2, vI (l2 + (x1 - (1 : Int32)))), (0, vR l0), (1, vI l1)]) 67 3 dX9_knotsFor_64 rfl rfl (cn_1 _) rfl rfl ?_
  refine rz_goto 4 dX9_knotsFor_67 rfl ?_
  exact rz_sub [2, 3, 1, 0] rfl (h4 l0 l1 (l2 + (x1 - (1 : Int32))) (l3 + 1))
def fX9_knotsFor_4 : Nat → Nat → Int32 → Int32 → Int32 → mM Int32
  | 0 => fun _ _ _ _ => fun _ => none
  | n + 1 => fun l0 l1 l2 l3 => let r4 := fX9_knotsFor_4 n; bIf ((12 : Int32) ≤ l3) (fX9_knotsFor_70 l0 l1 l2) (bIf (((l1 >>> (l3 &&& 31)) &&& (1 : Int32)) = 0) (r4 l0 l1 l2 (l3 + 1)) (bCallV 9 l0 (fX9_isRope l0 l3) (fun x1 => bIf (x1 = 0) (bRet (1000000 : Int32)) (bGR 9 l0 24 (fun x2 => bAI 11 x2 ((61 : Int32) + l3) (fun x3 => bIf (x3 = (1 : Int32)) (bCall (fX9_bits l1) (fun x4 => bIf (x4 ≤ (1 : Int32)) (fX9_knotsFor_54 r4 l0 l1 l2 l3) (bRet (1000000 : Int32)))) (fX9_knotsFor_54 r4 l0 l1 l2 l3)))))))
theorem qX9_knotsFor_4  (n : Nat) (l0 : Nat) (l1 : Int32) (l2 : Int32) (l3 : Int32) : fX9_knotsFor_4 (n + 1) l0 l1 l2 l3 = bIf ((12 : Int32) ≤ l3) (fX9_knotsFor_70 l0 l1 l2) (bIf (((l1 >>> (l3 &&& 31)) &&& (1 : Int32)) = 0) ((fX9_knotsFor_4 n) l0 l1 l2 (l3 + 1)) (bCallV 9 l0 (fX9_isRope l0 l3) (fun x1 => bIf (x1 = 0) (bRet (1000000 : Int32)) (bGR 9 l0 24 (fun x2 => bAI 11 x2 ((61 : Int32) + l3) (fun x3 => bIf (x3 = (1 : Int32)) (bCall (fX9_bits l1) (fun x4 => bIf (x4 ≤ (1 : Int32)) (fX9_knotsFor_54 (fX9_knotsFor_4 n) l0 l1 l2 l3) (bRet (1000000 : Int32)))) (fX9_knotsFor_54 (fX9_knotsFor_4 n) l0 l1 l2 l3))))))) := rfl
set_option maxRecDepth 20000 in
theorem rX9_knotsFor_4 (v : mE) (d : Nat) : ∀ (n : Nat) (l0 : Nat) (l1 : Int32) (l2 : Int32) (l3 : Int32), Rz v RX9 cX9_knotsFor 4 (some .int) false emI (d + 2) 4 [(0, vR l0), (1, vI l1), (2, vI l2), (3, vI l3)] [] (fX9_knotsFor_4 n l0 l1 l2 l3)
  | 0, _, _, _, _ => fun _ _ _ hm => by cases hm
  | n + 1, l0, l1, l2, l3 => by
    have h4 := rX9_knotsFor_4 v d n
    unfold fX9_knotsFor_4
    generalize fX9_knotsFor_4 n = r4 at h4 ⊢
    refine rz_iload_n 5 3 dX9_knotsFor_4 rfl rfl ?_
    refine rz_bipush 7 dX9_knotsFor_5 rfl cb_12 ?_
    refine rz_icmp_ge 70 10 dX9_knotsFor_7 rfl rfl ?_ ?_
    · exact rz_sub [0, 1, 2] rfl (rX9_knotsFor_70 v d l0 l1 l2)
    · refine rz_iload_n 11 1 dX9_knotsFor_10 rfl rfl ?_
      refine rz_iload_n 12 3 dX9_knotsFor_11 rfl rfl ?_
      refine rz_ishr 13 dX9_knotsFor_12 rfl ?_
      refine rz_iconst 14 dX9_knotsFor_13 rfl ci_1 ?_
      refine rz_iand 15 dX9_knotsFor_14 rfl ?_
      refine rz_if_ne 21 18 dX9_knotsFor_15 rfl rfl ?_ ?_
      · refine rz_aload_n 22 0 dX9_knotsFor_21 rfl rfl ?_
        refine rz_iload_n 23 3 dX9_knotsFor_22 rfl rfl ?_
        refine rz_callV 26 dX9_knotsFor_23 rfl (tX9_isRope v (d + 0) l0 l3) rfl rfl rfl rfl ml_X9_318 im_X9_isRope se_X9_X9_isRope in_X9 co_X9_isRope rfl rfl (fun x1 => ?_)
        refine rz_if_eq 50 29 dX9_knotsFor_26 rfl rfl ?_ ?_
        · refine rz_ldcw 53 dX9_knotsFor_50 rfl ct_X9_450 ?_
          exact rz_ireturn rfl rfl dX9_knotsFor_53
        · refine rz_aload_n 30 0 dX9_knotsFor_29 rfl rfl ?_
          refine rz_gR 33 dX9_knotsFor_30 rfl rfl fl_X9_35 (fun x2 => ?_)
          refine rz_bipush 35 dX9_knotsFor_33 rfl cb_61 ?_
          refine rz_iload_n 36 3 dX9_knotsFor_35 rfl rfl ?_
          refine rz_iadd 37 dX9_knotsFor_36 rfl ?_
          refine rz_iald 38 dX9_knotsFor_37 rfl (fun x3 => ?_)
          refine rz_iconst 39 dX9_knotsFor_38 rfl ci_1 ?_
          refine rz_icmp_ne 54 42 dX9_knotsFor_39 rfl rfl ?_ ?_
          · exact rz_sub [0, 1, 2, 3] rfl (rX9_knotsFor_54 v d r4 h4 l0 l1 l2 l3)
          · refine rz_iload_n 43 1 dX9_knotsFor_42 rfl rfl ?_
            refine rz_callS 46 dX9_knotsFor_43 rfl (tX9_bits v (d + 1) l1) rfl rfl ml_X9_377 sm_X9_bits in_X9 co_X9_bits rfl rfl (fun x4 => ?_)
            refine rz_iconst 47 dX9_knotsFor_46 rfl ci_1 ?_
            refine rz_icmp_le 54 50 dX9_knotsFor_47 rfl rfl ?_ ?_
            · exact rz_sub [0, 1, 2, 3] rfl (rX9_knotsFor_54 v d r4 h4 l0 l1 l2 l3)
            · refine rz_ldcw 53 dX9_knotsFor_50 rfl ct_X9_450 ?_
              exact rz_ireturn rfl rfl dX9_knotsFor_53
      · refine rz_goto 64 dX9_knotsFor_18 rfl ?_
        refine rz_iinc (lv' := [(3, vI (l3 + 1)), (0, vR l0), (1, vI l1), (2, vI l2)]) 67 3 dX9_knotsFor_64 rfl rfl (cn_1 _) rfl rfl ?_
        refine rz_goto 4 dX9_knotsFor_67 rfl ?_
        exact rz_sub [1, 2, 3, 0] rfl (h4 l0 l1 l2 (l3 + 1))
def fX9_knotsFor (l0 : Nat) (l1 : Int32) : mM Int32 := fX9_knotsFor_4 fu l0 l1 (1 : Int32) (0 : Int32)
set_option maxRecDepth 20000 in
theorem rX9_knotsFor (v : mE) (d : Nat) (l0 : Nat) (l1 : Int32) : Rz v RX9 cX9_knotsFor 4 (some .int) false emI (d + 2) 0 [(0, vR l0), (1, vI l1)] [] (fX9_knotsFor l0 l1) := by
  unfold fX9_knotsFor
  refine rz_iconst 1 dX9_knotsFor_0 rfl ci_1 ?_
  refine rz_istore_n (lv' := [(2, vI (1 : Int32)), (0, vR l0), (1, vI l1)]) 2 dX9_knotsFor_1 rfl rfl rfl ?_
  refine rz_iconst 3 dX9_knotsFor_2 rfl ci_0 ?_
  refine rz_istore_n (lv' := [(3, vI (0 : Int32)), (2, vI (1 : Int32)), (0, vR l0), (1, vI l1)]) 4 dX9_knotsFor_3 rfl rfl rfl ?_
  exact rz_sub [2, 3, 1, 0] rfl (rX9_knotsFor_4 v d fu l0 l1 (1 : Int32) (0 : Int32))
theorem tX9_knotsFor (v : mE) (d : Nat) (l0 : Nat) (l1 : Int32) : Mt v yX9_knotsFor cX9_knotsFor 4 (some .int) emI (d + 2) [vR l0, vI l1] (fX9_knotsFor l0 l1) := mt_of rfl rfl (fun h => by cases h) rfl rfl (rX9_knotsFor v d l0 l1)
theorem dX9_serve_0 : decode cX9_serve 0 = .ok (.iconst 0, 1) := by decide +kernel
theorem dX9_serve_1 : decode cX9_serve 1 = .ok (.istore_n 1, 1) := by decide +kernel
theorem dX9_serve_2 : decode cX9_serve 2 = .ok (.iconst 0, 1) := by decide +kernel
theorem dX9_serve_3 : decode cX9_serve 3 = .ok (.istore_n 2, 1) := by decide +kernel
theorem dX9_serve_4 : decode cX9_serve 4 = .ok (.iload_n 2, 1) := by decide +kernel
theorem dX9_serve_5 : decode cX9_serve 5 = .ok (.aload_n 0, 1) := by decide +kernel
theorem dX9_serve_6 : decode cX9_serve 6 = .ok (.getfield 35, 3) := by decide +kernel
theorem dX9_serve_9 : decode cX9_serve 9 = .ok (.bipush 7, 2) := by decide +kernel
theorem dX9_serve_11 : decode cX9_serve 11 = .ok (.iaload, 1) := by decide +kernel
theorem dX9_serve_12 : decode cX9_serve 12 = .ok (.if_icmp .ge 25, 3) := by decide +kernel
theorem dX9_serve_15 : decode cX9_serve 15 = .ok (.iload_n 1, 1) := by decide +kernel
theorem dX9_serve_16 : decode cX9_serve 16 = .ok (.aload_n 0, 1) := by decide +kernel
theorem dX9_serve_17 : decode cX9_serve 17 = .ok (.iload_n 2, 1) := by decide +kernel
theorem dX9_serve_18 : decode cX9_serve 18 = .ok (.invokevirtual 342, 3) := by decide +kernel
theorem dX9_serve_21 : decode cX9_serve 21 = .ok (.ifCond .eq 7, 3) := by decide +kernel
theorem dX9_serve_24 : decode cX9_serve 24 = .ok (.iconst 1, 1) := by decide +kernel
theorem dX9_serve_25 : decode cX9_serve 25 = .ok (.goto 4, 3) := by decide +kernel
theorem dX9_serve_28 : decode cX9_serve 28 = .ok (.iconst 0, 1) := by decide +kernel
theorem dX9_serve_29 : decode cX9_serve 29 = .ok (.iadd, 1) := by decide +kernel
theorem dX9_serve_30 : decode cX9_serve 30 = .ok (.istore_n 1, 1) := by decide +kernel
theorem dX9_serve_31 : decode cX9_serve 31 = .ok (.iinc 2 1, 3) := by decide +kernel
theorem dX9_serve_34 : decode cX9_serve 34 = .ok (.goto (-30), 3) := by decide +kernel
theorem dX9_serve_37 : decode cX9_serve 37 = .ok (.iconst 0, 1) := by decide +kernel
theorem dX9_serve_38 : decode cX9_serve 38 = .ok (.istore_n 2, 1) := by decide +kernel
theorem dX9_serve_39 : decode cX9_serve 39 = .ok (.iload_n 2, 1) := by decide +kernel
theorem dX9_serve_40 : decode cX9_serve 40 = .ok (.sipush 4096, 3) := by decide +kernel
theorem dX9_serve_43 : decode cX9_serve 43 = .ok (.if_icmp .ge 37, 3) := by decide +kernel
theorem dX9_serve_46 : decode cX9_serve 46 = .ok (.aload_n 0, 1) := by decide +kernel
theorem dX9_serve_47 : decode cX9_serve 47 = .ok (.getfield 48, 3) := by decide +kernel
theorem dX9_serve_50 : decode cX9_serve 50 = .ok (.iload_n 2, 1) := by decide +kernel
theorem dX9_serve_51 : decode cX9_serve 51 = .ok (.iload_n 2, 1) := by decide +kernel
theorem dX9_serve_52 : decode cX9_serve 52 = .ok (.ifCond .ne 9, 3) := by decide +kernel
theorem dX9_serve_55 : decode cX9_serve 55 = .ok (.ldc_w 450, 3) := by decide +kernel
theorem dX9_serve_58 : decode cX9_serve 58 = .ok (.goto 8, 3) := by decide +kernel
theorem dX9_serve_61 : decode cX9_serve 61 = .ok (.aload_n 0, 1) := by decide +kernel
theorem dX9_serve_62 : decode cX9_serve 62 = .ok (.iload_n 2, 1) := by decide +kernel
theorem dX9_serve_63 : decode cX9_serve 63 = .ok (.invokevirtual 451, 3) := by decide +kernel
theorem dX9_serve_66 : decode cX9_serve 66 = .ok (.iastore, 1) := by decide +kernel
theorem dX9_serve_67 : decode cX9_serve 67 = .ok (.aload_n 0, 1) := by decide +kernel
theorem dX9_serve_68 : decode cX9_serve 68 = .ok (.getfield 52, 3) := by decide +kernel
theorem dX9_serve_71 : decode cX9_serve 71 = .ok (.iload_n 2, 1) := by decide +kernel
theorem dX9_serve_72 : decode cX9_serve 72 = .ok (.iconst 0, 1) := by decide +kernel
theorem dX9_serve_73 : decode cX9_serve 73 = .ok (.iastore, 1) := by decide +kernel
theorem dX9_serve_74 : decode cX9_serve 74 = .ok (.iinc 2 1, 3) := by decide +kernel
theorem dX9_serve_77 : decode cX9_serve 77 = .ok (.goto (-38), 3) := by decide +kernel
theorem dX9_serve_80 : decode cX9_serve 80 = .ok (.iconst 1, 1) := by decide +kernel
theorem dX9_serve_81 : decode cX9_serve 81 = .ok (.istore_n 2, 1) := by decide +kernel
theorem dX9_serve_82 : decode cX9_serve 82 = .ok (.iload_n 2, 1) := by decide +kernel
theorem dX9_serve_83 : decode cX9_serve 83 = .ok (.iload_n 1, 1) := by decide +kernel
theorem dX9_serve_84 : decode cX9_serve 84 = .ok (.if_icmp .gt 109, 3) := by decide +kernel
theorem dX9_serve_87 : decode cX9_serve 87 = .ok (.iconst 0, 1) := by decide +kernel
theorem dX9_serve_88 : decode cX9_serve 88 = .ok (.istore_n 3, 1) := by decide +kernel
theorem dX9_serve_89 : decode cX9_serve 89 = .ok (.iload_n 3, 1) := by decide +kernel
theorem dX9_serve_90 : decode cX9_serve 90 = .ok (.sipush 4096, 3) := by decide +kernel
theorem dX9_serve_93 : decode cX9_serve 93 = .ok (.if_icmp .ge 94, 3) := by decide +kernel
theorem dX9_serve_96 : decode cX9_serve 96 = .ok (.ldc_w 450, 3) := by decide +kernel
theorem dX9_serve_99 : decode cX9_serve 99 = .ok (.istore 4, 2) := by decide +kernel
theorem dX9_serve_101 : decode cX9_serve 101 = .ok (.iload_n 3, 1) := by decide +kernel
theorem dX9_serve_102 : decode cX9_serve 102 = .ok (.istore 5, 2) := by decide +kernel
theorem dX9_serve_104 : decode cX9_serve 104 = .ok (.iload 5, 2) := by decide +kernel
theorem dX9_serve_106 : decode cX9_serve 106 = .ok (.ifCond .le 61, 3) := by decide +kernel
theorem dX9_serve_109 : decode cX9_serve 109 = .ok (.aload_n 0, 1) := by decide +kernel
theorem dX9_serve_110 : decode cX9_serve 110 = .ok (.getfield 48, 3) := by decide +kernel
theorem dX9_serve_113 : decode cX9_serve 113 = .ok (.iload 5, 2) := by decide +kernel
theorem dX9_serve_115 : decode cX9_serve 115 = .ok (.iaload, 1) := by decide +kernel
theorem dX9_serve_116 : decode cX9_serve 116 = .ok (.ldc_w 450, 3) := by decide +kernel
theorem dX9_serve_119 : decode cX9_serve 119 = .ok (.if_icmp .ge 37, 3) := by decide +kernel
theorem dX9_serve_122 : decode cX9_serve 122 = .ok (.iload 4, 2) := by decide +kernel
theorem dX9_serve_124 : decode cX9_serve 124 = .ok (.aload_n 0, 1) := by decide +kernel
theorem dX9_serve_125 : decode cX9_serve 125 = .ok (.getfield 48, 3) := by decide +kernel
theorem dX9_serve_128 : decode cX9_serve 128 = .ok (.iload 5, 2) := by decide +kernel
theorem dX9_serve_130 : decode cX9_serve 130 = .ok (.iaload, 1) := by decide +kernel
theorem dX9_serve_131 : decode cX9_serve 131 = .ok (.aload_n 0, 1) := by decide +kernel
theorem dX9_serve_132 : decode cX9_serve 132 = .ok (.getfield 52, 3) := by decide +kernel
theorem dX9_serve_135 : decode cX9_serve 135 = .ok (.sipush 4096, 3) := by decide +kernel
theorem dX9_serve_138 : decode cX9_serve 138 = .ok (.iload_n 2, 1) := by decide +kernel
theorem dX9_serve_139 : decode cX9_serve 139 = .ok (.iconst 1, 1) := by decide +kernel
theorem dX9_serve_140 : decode cX9_serve 140 = .ok (.isub, 1) := by decide +kernel
theorem dX9_serve_141 : decode cX9_serve 141 = .ok (.imul, 1) := by decide +kernel
theorem dX9_serve_142 : decode cX9_serve 142 = .ok (.iload_n 3, 1) := by decide +kernel
theorem dX9_serve_143 : decode cX9_serve 143 = .ok (.iload 5, 2) := by decide +kernel
theorem dX9_serve_145 : decode cX9_serve 145 = .ok (.iconst (-1), 1) := by decide +kernel
theorem dX9_serve_146 : decode cX9_serve 146 = .ok (.ixor, 1) := by decide +kernel
theorem dX9_serve_147 : decode cX9_serve 147 = .ok (.iand, 1) := by decide +kernel
theorem dX9_serve_148 : decode cX9_serve 148 = .ok (.iadd, 1) := by decide +kernel
theorem dX9_serve_149 : decode cX9_serve 149 = .ok (.iaload, 1) := by decide +kernel
theorem dX9_serve_150 : decode cX9_serve 150 = .ok (.iadd, 1) := by decide +kernel
theorem dX9_serve_151 : decode cX9_serve 151 = .ok (.invokestatic 390, 3) := by decide +kernel
theorem dX9_serve_154 : decode cX9_serve 154 = .ok (.istore 4, 2) := by decide +kernel
theorem dX9_serve_156 : decode cX9_serve 156 = .ok (.iload 5, 2) := by decide +kernel
theorem dX9_serve_158 : decode cX9_serve 158 = .ok (.iconst 1, 1) := by decide +kernel
theorem dX9_serve_159 : decode cX9_serve 159 = .ok (.isub, 1) := by decide +kernel
theorem dX9_serve_160 : decode cX9_serve 160 = .ok (.iload_n 3, 1) := by decide +kernel
theorem dX9_serve_161 : decode cX9_serve 161 = .ok (.iand, 1) := by decide +kernel
theorem dX9_serve_162 : decode cX9_serve 162 = .ok (.istore 5, 2) := by decide +kernel
theorem dX9_serve_164 : decode cX9_serve 164 = .ok (.goto (-60), 3) := by decide +kernel
theorem dX9_serve_167 : decode cX9_serve 167 = .ok (.aload_n 0, 1) := by decide +kernel
theorem dX9_serve_168 : decode cX9_serve 168 = .ok (.getfield 52, 3) := by decide +kernel
theorem dX9_serve_171 : decode cX9_serve 171 = .ok (.sipush 4096, 3) := by decide +kernel
theorem dX9_serve_174 : decode cX9_serve 174 = .ok (.iload_n 2, 1) := by decide +kernel
theorem dX9_serve_175 : decode cX9_serve 175 = .ok (.imul, 1) := by decide +kernel
theorem dX9_serve_176 : decode cX9_serve 176 = .ok (.iload_n 3, 1) := by decide +kernel
theorem dX9_serve_177 : decode cX9_serve 177 = .ok (.iadd, 1) := by decide +kernel
theorem dX9_serve_178 : decode cX9_serve 178 = .ok (.iload 4, 2) := by decide +kernel
theorem dX9_serve_180 : decode cX9_serve 180 = .ok (.iastore, 1) := by decide +kernel
theorem dX9_serve_181 : decode cX9_serve 181 = .ok (.iinc 3 1, 3) := by decide +kernel
theorem dX9_serve_184 : decode cX9_serve 184 = .ok (.goto (-95), 3) := by decide +kernel
theorem dX9_serve_187 : decode cX9_serve 187 = .ok (.iinc 2 1, 3) := by decide +kernel
theorem dX9_serve_190 : decode cX9_serve 190 = .ok (.goto (-108), 3) := by decide +kernel
theorem dX9_serve_193 : decode cX9_serve 193 = .ok (.iload_n 1, 1) := by decide +kernel
theorem dX9_serve_194 : decode cX9_serve 194 = .ok (.ireturn, 1) := by decide +kernel
def fX9_serve_187 (r82 : Nat → Int32 → Int32 → mM Int32) (l0 : Nat) (l1 : Int32) (l2 : Int32) : mM Int32 := r82 l0 l1 (l2 + 1)
set_option maxRecDepth 20000 in
theorem rX9_serve_187 (v : mE) (d : Nat) (r82 : Nat → Int32 → Int32 → mM Int32) (h82 : ∀ (y0 : Nat) (y1 : Int32) (y2 : Int32), Rz v RX9 cX9_serve 6 (some .int) false emI (d + 3) 82 [(0, vR y0), (1, vI y1), (2, vI y2)] [] (r82 y0 y1 y2)) (l0 : Nat) (l1 : Int32) (l2 : Int32) : Rz v RX9 cX9_serve 6 (some .int) false emI (d + 3) 187 [(0, vR l0), (1, vI l1), (2, vI l2)] [] (fX9_serve_187 r82 l0 l1 l2) := by
  unfold fX9_serve_187
  refine rz_iinc (lv' := [(2, vI (l2 + 1)), (0, vR l0), (1, vI l1)]) 190 2 dX9_serve_187 rfl rfl (cn_1 _) rfl rfl ?_
  refine rz_goto 82 dX9_serve_190 rfl ?_
  exact rz_sub [1, 2, 0] rfl (h82 l0 l1 (l2 + 1))
def fX9_serve_167 (r82 : Nat → Int32 → Int32 → mM Int32) (r89 : Nat → Int32 → Int32 → Int32 → mM Int32) (l0 : Nat) (l1 : Int32) (l2 : Int32) (l3 : Int32) (l4 : Int32) : mM Int32 := bGR 9 l0 30 (fun x1 => bSI x1 (((4096 : Int32) * l2) + l3) l4 (r89 l0 l1 l2 (l3 + 1)))
set_option maxRecDepth 20000 in
theorem rX9_serve_167 (v : mE) (d : Nat) (r82 : Nat → Int32 → Int32 → mM Int32) (h82 : ∀ (y0 : Nat) (y1 : Int32) (y2 : Int32), Rz v RX9 cX9_serve 6 (some .int) false emI (d + 3) 82 [(0, vR y0), (1, vI y1), (2, vI y2)] [] (r82 y0 y1 y2)) (r89 : Nat → Int32 → Int32 → Int32 → mM Int32) (h89 : ∀ (y0 : Nat) (y1 : Int32) (y2 : Int32) (y3 : Int32), Rz v RX9 cX9_serve 6 (some .int) false emI (d + 3) 89 [(0, vR y0), (1, vI y1), (2, vI y2), (3, vI y3)] [] (r89 y0 y1 y2 y3)) (l0 : Nat) (l1 : Int32) (l2 : Int32) (l3 : Int32) (l4 : Int32) : Rz v RX9 cX9_serve 6 (some .int) false emI (d + 3) 167 [(0, vR l0), (1, vI l1), (2, vI l2), (3, vI l3), (4, vI l4)] [] (fX9_serve_167 r82 r89 l0 l1 l2 l3 l4) := by
  unfold fX9_serve_167
  refine rz_aload_n 168 0 dX9_serve_167 rfl rfl ?_
  refine rz_gR 171 dX9_serve_168 rfl rfl fl_X9_52 (fun x1 => ?_)
  refine rz_sipush 174 dX9_serve_171 rfl cs_4096 ?_
  refine rz_iload_n 175 2 dX9_serve_174 rfl rfl ?_
  refine rz_imul 176 dX9_serve_175 rfl ?_
  refine rz_iload_n 177 3 dX9_serve_176 rfl rfl ?_
  refine rz_iadd 178 dX9_serve_177 rfl ?_
  refine rz_iload 180 4 dX9_serve_178 rfl rfl ?_
  refine rz_iast 181 dX9_serve_180 rfl ?_
  refine rz_iinc (lv' := [(3, vI (l3 + 1)), (0, vR l0), (1, vI l1), (2, vI l2), (4, vI l4)]) 184 3 dX9_serve_181 rfl rfl (cn_1 _) rfl rfl ?_
  refine rz_goto 89 dX9_serve_184 rfl ?_
  exact rz_sub [1, 2, 3, 0] rfl (h89 l0 l1 l2 (l3 + 1))
def fX9_serve_156 (r82 : Nat → Int32 → Int32 → mM Int32) (r89 : Nat → Int32 → Int32 → Int32 → mM Int32) (r104 : Nat → Int32 → Int32 → Int32 → Int32 → Int32 → mM Int32) (l0 : Nat) (l1 : Int32) (l2 : Int32) (l3 : Int32) (l4 : Int32) (l5 : Int32) : mM Int32 := r104 l0 l1 l2 l3 l4 ((l5 - (1 : Int32)) &&& l3)
set_option maxRecDepth 20000 in
theorem rX9_serve_156 (v : mE) (d : Nat) (r82 : Nat → Int32 → Int32 → mM Int32) (h82 : ∀ (y0 : Nat) (y1 : Int32) (y2 : Int32), Rz v RX9 cX9_serve 6 (some .int) false emI (d + 3) 82 [(0, vR y0), (1, vI y1), (2, vI y2)] [] (r82 y0 y1 y2)) (r89 : Nat → Int32 → Int32 → Int32 → mM Int32) (h89 : ∀ (y0 : Nat) (y1 : Int32) (y2 : Int32) (y3 : Int32), Rz v RX9 cX9_serve 6 (some .int) false emI (d + 3) 89 [(0, vR y0), (1, vI y1), (2, vI y2), (3, vI y3)] [] (r89 y0 y1 y2 y3)) (r104 : Nat → Int32 → Int32 → Int32 → Int32 → Int32 → mM Int32) (h104 : ∀ (y0 : Nat) (y1 : Int32) (y2 : Int32) (y3 : Int32) (y4 : Int32) (y5 : Int32), Rz v RX9 cX9_serve 6 (some .int) false emI (d + 3) 104 [(0, vR y0), (1, vI y1), (2, vI y2), (3, vI y3), (4, vI y4), (5, vI y5)] [] (r104 y0 y1 y2 y3 y4 y5)) (l0 : Nat) (l1 : Int32) (l2 : Int32) (l3 : Int32) (l4 : Int32) (l5 : Int32) : Rz v RX9 cX9_serve 6 (some .int) false emI (d + 3) 156 [(0, vR l0), (1, vI l1), (2, vI l2), (3, vI l3), (4, vI l4), (5, vI l5)] [] (fX9_serve_156 r82 r89 r104 l0 l1 l2 l3 l4 l5) := by
  unfold fX9_serve_156
  refine rz_iload 158 5 dX9_serve_156 rfl rfl ?_
  refine rz_iconst 159 dX9_serve_158 rfl ci_1 ?_
  refine rz_isub 160 dX9_serve_159 rfl ?_
  refine rz_iload_n 161 3 dX9_serve_160 rfl rfl ?_
  refine rz_iand 162 dX9_serve_161 rfl ?_
  refine rz_istore (lv' := [(5, vI ((l5 - (1 : Int32)) &&& l3)), (0, vR l0), (1, vI l1), (2, vI l2), (3, vI l3), (4, vI l4)]) 164 dX9_serve_162 rfl rfl rfl ?_
  refine rz_goto 104 dX9_serve_164 rfl ?_
  exact rz_sub [1, 2, 3, 4, 5, 0] rfl (h104 l0 l1 l2 l3 l4 ((l5 - (1 : Int32)) &&& l3))
def fX9_serve_104 (r82 : Nat → Int32 → Int32 → mM Int32) (r89 : Nat → Int32 → Int32 → Int32 → mM Int32) : Nat → Nat → Int32 → Int32 → Int32 → Int32 → Int32 → mM Int32
  | 0 => fun _ _ _ _ _ _ => fun _ => none
  | n + 1 => fun l0 l1 l2 l3 l4 l5 => let r104 := fX9_serve_104 r82 r89 n; bIf (l5 ≤ 0) (fX9_serve_167 r82 r89 l0 l1 l2 l3 l4) (bGR 9 l0 29 (fun x1 => bAI 11 x1 l5 (fun x2 => bIf ((1000000 : Int32) ≤ x2) (fX9_serve_156 r82 r89 r104 l0 l1 l2 l3 l4 l5) (bGR 9 l0 29 (fun x3 => bAI 11 x3 l5 (fun x4 => bGR 9 l0 30 (fun x5 => bAI 11 x5 (((4096 : Int32) * (l2 - (1 : Int32))) + (l3 &&& (l5 ^^^ (-1 : Int32)))) (fun x6 => fX9_serve_156 r82 r89 r104 l0 l1 l2 l3 (jMin l4 (x4 + x6)) l5))))))))
theorem qX9_serve_104 (r82 : Nat → Int32 → Int32 → mM Int32) (r89 : Nat → Int32 → Int32 → Int32 → mM Int32) (n : Nat) (l0 : Nat) (l1 : Int32) (l2 : Int32) (l3 : Int32) (l4 : Int32) (l5 : Int32) : fX9_serve_104 r82 r89 (n + 1) l0 l1 l2 l3 l4 l5 = bIf (l5 ≤ 0) (fX9_serve_167 r82 r89 l0 l1 l2 l3 l4) (bGR 9 l0 29 (fun x1 => bAI 11 x1 l5 (fun x2 => bIf ((1000000 : Int32) ≤ x2) (fX9_serve_156 r82 r89 (fX9_serve_104 r82 r89 n) l0 l1 l2 l3 l4 l5) (bGR 9 l0 29 (fun x3 => bAI 11 x3 l5 (fun x4 => bGR 9 l0 30 (fun x5 => bAI 11 x5 (((4096 : Int32) * (l2 - (1 : Int32))) + (l3 &&& (l5 ^^^ (-1 : Int32)))) (fun x6 => fX9_serve_156 r82 r89 (fX9_serve_104 r82 r89 n) l0 l1 l2 l3 (jMin l4 (x4 + x6)) l5)))))))) := rfl
set_option maxRecDepth 20000 in
theorem rX9_serve_104 (v : mE) (d : Nat) (r82 : Nat → Int32 → Int32 → mM Int32) (h82 : ∀ (y0 : Nat) (y1 : Int32) (y2 : Int32), Rz v RX9 cX9_serve 6 (some .int) false emI (d + 3) 82 [(0, vR y0), (1, vI y1), (2, vI y2)] [] (r82 y0 y1 y2)) (r89 : Nat → Int32 → Int32 → Int32 → mM Int32) (h89 : ∀ (y0 : Nat) (y1 : Int32) (y2 : Int32) (y3 : Int32), Rz v RX9 cX9_serve 6 (some .int) false emI (d + 3) 89 [(0, vR y0), (1, vI y1), (2, vI y2), (3, vI y3)] [] (r89 y0 y1 y2 y3)) : ∀ (n : Nat) (l0 : Nat) (l1 : Int32) (l2 : Int32) (l3 : Int32) (l4 : Int32) (l5 : Int32), Rz v RX9 cX9_serve 6 (some .int) false emI (d + 3) 104 [(0, vR l0), (1, vI l1), (2, vI l2), (3, vI l3), (4, vI l4), (5, vI l5)] [] (fX9_serve_104 r82 r89 n l0 l1 l2 l3 l4 l5)
  | 0, _, _, _, _, _, _ => fun _ _ _ hm => by cases hm
  | n + 1, l0, l1, l2, l3, l4, l5 => by
    have h104 := rX9_serve_104 v d r82 h82 r89 h89 n
    unfold fX9_serve_104
    generalize fX9_serve_104 r82 r89 n = r104 at h104 ⊢
    refine rz_iload 106 5 dX9_serve_104 rfl rfl ?_
    refine rz_if_le 167 109 dX9_serve_106 rfl rfl ?_ ?_
    · exact rz_sub [0, 1, 2, 3, 4] rfl (rX9_serve_167 v d r82 h82 r89 h89 l0 l1 l2 l3 l4)
    · refine rz_aload_n 110 0 dX9_serve_109 rfl rfl ?_
      refine rz_gR 113 dX9_serve_110 rfl rfl fl_X9_48 (fun x1 => ?_)
      refine rz_iload 115 5 dX9_serve_113 rfl rfl ?_
      refine rz_iald 116 dX9_serve_115 rfl (fun x2 => ?_)
      refine rz_ldcw 119 dX9_serve_116 rfl ct_X9_450 ?_
      refine rz_icmp_ge 156 122 dX9_serve_119 rfl rfl ?_ ?_
      · exact rz_sub [0, 1, 2, 3, 4, 5] rfl (rX9_serve_156 v d r82 h82 r89 h89 r104 h104 l0 l1 l2 l3 l4 l5)
      · refine rz_iload 124 4 dX9_serve_122 rfl rfl ?_
        refine rz_aload_n 125 0 dX9_serve_124 rfl rfl ?_
        refine rz_gR 128 dX9_serve_125 rfl rfl fl_X9_48 (fun x3 => ?_)
        refine rz_iload 130 5 dX9_serve_128 rfl rfl ?_
        refine rz_iald 131 dX9_serve_130 rfl (fun x4 => ?_)
        refine rz_aload_n 132 0 dX9_serve_131 rfl rfl ?_
        refine rz_gR 135 dX9_serve_132 rfl rfl fl_X9_52 (fun x5 => ?_)
        refine rz_sipush 138 dX9_serve_135 rfl cs_4096 ?_
        refine rz_iload_n 139 2 dX9_serve_138 rfl rfl ?_
        refine rz_iconst 140 dX9_serve_139 rfl ci_1 ?_
        refine rz_isub 141 dX9_serve_140 rfl ?_
        refine rz_imul 142 dX9_serve_141 rfl ?_
        refine rz_iload_n 143 3 dX9_serve_142 rfl rfl ?_
        refine rz_iload 145 5 dX9_serve_143 rfl rfl ?_
        refine rz_iconst 146 dX9_serve_145 rfl ci_m1 ?_
        refine rz_ixor 147 dX9_serve_146 rfl ?_
        refine rz_iand 148 dX9_serve_147 rfl ?_
        refine rz_iadd 149 dX9_serve_148 rfl ?_
        refine rz_iald 150 dX9_serve_149 rfl (fun x6 => ?_)
        refine rz_iadd 151 dX9_serve_150 rfl ?_
        refine rz_mmin 154 dX9_serve_151 rfl ml_X9_390 rfl rfl ?_
        refine rz_istore (lv' := [(4, vI (jMin l4 (x4 + x6))), (0, vR l0), (1, vI l1), (2, vI l2), (3, vI l3), (5, vI l5)]) 156 dX9_serve_154 rfl rfl rfl ?_
        exact rz_sub [1, 2, 3, 4, 0, 5] rfl (rX9_serve_156 v d r82 h82 r89 h89 r104 h104 l0 l1 l2 l3 (jMin l4 (x4 + x6)) l5)
def fX9_serve_89 (r82 : Nat → Int32 → Int32 → mM Int32) : Nat → Nat → Int32 → Int32 → Int32 → mM Int32
  | 0 => fun _ _ _ _ => fun _ => none
  | n + 1 => fun l0 l1 l2 l3 => let r89 := fX9_serve_89 r82 n; bIf ((4096 : Int32) ≤ l3) (fX9_serve_187 r82 l0 l1 l2) (fX9_serve_104 r82 r89 fu l0 l1 l2 l3 (1000000 : Int32) l3)
theorem qX9_serve_89 (r82 : Nat → Int32 → Int32 → mM Int32) (n : Nat) (l0 : Nat) (l1 : Int32) (l2 : Int32) (l3 : Int32) : fX9_serve_89 r82 (n + 1) l0 l1 l2 l3 = bIf ((4096 : Int32) ≤ l3) (fX9_serve_187 r82 l0 l1 l2) (fX9_serve_104 r82 (fX9_serve_89 r82 n) fu l0 l1 l2 l3 (1000000 : Int32) l3) := rfl
set_option maxRecDepth 20000 in
theorem rX9_serve_89 (v : mE) (d : Nat) (r82 : Nat → Int32 → Int32 → mM Int32) (h82 : ∀ (y0 : Nat) (y1 : Int32) (y2 : Int32), Rz v RX9 cX9_serve 6 (some .int) false emI (d + 3) 82 [(0, vR y0), (1, vI y1), (2, vI y2)] [] (r82 y0 y1 y2)) : ∀ (n : Nat) (l0 : Nat) (l1 : Int32) (l2 : Int32) (l3 : Int32), Rz v RX9 cX9_serve 6 (some .int) false emI (d + 3) 89 [(0, vR l0), (1, vI l1), (2, vI l2), (3, vI l3)] [] (fX9_serve_89 r82 n l0 l1 l2 l3)
  | 0, _, _, _, _ => fun _ _ _ hm => by cases hm
  | n + 1, l0, l1, l2, l3 => by
    have h89 := rX9_serve_89 v d r82 h82 n
    unfold fX9_serve_89
    generalize fX9_serve_89 r82 n = r89 at h89 ⊢
    refine rz_iload_n 90 3 dX9_serve_89 rfl rfl ?_
    refine rz_sipush 93 dX9_serve_90 rfl cs_4096 ?_
    refine rz_icmp_ge 187 96 dX9_serve_93 rfl rfl ?_ ?_
    · exact rz_sub [0, 1, 2] rfl (rX9_serve_187 v d r82 h82 l0 l1 l2)
    · refine rz_ldcw 99 dX9_serve_96 rfl ct_X9_450 ?_
      refine rz_istore (lv' := [(4, vI (1000000 : Int32)), (0, vR l0), (1, vI l1), (2, vI l2), (3, vI l3)]) 101 dX9_serve_99 rfl rfl rfl ?_
      refine rz_iload_n 102 4 dX9_serve_101 rfl rfl ?_
      refine rz_istore (lv' := [(5, vI l3), (4, vI (1000000 : Int32)), (0, vR l0), (1, vI l1), (2, vI l2), (3, vI l3)]) 104 dX9_serve_102 rfl rfl rfl ?_
      exact rz_sub [2, 3, 4, 5, 1, 0] rfl (rX9_serve_104 v d r82 h82 r89 h89 fu l0 l1 l2 l3 (1000000 : Int32) l3)
def fX9_serve_82 : Nat → Nat → Int32 → Int32 → mM Int32
  | 0 => fun _ _ _ => fun _ => none
  | n + 1 => fun l0 l1 l2 => let r82 := fX9_serve_82 n; bIf (l1 < l2) (bRet l1) (fX9_serve_89 r82 fu l0 l1 l2 (0 : Int32))
theorem qX9_serve_82  (n : Nat) (l0 : Nat) (l1 : Int32) (l2 : Int32) : fX9_serve_82 (n + 1) l0 l1 l2 = bIf (l1 < l2) (bRet l1) (fX9_serve_89 (fX9_serve_82 n) fu l0 l1 l2 (0 : Int32)) := rfl
set_option maxRecDepth 20000 in
theorem rX9_serve_82 (v : mE) (d : Nat) : ∀ (n : Nat) (l0 : Nat) (l1 : Int32) (l2 : Int32), Rz v RX9 cX9_serve 6 (some .int) false emI (d + 3) 82 [(0, vR l0), (1, vI l1), (2, vI l2)] [] (fX9_serve_82 n l0 l1 l2)
  | 0, _, _, _ => fun _ _ _ hm => by cases hm
  | n + 1, l0, l1, l2 => by
    have h82 := rX9_serve_82 v d n
    unfold fX9_serve_82
    generalize fX9_serve_82 n = r82 at h82 ⊢
    refine rz_iload_n 83 2 dX9_serve_82 rfl rfl ?_
    refine rz_iload_n 84 1 dX9_serve_83 rfl rfl ?_
    refine rz_icmp_gt 193 87 dX9_serve_84 rfl rfl ?_ ?_
    · refine rz_iload_n 194 1 dX9_serve_193 rfl rfl ?_
      exact rz_ireturn rfl rfl dX9_serve_194
    · refine rz_iconst 88 dX9_serve_87 rfl ci_0 ?_
      refine rz_istore_n (lv' := [(3, vI (0 : Int32)), (0, vR l0), (1, vI l1), (2, vI l2)]) 89 dX9_serve_88 rfl rfl rfl ?_
      exact rz_sub [1, 2, 3, 0] rfl (rX9_serve_89 v d r82 h82 fu l0 l1 l2 (0 : Int32))
def fX9_serve_80 (l0 : Nat) (l1 : Int32) : mM Int32 := fX9_serve_82 fu l0 l1 (1 : Int32)
set_option maxRecDepth 20000 in
theorem rX9_serve_80 (v : mE) (d : Nat) (l0 : Nat) (l1 : Int32) : Rz v RX9 cX9_serve 6 (some .int) false emI (d + 3) 80 [(0, vR l0), (1, vI l1)] [] (fX9_serve_80 l0 l1) := by
  unfold fX9_serve_80
  refine rz_iconst 81 dX9_serve_80 rfl ci_1 ?_
  refine rz_istore_n (lv' := [(2, vI (1 : Int32)), (0, vR l0), (1, vI l1)]) 82 dX9_serve_81 rfl rfl rfl ?_
  exact rz_sub [1, 2, 0] rfl (rX9_serve_82 v d fu l0 l1 (1 : Int32))
def fX9_serve_66 (r39 : Nat → Int32 → Int32 → mM Int32) (l0 : Nat) (l1 : Int32) (l2 : Int32) (s0 : Int32) (s1 : Int32) (s2 : Nat) : mM Int32 := bSI s2 s1 s0 (bGR 9 l0 30 (fun x1 => bSI x1 l2 (0 : Int32) (r39 l0 l1 (l2 + 1))))
set_option maxRecDepth 20000 in
theorem rX9_serve_66 (v : mE) (d : Nat) (r39 : Nat → Int32 → Int32 → mM Int32) (h39 : ∀ (y0 : Nat) (y1 : Int32) (y2 : Int32), Rz v RX9 cX9_serve 6 (some .int) false emI (d + 3) 39 [(0, vR y0), (1, vI y1), (2, vI y2)] [] (r39 y0 y1 y2)) (l0 : Nat) (l1 : Int32) (l2 : Int32) (s0 : Int32) (s1 : Int32) (s2 : Nat) : Rz v RX9 cX9_serve 6 (some .int) false emI (d + 3) 66 [(0, vR l0), (1, vI l1), (2, vI l2)] [vI s0, vI s1, vR s2] (fX9_serve_66 r39 l0 l1 l2 s0 s1 s2) := by
  unfold fX9_serve_66
  refine rz_iast 67 dX9_serve_66 rfl ?_
  refine rz_aload_n 68 0 dX9_serve_67 rfl rfl ?_
  refine rz_gR 71 dX9_serve_68 rfl rfl fl_X9_52 (fun x1 => ?_)
  refine rz_iload_n 72 2 dX9_serve_71 rfl rfl ?_
  refine rz_iconst 73 dX9_serve_72 rfl ci_0 ?_
  refine rz_iast 74 dX9_serve_73 rfl ?_
  refine rz_iinc (lv' := [(2, vI (l2 + 1)), (0, vR l0), (1, vI l1)]) 77 2 dX9_serve_74 rfl rfl (cn_1 _) rfl rfl ?_
  refine rz_goto 39 dX9_serve_77 rfl ?_
  exact rz_sub [1, 2, 0] rfl (h39 l0 l1 (l2 + 1))
def fX9_serve_39 : Nat → Nat → Int32 → Int32 → mM Int32
  | 0 => fun _ _ _ => fun _ => none
  | n + 1 => fun l0 l1 l2 => let r39 := fX9_serve_39 n; bIf ((4096 : Int32) ≤ l2) (fX9_serve_80 l0 l1) (bGR 9 l0 29 (fun x1 => bIf (l2 = 0) (fX9_serve_66 r39 l0 l1 l2 (1000000 : Int32) l2 x1) (bCallV 9 l0 (fX9_knotsFor l0 l2) (fun x2 => fX9_serve_66 r39 l0 l1 l2 x2 l2 x1))))
theorem qX9_serve_39  (n : Nat) (l0 : Nat) (l1 : Int32) (l2 : Int32) : fX9_serve_39 (n + 1) l0 l1 l2 = bIf ((4096 : Int32) ≤ l2) (fX9_serve_80 l0 l1) (bGR 9 l0 29 (fun x1 => bIf (l2 = 0) (fX9_serve_66 (fX9_serve_39 n) l0 l1 l2 (1000000 : Int32) l2 x1) (bCallV 9 l0 (fX9_knotsFor l0 l2) (fun x2 => fX9_serve_66 (fX9_serve_39 n) l0 l1 l2 x2 l2 x1)))) := rfl
set_option maxRecDepth 20000 in
theorem rX9_serve_39 (v : mE) (d : Nat) : ∀ (n : Nat) (l0 : Nat) (l1 : Int32) (l2 : Int32), Rz v RX9 cX9_serve 6 (some .int) false emI (d + 3) 39 [(0, vR l0), (1, vI l1), (2, vI l2)] [] (fX9_serve_39 n l0 l1 l2)
  | 0, _, _, _ => fun _ _ _ hm => by cases hm
  | n + 1, l0, l1, l2 => by
    have h39 := rX9_serve_39 v d n
    unfold fX9_serve_39
    generalize fX9_serve_39 n = r39 at h39 ⊢
    refine rz_iload_n 40 2 dX9_serve_39 rfl rfl ?_
    refine rz_sipush 43 dX9_serve_40 rfl cs_4096 ?_
    refine rz_icmp_ge 80 46 dX9_serve_43 rfl rfl ?_ ?_
    · exact rz_sub [0, 1] rfl (rX9_serve_80 v d l0 l1)
    · refine rz_aload_n 47 0 dX9_serve_46 rfl rfl ?_
      refine rz_gR 50 dX9_serve_47 rfl rfl fl_X9_48 (fun x1 => ?_)
      refine rz_iload_n 51 2 dX9_serve_50 rfl rfl ?_
      refine rz_iload_n 52 2 dX9_serve_51 rfl rfl ?_
      refine rz_if_ne 61 55 dX9_serve_52 rfl rfl ?_ ?_
      · refine rz_aload_n 62 0 dX9_serve_61 rfl rfl ?_
        refine rz_iload_n 63 2 dX9_serve_62 rfl rfl ?_
        refine rz_callV 66 dX9_serve_63 rfl (tX9_knotsFor v (d + 0) l0 l2) rfl rfl rfl rfl ml_X9_451 im_X9_knotsFor se_X9_X9_knotsFor in_X9 co_X9_knotsFor rfl rfl (fun x2 => ?_)
        exact rz_sub [0, 1, 2] rfl (rX9_serve_66 v d r39 h39 l0 l1 l2 x2 l2 x1)
      · refine rz_ldcw 58 dX9_serve_55 rfl ct_X9_450 ?_
        refine rz_goto 66 dX9_serve_58 rfl ?_
        exact rz_sub [0, 1, 2] rfl (rX9_serve_66 v d r39 h39 l0 l1 l2 (1000000 : Int32) l2 x1)
def fX9_serve_37 (l0 : Nat) (l1 : Int32) : mM Int32 := fX9_serve_39 fu l0 l1 (0 : Int32)
set_option maxRecDepth 20000 in
theorem rX9_serve_37 (v : mE) (d : Nat) (l0 : Nat) (l1 : Int32) : Rz v RX9 cX9_serve 6 (some .int) false emI (d + 3) 37 [(0, vR l0), (1, vI l1)] [] (fX9_serve_37 l0 l1) := by
  unfold fX9_serve_37
  refine rz_iconst 38 dX9_serve_37 rfl ci_0 ?_
  refine rz_istore_n (lv' := [(2, vI (0 : Int32)), (0, vR l0), (1, vI l1)]) 39 dX9_serve_38 rfl rfl rfl ?_
  exact rz_sub [1, 2, 0] rfl (rX9_serve_39 v d fu l0 l1 (0 : Int32))
def fX9_serve_29 (r4 : Nat → Int32 → Int32 → mM Int32) (l0 : Nat) (l2 : Int32) (s0 : Int32) (s1 : Int32) : mM Int32 := r4 l0 (s1 + s0) (l2 + 1)
set_option maxRecDepth 20000 in
theorem rX9_serve_29 (v : mE) (d : Nat) (r4 : Nat → Int32 → Int32 → mM Int32) (h4 : ∀ (y0 : Nat) (y1 : Int32) (y2 : Int32), Rz v RX9 cX9_serve 6 (some .int) false emI (d + 3) 4 [(0, vR y0), (1, vI y1), (2, vI y2)] [] (r4 y0 y1 y2)) (l0 : Nat) (l2 : Int32) (s0 : Int32) (s1 : Int32) : Rz v RX9 cX9_serve 6 (some .int) false emI (d + 3) 29 [(0, vR l0), (2, vI l2)] [vI s0, vI s1] (fX9_serve_29 r4 l0 l2 s0 s1) := by
  unfold fX9_serve_29
  refine rz_iadd 30 dX9_serve_29 rfl ?_
  refine rz_istore_n (lv' := [(1, vI (s1 + s0)), (0, vR l0), (2, vI l2)]) 31 dX9_serve_30 rfl rfl rfl ?_
  refine rz_iinc (lv' := [(2, vI (l2 + 1)), (1, vI (s1 + s0)), (0, vR l0)]) 34 2 dX9_serve_31 rfl rfl (cn_1 _) rfl rfl ?_
  refine rz_goto 4 dX9_serve_34 rfl ?_
  exact rz_sub [2, 1, 0] rfl (h4 l0 (s1 + s0) (l2 + 1))
def fX9_serve_4 : Nat → Nat → Int32 → Int32 → mM Int32
  | 0 => fun _ _ _ => fun _ => none
  | n + 1 => fun l0 l1 l2 => let r4 := fX9_serve_4 n; bGR 9 l0 24 (fun x1 => bAI 11 x1 (7 : Int32) (fun x2 => bIf (x2 ≤ l2) (fX9_serve_37 l0 l1) (bCallV 9 l0 (fX9_isAlive l0 l2) (fun x3 => bIf (x3 = 0) (fX9_serve_29 r4 l0 l2 (0 : Int32) l1) (fX9_serve_29 r4 l0 l2 (1 : Int32) l1)))))
theorem qX9_serve_4  (n : Nat) (l0 : Nat) (l1 : Int32) (l2 : Int32) : fX9_serve_4 (n + 1) l0 l1 l2 = bGR 9 l0 24 (fun x1 => bAI 11 x1 (7 : Int32) (fun x2 => bIf (x2 ≤ l2) (fX9_serve_37 l0 l1) (bCallV 9 l0 (fX9_isAlive l0 l2) (fun x3 => bIf (x3 = 0) (fX9_serve_29 (fX9_serve_4 n) l0 l2 (0 : Int32) l1) (fX9_serve_29 (fX9_serve_4 n) l0 l2 (1 : Int32) l1))))) := rfl
set_option maxRecDepth 20000 in
theorem rX9_serve_4 (v : mE) (d : Nat) : ∀ (n : Nat) (l0 : Nat) (l1 : Int32) (l2 : Int32), Rz v RX9 cX9_serve 6 (some .int) false emI (d + 3) 4 [(0, vR l0), (1, vI l1), (2, vI l2)] [] (fX9_serve_4 n l0 l1 l2)
  | 0, _, _, _ => fun _ _ _ hm => by cases hm
  | n + 1, l0, l1, l2 => by
    have h4 := rX9_serve_4 v d n
    unfold fX9_serve_4
    generalize fX9_serve_4 n = r4 at h4 ⊢
    refine rz_iload_n 5 2 dX9_serve_4 rfl rfl ?_
    refine rz_aload_n 6 0 dX9_serve_5 rfl rfl ?_
    refine rz_gR 9 dX9_serve_6 rfl rfl fl_X9_35 (fun x1 => ?_)
    refine rz_bipush 11 dX9_serve_9 rfl cb_7 ?_
    refine rz_iald 12 dX9_serve_11 rfl (fun x2 => ?_)
    refine rz_icmp_ge 37 15 dX9_serve_12 rfl rfl ?_ ?_
    · exact rz_sub [0, 1] rfl (rX9_serve_37 v d l0 l1)
    · refine rz_iload_n 16 1 dX9_serve_15 rfl rfl ?_
      refine rz_aload_n 17 0 dX9_serve_16 rfl rfl ?_
      refine rz_iload_n 18 2 dX9_serve_17 rfl rfl ?_
      refine rz_callV 21 dX9_serve_18 rfl (tX9_isAlive v (d + 2) l0 l2) rfl rfl rfl rfl ml_X9_342 im_X9_isAlive se_X9_X9_isAlive in_X9 co_X9_isAlive rfl rfl (fun x3 => ?_)
      refine rz_if_eq 28 24 dX9_serve_21 rfl rfl ?_ ?_
      · refine rz_iconst 29 dX9_serve_28 rfl ci_0 ?_
        exact rz_sub [0, 2] rfl (rX9_serve_29 v d r4 h4 l0 l2 (0 : Int32) l1)
      · refine rz_iconst 25 dX9_serve_24 rfl ci_1 ?_
        refine rz_goto 29 dX9_serve_25 rfl ?_
        exact rz_sub [0, 2] rfl (rX9_serve_29 v d r4 h4 l0 l2 (1 : Int32) l1)
def fX9_serve (l0 : Nat) : mM Int32 := fX9_serve_4 fu l0 (0 : Int32) (0 : Int32)
set_option maxRecDepth 20000 in
theorem rX9_serve (v : mE) (d : Nat) (l0 : Nat) : Rz v RX9 cX9_serve 6 (some .int) false emI (d + 3) 0 [(0, vR l0)] [] (fX9_serve l0) := by
  unfold fX9_serve
  refine rz_iconst 1 dX9_serve_0 rfl ci_0 ?_
  refine rz_istore_n (lv' := [(1, vI (0 : Int32)), (0, vR l0)]) 2 dX9_serve_1 rfl rfl rfl ?_
  refine rz_iconst 3 dX9_serve_2 rfl ci_0 ?_
  refine rz_istore_n (lv' := [(2, vI (0 : Int32)), (1, vI (0 : Int32)), (0, vR l0)]) 4 dX9_serve_3 rfl rfl rfl ?_
  exact rz_sub [2, 1, 0] rfl (rX9_serve_4 v d fu l0 (0 : Int32) (0 : Int32))
theorem tX9_serve (v : mE) (d : Nat) (l0 : Nat) : Mt v yX9_serve cX9_serve 6 (some .int) emI (d + 3) [vR l0] (fX9_serve l0) := mt_of rfl rfl (fun h => by cases h) rfl rfl (rX9_serve v d l0)
theorem dX9_plan_0 : decode cX9_plan 0 = .ok (.aload_n 0, 1) := by decide +kernel
theorem dX9_plan_1 : decode cX9_plan 1 = .ok (.iconst 0, 1) := by decide +kernel
theorem dX9_plan_2 : decode cX9_plan 2 = .ok (.putfield 62, 3) := by decide +kernel
theorem dX9_plan_5 : decode cX9_plan 5 = .ok (.aload_n 0, 1) := by decide +kernel
theorem dX9_plan_6 : decode cX9_plan 6 = .ok (.iconst 0, 1) := by decide +kernel
theorem dX9_plan_7 : decode cX9_plan 7 = .ok (.putfield 65, 3) := by decide +kernel
theorem dX9_plan_10 : decode cX9_plan 10 = .ok (.aload_n 0, 1) := by decide +kernel
theorem dX9_plan_11 : decode cX9_plan 11 = .ok (.invokevirtual 454, 3) := by decide +kernel
theorem dX9_plan_14 : decode cX9_plan 14 = .ok (.istore_n 1, 1) := by decide +kernel
theorem dX9_plan_15 : decode cX9_plan 15 = .ok (.iload_n 1, 1) := by decide +kernel
theorem dX9_plan_16 : decode cX9_plan 16 = .ok (.ifCond .ne 10, 3) := by decide +kernel
theorem dX9_plan_19 : decode cX9_plan 19 = .ok (.aload_n 0, 1) := by decide +kernel
theorem dX9_plan_20 : decode cX9_plan 20 = .ok (.bipush 8, 2) := by decide +kernel
theorem dX9_plan_22 : decode cX9_plan 22 = .ok (.invokevirtual 357, 3) := by decide +kernel
theorem dX9_plan_25 : decode cX9_plan 25 = .ok (.ireturn, 1) := by decide +kernel
theorem dX9_plan_26 : decode cX9_plan 26 = .ok (.aload_n 0, 1) := by decide +kernel
theorem dX9_plan_27 : decode cX9_plan 27 = .ok (.getfield 52, 3) := by decide +kernel
theorem dX9_plan_30 : decode cX9_plan 30 = .ok (.sipush 4096, 3) := by decide +kernel
theorem dX9_plan_33 : decode cX9_plan 33 = .ok (.iload_n 1, 1) := by decide +kernel
theorem dX9_plan_34 : decode cX9_plan 34 = .ok (.imul, 1) := by decide +kernel
theorem dX9_plan_35 : decode cX9_plan 35 = .ok (.sipush 4095, 3) := by decide +kernel
theorem dX9_plan_38 : decode cX9_plan 38 = .ok (.iadd, 1) := by decide +kernel
theorem dX9_plan_39 : decode cX9_plan 39 = .ok (.iaload, 1) := by decide +kernel
theorem dX9_plan_40 : decode cX9_plan 40 = .ok (.istore_n 2, 1) := by decide +kernel
theorem dX9_plan_41 : decode cX9_plan 41 = .ok (.aload_n 0, 1) := by decide +kernel
theorem dX9_plan_42 : decode cX9_plan 42 = .ok (.invokevirtual 345, 3) := by decide +kernel
theorem dX9_plan_45 : decode cX9_plan 45 = .ok (.ifCond .ne 10, 3) := by decide +kernel
theorem dX9_plan_48 : decode cX9_plan 48 = .ok (.iload_n 2, 1) := by decide +kernel
theorem dX9_plan_49 : decode cX9_plan 49 = .ok (.ldc_w 450, 3) := by decide +kernel
theorem dX9_plan_52 : decode cX9_plan 52 = .ok (.if_icmp .lt 12, 3) := by decide +kernel
theorem dX9_plan_55 : decode cX9_plan 55 = .ok (.aload_n 0, 1) := by decide +kernel
theorem dX9_plan_56 : decode cX9_plan 56 = .ok (.bipush 9, 2) := by decide +kernel
theorem dX9_plan_58 : decode cX9_plan 58 = .ok (.invokevirtual 357, 3) := by decide +kernel
theorem dX9_plan_61 : decode cX9_plan 61 = .ok (.goto 4, 3) := by decide +kernel
theorem dX9_plan_64 : decode cX9_plan 64 = .ok (.iload_n 2, 1) := by decide +kernel
theorem dX9_plan_65 : decode cX9_plan 65 = .ok (.ireturn, 1) := by decide +kernel
def fX9_plan_55 (l0 : Nat) : mM Int32 := bCallV 9 l0 (fX9_refuse l0 (9 : Int32)) (fun x1 => bRet x1)
set_option maxRecDepth 20000 in
theorem rX9_plan_55 (v : mE) (d : Nat) (l0 : Nat) : Rz v RX9 cX9_plan 3 (some .int) false emI (d + 4) 55 [(0, vR l0)] [] (fX9_plan_55 l0) := by
  unfold fX9_plan_55
  refine rz_aload_n 56 0 dX9_plan_55 rfl rfl ?_
  refine rz_bipush 58 dX9_plan_56 rfl cb_9 ?_
  refine rz_callV 61 dX9_plan_58 rfl (tX9_refuse v (d + 3) l0 (9 : Int32)) rfl rfl rfl rfl ml_X9_357 im_X9_refuse se_X9_X9_refuse in_X9 co_X9_refuse rfl rfl (fun x1 => ?_)
  refine rz_goto 65 dX9_plan_61 rfl ?_
  exact rz_ireturn rfl rfl dX9_plan_65
def fX9_plan (l0 : Nat) : mM Int32 := bPI 9 l0 1 (0 : Int32) (bPI 9 l0 0 (0 : Int32) (bCallV 9 l0 (fX9_serve l0) (fun x1 => bIf (x1 = 0) (bCallV 9 l0 (fX9_refuse l0 (8 : Int32)) (fun x5 => bRet x5)) (bGR 9 l0 30 (fun x2 => bAI 11 x2 (((4096 : Int32) * x1) + (4095 : Int32)) (fun x3 => bCallV 9 l0 (fX9_isDry l0) (fun x4 => bIf (x4 = 0) (bIf (x3 < (1000000 : Int32)) (bRet x3) (fX9_plan_55 l0)) (fX9_plan_55 l0))))))))
set_option maxRecDepth 20000 in
theorem rX9_plan (v : mE) (d : Nat) (l0 : Nat) : Rz v RX9 cX9_plan 3 (some .int) false emI (d + 4) 0 [(0, vR l0)] [] (fX9_plan l0) := by
  unfold fX9_plan
  refine rz_aload_n 1 0 dX9_plan_0 rfl rfl ?_
  refine rz_iconst 2 dX9_plan_1 rfl ci_0 ?_
  refine rz_pI 5 dX9_plan_2 rfl rfl rfl rfl fl_X9_62 ?_
  refine rz_aload_n 6 0 dX9_plan_5 rfl rfl ?_
  refine rz_iconst 7 dX9_plan_6 rfl ci_0 ?_
  refine rz_pI 10 dX9_plan_7 rfl rfl rfl rfl fl_X9_65 ?_
  refine rz_aload_n 11 0 dX9_plan_10 rfl rfl ?_
  refine rz_callV 14 dX9_plan_11 rfl (tX9_serve v (d + 0) l0) rfl rfl rfl rfl ml_X9_454 im_X9_serve se_X9_X9_serve in_X9 co_X9_serve rfl rfl (fun x1 => ?_)
  refine rz_istore_n (lv' := [(1, vI x1), (0, vR l0)]) 15 dX9_plan_14 rfl rfl rfl ?_
  refine rz_iload_n 16 0 dX9_plan_15 rfl rfl ?_
  refine rz_if_ne 26 19 dX9_plan_16 rfl rfl ?_ ?_
  · refine rz_aload_n 27 1 dX9_plan_26 rfl rfl ?_
    refine rz_gR 30 dX9_plan_27 rfl rfl fl_X9_52 (fun x2 => ?_)
    refine rz_sipush 33 dX9_plan_30 rfl cs_4096 ?_
    refine rz_iload_n 34 0 dX9_plan_33 rfl rfl ?_
    refine rz_imul 35 dX9_plan_34 rfl ?_
    refine rz_sipush 38 dX9_plan_35 rfl cs_4095 ?_
    refine rz_iadd 39 dX9_plan_38 rfl ?_
    refine rz_iald 40 dX9_plan_39 rfl (fun x3 => ?_)
    refine rz_istore_n (lv' := [(2, vI x3), (1, vI x1), (0, vR l0)]) 41 dX9_plan_40 rfl rfl rfl ?_
    refine rz_aload_n 42 2 dX9_plan_41 rfl rfl ?_
    refine rz_callV 45 dX9_plan_42 rfl (tX9_isDry v (d + 1) l0) rfl rfl rfl rfl ml_X9_345 im_X9_isDry se_X9_X9_isDry in_X9 co_X9_isDry rfl rfl (fun x4 => ?_)
    refine rz_if_ne 55 48 dX9_plan_45 rfl rfl ?_ ?_
    · exact rz_sub [2] rfl (rX9_plan_55 v d l0)
    · refine rz_iload_n 49 0 dX9_plan_48 rfl rfl ?_
      refine rz_ldcw 52 dX9_plan_49 rfl ct_X9_450 ?_
      refine rz_icmp_lt 64 55 dX9_plan_52 rfl rfl ?_ ?_
      · refine rz_iload_n 65 0 dX9_plan_64 rfl rfl ?_
        exact rz_ireturn rfl rfl dX9_plan_65
      · exact rz_sub [2] rfl (rX9_plan_55 v d l0)
  · refine rz_aload_n 20 1 dX9_plan_19 rfl rfl ?_
    refine rz_bipush 22 dX9_plan_20 rfl cb_8 ?_
    refine rz_callV 25 dX9_plan_22 rfl (tX9_refuse v (d + 3) l0 (8 : Int32)) rfl rfl rfl rfl ml_X9_357 im_X9_refuse se_X9_X9_refuse in_X9 co_X9_refuse rfl rfl (fun x5 => ?_)
    exact rz_ireturn rfl rfl dX9_plan_25
theorem tX9_plan (v : mE) (d : Nat) (l0 : Nat) : Mt v yX9_plan cX9_plan 3 (some .int) emI (d + 4) [vR l0] (fX9_plan l0) := mt_of rfl rfl (fun h => by cases h) rfl rfl (rX9_plan v d l0)
theorem dX9_spread_0 : decode cX9_spread 0 = .ok (.aload_n 0, 1) := by decide +kernel
theorem dX9_spread_1 : decode cX9_spread 1 = .ok (.iconst 0, 1) := by decide +kernel
theorem dX9_spread_2 : decode cX9_spread 2 = .ok (.putfield 62, 3) := by decide +kernel
theorem dX9_spread_5 : decode cX9_spread 5 = .ok (.aload_n 0, 1) := by decide +kernel
theorem dX9_spread_6 : decode cX9_spread 6 = .ok (.iconst 0, 1) := by decide +kernel
theorem dX9_spread_7 : decode cX9_spread 7 = .ok (.putfield 65, 3) := by decide +kernel
theorem dX9_spread_10 : decode cX9_spread 10 = .ok (.iload_n 1, 1) := by decide +kernel
theorem dX9_spread_11 : decode cX9_spread 11 = .ok (.i2l, 1) := by decide +kernel
theorem dX9_spread_12 : decode cX9_spread 12 = .ok (.lconst 0, 1) := by decide +kernel
theorem dX9_spread_13 : decode cX9_spread 13 = .ok (.ldc2_w 316, 3) := by decide +kernel
theorem dX9_spread_16 : decode cX9_spread 16 = .ok (.invokestatic 97, 3) := by decide +kernel
theorem dX9_spread_19 : decode cX9_spread 19 = .ok (.ifCond .ne 9, 3) := by decide +kernel
theorem dX9_spread_22 : decode cX9_spread 22 = .ok (.aload_n 0, 1) := by decide +kernel
theorem dX9_spread_23 : decode cX9_spread 23 = .ok (.iconst 5, 1) := by decide +kernel
theorem dX9_spread_24 : decode cX9_spread 24 = .ok (.invokevirtual 357, 3) := by decide +kernel
theorem dX9_spread_27 : decode cX9_spread 27 = .ok (.ireturn, 1) := by decide +kernel
theorem dX9_spread_28 : decode cX9_spread 28 = .ok (.aload_n 0, 1) := by decide +kernel
theorem dX9_spread_29 : decode cX9_spread 29 = .ok (.invokevirtual 345, 3) := by decide +kernel
theorem dX9_spread_32 : decode cX9_spread 32 = .ok (.ifCond .eq 5, 3) := by decide +kernel
theorem dX9_spread_35 : decode cX9_spread 35 = .ok (.iconst 0, 1) := by decide +kernel
theorem dX9_spread_36 : decode cX9_spread 36 = .ok (.ireturn, 1) := by decide +kernel
theorem dX9_spread_37 : decode cX9_spread 37 = .ok (.aload_n 0, 1) := by decide +kernel
theorem dX9_spread_38 : decode cX9_spread 38 = .ok (.invokevirtual 454, 3) := by decide +kernel
theorem dX9_spread_41 : decode cX9_spread 41 = .ok (.istore_n 2, 1) := by decide +kernel
theorem dX9_spread_42 : decode cX9_spread 42 = .ok (.aload_n 0, 1) := by decide +kernel
theorem dX9_spread_43 : decode cX9_spread 43 = .ok (.getfield 52, 3) := by decide +kernel
theorem dX9_spread_46 : decode cX9_spread 46 = .ok (.sipush 4096, 3) := by decide +kernel
theorem dX9_spread_49 : decode cX9_spread 49 = .ok (.iload_n 2, 1) := by decide +kernel
theorem dX9_spread_50 : decode cX9_spread 50 = .ok (.imul, 1) := by decide +kernel
theorem dX9_spread_51 : decode cX9_spread 51 = .ok (.sipush 4095, 3) := by decide +kernel
theorem dX9_spread_54 : decode cX9_spread 54 = .ok (.iadd, 1) := by decide +kernel
theorem dX9_spread_55 : decode cX9_spread 55 = .ok (.iaload, 1) := by decide +kernel
theorem dX9_spread_56 : decode cX9_spread 56 = .ok (.iload_n 1, 1) := by decide +kernel
theorem dX9_spread_57 : decode cX9_spread 57 = .ok (.if_icmp .le 9, 3) := by decide +kernel
theorem dX9_spread_60 : decode cX9_spread 60 = .ok (.iinc 2 (-1), 3) := by decide +kernel
theorem dX9_spread_63 : decode cX9_spread 63 = .ok (.goto (-21), 3) := by decide +kernel
theorem dX9_spread_66 : decode cX9_spread 66 = .ok (.iload_n 2, 1) := by decide +kernel
theorem dX9_spread_67 : decode cX9_spread 67 = .ok (.ireturn, 1) := by decide +kernel
def fX9_spread_42 : Nat → Nat → Int32 → Int32 → mM Int32
  | 0 => fun _ _ _ => fun _ => none
  | n + 1 => fun l0 l1 l2 => let r42 := fX9_spread_42 n; bGR 9 l0 30 (fun x1 => bAI 11 x1 (((4096 : Int32) * l2) + (4095 : Int32)) (fun x2 => bIf (x2 ≤ l1) (bRet l2) (r42 l0 l1 (l2 + (-1)))))
theorem qX9_spread_42  (n : Nat) (l0 : Nat) (l1 : Int32) (l2 : Int32) : fX9_spread_42 (n + 1) l0 l1 l2 = bGR 9 l0 30 (fun x1 => bAI 11 x1 (((4096 : Int32) * l2) + (4095 : Int32)) (fun x2 => bIf (x2 ≤ l1) (bRet l2) ((fX9_spread_42 n) l0 l1 (l2 + (-1))))) := rfl
set_option maxRecDepth 20000 in
theorem rX9_spread_42 (v : mE) (d : Nat) : ∀ (n : Nat) (l0 : Nat) (l1 : Int32) (l2 : Int32), Rz v RX9 cX9_spread 3 (some .int) false emI (d + 4) 42 [(0, vR l0), (1, vI l1), (2, vI l2)] [] (fX9_spread_42 n l0 l1 l2)
  | 0, _, _, _ => fun _ _ _ hm => by cases hm
  | n + 1, l0, l1, l2 => by
    have h42 := rX9_spread_42 v d n
    unfold fX9_spread_42
    generalize fX9_spread_42 n = r42 at h42 ⊢
    refine rz_aload_n 43 0 dX9_spread_42 rfl rfl ?_
    refine rz_gR 46 dX9_spread_43 rfl rfl fl_X9_52 (fun x1 => ?_)
    refine rz_sipush 49 dX9_spread_46 rfl cs_4096 ?_
    refine rz_iload_n 50 2 dX9_spread_49 rfl rfl ?_
    refine rz_imul 51 dX9_spread_50 rfl ?_
    refine rz_sipush 54 dX9_spread_51 rfl cs_4095 ?_
    refine rz_iadd 55 dX9_spread_54 rfl ?_
    refine rz_iald 56 dX9_spread_55 rfl (fun x2 => ?_)
    refine rz_iload_n 57 1 dX9_spread_56 rfl rfl ?_
    refine rz_icmp_le 66 60 dX9_spread_57 rfl rfl ?_ ?_
    · refine rz_iload_n 67 2 dX9_spread_66 rfl rfl ?_
      exact rz_ireturn rfl rfl dX9_spread_67
    · refine rz_iinc (lv' := [(2, vI (l2 + (-1))), (0, vR l0), (1, vI l1)]) 63 2 dX9_spread_60 rfl rfl (cn_m1 _) rfl rfl ?_
      refine rz_goto 42 dX9_spread_63 rfl ?_
      exact rz_sub [1, 2, 0] rfl (h42 l0 l1 (l2 + (-1)))
def fX9_spread (l0 : Nat) (l1 : Int32) : mM Int32 := bPI 9 l0 1 (0 : Int32) (bPI 9 l0 0 (0 : Int32) (bCall (fX9_isIn (Int32.toInt64 l1) (0 : Int64) (11 : Int64)) (fun x1 => bIf (x1 = 0) (bCallV 9 l0 (fX9_refuse l0 (5 : Int32)) (fun x4 => bRet x4)) (bCallV 9 l0 (fX9_isDry l0) (fun x2 => bIf (x2 = 0) (bCallV 9 l0 (fX9_serve l0) (fun x3 => fX9_spread_42 fu l0 l1 x3)) (bRet (0 : Int32)))))))
set_option maxRecDepth 20000 in
theorem rX9_spread (v : mE) (d : Nat) (l0 : Nat) (l1 : Int32) : Rz v RX9 cX9_spread 3 (some .int) false emI (d + 4) 0 [(0, vR l0), (1, vI l1)] [] (fX9_spread l0 l1) := by
  unfold fX9_spread
  refine rz_aload_n 1 0 dX9_spread_0 rfl rfl ?_
  refine rz_iconst 2 dX9_spread_1 rfl ci_0 ?_
  refine rz_pI 5 dX9_spread_2 rfl rfl rfl rfl fl_X9_62 ?_
  refine rz_aload_n 6 0 dX9_spread_5 rfl rfl ?_
  refine rz_iconst 7 dX9_spread_6 rfl ci_0 ?_
  refine rz_pI 10 dX9_spread_7 rfl rfl rfl rfl fl_X9_65 ?_
  refine rz_iload_n 11 1 dX9_spread_10 rfl rfl ?_
  refine rz_i2l 12 dX9_spread_11 rfl ?_
  refine rz_lconst 13 dX9_spread_12 rfl cl_0 ?_
  refine rz_ldc2 16 dX9_spread_13 rfl cu_X9_316 ?_
  refine rz_callS 19 dX9_spread_16 rfl (tX9_isIn v (d + 3) (Int32.toInt64 l1) (0 : Int64) (11 : Int64)) rfl rfl ml_X9_97 sm_X9_isIn in_X9 co_X9_isIn rfl rfl (fun x1 => ?_)
  refine rz_if_ne 28 22 dX9_spread_19 rfl rfl ?_ ?_
  · refine rz_aload_n 29 0 dX9_spread_28 rfl rfl ?_
    refine rz_callV 32 dX9_spread_29 rfl (tX9_isDry v (d + 1) l0) rfl rfl rfl rfl ml_X9_345 im_X9_isDry se_X9_X9_isDry in_X9 co_X9_isDry rfl rfl (fun x2 => ?_)
    refine rz_if_eq 37 35 dX9_spread_32 rfl rfl ?_ ?_
    · refine rz_aload_n 38 0 dX9_spread_37 rfl rfl ?_
      refine rz_callV 41 dX9_spread_38 rfl (tX9_serve v (d + 0) l0) rfl rfl rfl rfl ml_X9_454 im_X9_serve se_X9_X9_serve in_X9 co_X9_serve rfl rfl (fun x3 => ?_)
      refine rz_istore_n (lv' := [(2, vI x3), (0, vR l0), (1, vI l1)]) 42 dX9_spread_41 rfl rfl rfl ?_
      exact rz_sub [1, 2, 0] rfl (rX9_spread_42 v d fu l0 l1 x3)
    · refine rz_iconst 36 dX9_spread_35 rfl ci_0 ?_
      exact rz_ireturn rfl rfl dX9_spread_36
  · refine rz_aload_n 23 0 dX9_spread_22 rfl rfl ?_
    refine rz_iconst 24 dX9_spread_23 rfl ci_5 ?_
    refine rz_callV 27 dX9_spread_24 rfl (tX9_refuse v (d + 3) l0 (5 : Int32)) rfl rfl rfl rfl ml_X9_357 im_X9_refuse se_X9_X9_refuse in_X9 co_X9_refuse rfl rfl (fun x4 => ?_)
    exact rz_ireturn rfl rfl dX9_spread_27
theorem tX9_spread (v : mE) (d : Nat) (l0 : Nat) (l1 : Int32) : Mt v yX9_spread cX9_spread 3 (some .int) emI (d + 4) [vR l0, vI l1] (fX9_spread l0 l1) := mt_of rfl rfl (fun h => by cases h) rfl rfl (rX9_spread v d l0 l1)
theorem dX9_power_0 : decode cX9_power 0 = .ok (.lconst 1, 1) := by decide +kernel
theorem dX9_power_1 : decode cX9_power 1 = .ok (.lstore_n 3, 1) := by decide +kernel
theorem dX9_power_2 : decode cX9_power 2 = .ok (.iconst 0, 1) := by decide +kernel
theorem dX9_power_3 : decode cX9_power 3 = .ok (.istore 5, 2) := by decide +kernel
theorem dX9_power_5 : decode cX9_power 5 = .ok (.iload 5, 2) := by decide +kernel
theorem dX9_power_7 : decode cX9_power 7 = .ok (.iload_n 2, 1) := by decide +kernel
theorem dX9_power_8 : decode cX9_power 8 = .ok (.if_icmp .ge 13, 3) := by decide +kernel
theorem dX9_power_11 : decode cX9_power 11 = .ok (.lload_n 3, 1) := by decide +kernel
theorem dX9_power_12 : decode cX9_power 12 = .ok (.lload_n 0, 1) := by decide +kernel
theorem dX9_power_13 : decode cX9_power 13 = .ok (.lmul, 1) := by decide +kernel
theorem dX9_power_14 : decode cX9_power 14 = .ok (.lstore_n 3, 1) := by decide +kernel
theorem dX9_power_15 : decode cX9_power 15 = .ok (.iinc 5 1, 3) := by decide +kernel
theorem dX9_power_18 : decode cX9_power 18 = .ok (.goto (-13), 3) := by decide +kernel
theorem dX9_power_21 : decode cX9_power 21 = .ok (.lload_n 3, 1) := by decide +kernel
theorem dX9_power_22 : decode cX9_power 22 = .ok (.lreturn, 1) := by decide +kernel
def fX9_power_5 : Nat → Int64 → Int32 → Int64 → Int32 → mM Int64
  | 0 => fun _ _ _ _ => fun _ => none
  | n + 1 => fun l0 l2 l3 l5 => let r5 := fX9_power_5 n; bIf (l2 ≤ l5) (bRet l3) (r5 l0 l2 (l3 * l0) (l5 + 1))
theorem qX9_power_5  (n : Nat) (l0 : Int64) (l2 : Int32) (l3 : Int64) (l5 : Int32) : fX9_power_5 (n + 1) l0 l2 l3 l5 = bIf (l2 ≤ l5) (bRet l3) ((fX9_power_5 n) l0 l2 (l3 * l0) (l5 + 1)) := rfl
set_option maxRecDepth 20000 in
theorem rX9_power_5 (v : mE) (d : Nat) : ∀ (n : Nat) (l0 : Int64) (l2 : Int32) (l3 : Int64) (l5 : Int32), Rz v RX9 cX9_power 6 (some .long) false emL (d + 0) 5 [(0, vL l0), (2, vI l2), (3, vL l3), (5, vI l5)] [] (fX9_power_5 n l0 l2 l3 l5)
  | 0, _, _, _, _ => fun _ _ _ hm => by cases hm
  | n + 1, l0, l2, l3, l5 => by
    have h5 := rX9_power_5 v d n
    unfold fX9_power_5
    generalize fX9_power_5 n = r5 at h5 ⊢
    refine rz_iload 7 3 dX9_power_5 rfl rfl ?_
    refine rz_iload_n 8 1 dX9_power_7 rfl rfl ?_
    refine rz_icmp_ge 21 11 dX9_power_8 rfl rfl ?_ ?_
    · refine rz_lload_n 22 2 dX9_power_21 rfl rfl ?_
      exact rz_lreturn rfl rfl dX9_power_22
    · refine rz_lload_n 12 2 dX9_power_11 rfl rfl ?_
      refine rz_lload_n 13 0 dX9_power_12 rfl rfl ?_
      refine rz_lmul 14 dX9_power_13 rfl ?_
      refine rz_lstore_n (lv' := [(3, vL (l3 * l0)), (0, vL l0), (2, vI l2), (5, vI l5)]) 15 dX9_power_14 rfl rfl rfl ?_
      refine rz_iinc (lv' := [(5, vI (l5 + 1)), (3, vL (l3 * l0)), (0, vL l0), (2, vI l2)]) 18 3 dX9_power_15 rfl rfl (cn_1 _) rfl rfl ?_
      refine rz_goto 5 dX9_power_18 rfl ?_
      exact rz_sub [2, 3, 1, 0] rfl (h5 l0 l2 (l3 * l0) (l5 + 1))
def fX9_power (l0 : Int64) (l2 : Int32) : mM Int64 := fX9_power_5 fu l0 l2 (1 : Int64) (0 : Int32)
set_option maxRecDepth 20000 in
theorem rX9_power (v : mE) (d : Nat) (l0 : Int64) (l2 : Int32) : Rz v RX9 cX9_power 6 (some .long) false emL (d + 0) 0 [(0, vL l0), (2, vI l2)] [] (fX9_power l0 l2) := by
  unfold fX9_power
  refine rz_lconst 1 dX9_power_0 rfl cl_1 ?_
  refine rz_lstore_n (lv' := [(3, vL (1 : Int64)), (0, vL l0), (2, vI l2)]) 2 dX9_power_1 rfl rfl rfl ?_
  refine rz_iconst 3 dX9_power_2 rfl ci_0 ?_
  refine rz_istore (lv' := [(5, vI (0 : Int32)), (3, vL (1 : Int64)), (0, vL l0), (2, vI l2)]) 5 dX9_power_3 rfl rfl rfl ?_
  exact rz_sub [2, 3, 1, 0] rfl (rX9_power_5 v d fu l0 l2 (1 : Int64) (0 : Int32))
theorem tX9_power (v : mE) (d : Nat) (l0 : Int64) (l2 : Int32) : Mt v yX9_power cX9_power 6 (some .long) emL (d + 0) [vL l0, vI l2] (fX9_power l0 l2) := mt_of rfl rfl (fun h => by cases h) rfl rfl (rX9_power v d l0 l2)
theorem dX9_holds_0 : decode cX9_holds 0 = .ok (.aload_n 0, 1) := by decide +kernel
theorem dX9_holds_1 : decode cX9_holds 1 = .ok (.iconst 0, 1) := by decide +kernel
theorem dX9_holds_2 : decode cX9_holds 2 = .ok (.putfield 62, 3) := by decide +kernel
theorem dX9_holds_5 : decode cX9_holds 5 = .ok (.aload_n 0, 1) := by decide +kernel
theorem dX9_holds_6 : decode cX9_holds 6 = .ok (.iconst 0, 1) := by decide +kernel
theorem dX9_holds_7 : decode cX9_holds 7 = .ok (.putfield 65, 3) := by decide +kernel
theorem dX9_holds_10 : decode cX9_holds 10 = .ok (.aload_n 0, 1) := by decide +kernel
theorem dX9_holds_11 : decode cX9_holds 11 = .ok (.iload_n 1, 1) := by decide +kernel
theorem dX9_holds_12 : decode cX9_holds 12 = .ok (.invokevirtual 318, 3) := by decide +kernel
theorem dX9_holds_15 : decode cX9_holds 15 = .ok (.ifCond .ne 9, 3) := by decide +kernel
theorem dX9_holds_18 : decode cX9_holds 18 = .ok (.aload_n 0, 1) := by decide +kernel
theorem dX9_holds_19 : decode cX9_holds 19 = .ok (.iconst 2, 1) := by decide +kernel
theorem dX9_holds_20 : decode cX9_holds 20 = .ok (.invokevirtual 77, 3) := by decide +kernel
theorem dX9_holds_23 : decode cX9_holds 23 = .ok (.ireturn, 1) := by decide +kernel
theorem dX9_holds_24 : decode cX9_holds 24 = .ok (.aload_n 0, 1) := by decide +kernel
theorem dX9_holds_25 : decode cX9_holds 25 = .ok (.ldc2_w 457, 3) := by decide +kernel
theorem dX9_holds_28 : decode cX9_holds 28 = .ok (.aload_n 0, 1) := by decide +kernel
theorem dX9_holds_29 : decode cX9_holds 29 = .ok (.getfield 35, 3) := by decide +kernel
theorem dX9_holds_32 : decode cX9_holds 32 = .ok (.bipush 73, 2) := by decide +kernel
theorem dX9_holds_34 : decode cX9_holds 34 = .ok (.iload_n 1, 1) := by decide +kernel
theorem dX9_holds_35 : decode cX9_holds 35 = .ok (.iadd, 1) := by decide +kernel
theorem dX9_holds_36 : decode cX9_holds 36 = .ok (.iaload, 1) := by decide +kernel
theorem dX9_holds_37 : decode cX9_holds 37 = .ok (.i2l, 1) := by decide +kernel
theorem dX9_holds_38 : decode cX9_holds 38 = .ok (.lsub, 1) := by decide +kernel
theorem dX9_holds_39 : decode cX9_holds 39 = .ok (.aload_n 0, 1) := by decide +kernel
theorem dX9_holds_40 : decode cX9_holds 40 = .ok (.iload_n 1, 1) := by decide +kernel
theorem dX9_holds_41 : decode cX9_holds 41 = .ok (.invokevirtual 330, 3) := by decide +kernel
theorem dX9_holds_44 : decode cX9_holds 44 = .ok (.invokestatic 459, 3) := by decide +kernel
theorem dX9_holds_47 : decode cX9_holds 47 = .ok (.ldc2_w 457, 3) := by decide +kernel
theorem dX9_holds_50 : decode cX9_holds 50 = .ok (.aload_n 0, 1) := by decide +kernel
theorem dX9_holds_51 : decode cX9_holds 51 = .ok (.iload_n 1, 1) := by decide +kernel
theorem dX9_holds_52 : decode cX9_holds 52 = .ok (.invokevirtual 330, 3) := by decide +kernel
theorem dX9_holds_55 : decode cX9_holds 55 = .ok (.invokestatic 459, 3) := by decide +kernel
theorem dX9_holds_58 : decode cX9_holds 58 = .ok (.invokevirtual 439, 3) := by decide +kernel
theorem dX9_holds_61 : decode cX9_holds 61 = .ok (.ireturn, 1) := by decide +kernel
def fX9_holds (l0 : Nat) (l1 : Int32) : mM Int32 := bPI 9 l0 1 (0 : Int32) (bPI 9 l0 0 (0 : Int32) (bCallV 9 l0 (fX9_isRope l0 l1) (fun x1 => bIf (x1 = 0) (bCallV 9 l0 (fX9_no l0 (2 : Int32)) (fun x9 => bRetZ x9)) (bGR 9 l0 24 (fun x2 => bAI 11 x2 ((73 : Int32) + l1) (fun x3 => bCallV 9 l0 (fX9_knotsOfRope l0 l1) (fun x4 => bCall (fX9_power ((16 : Int64) - (Int32.toInt64 x3)) x4) (fun x5 => bCallV 9 l0 (fX9_knotsOfRope l0 l1) (fun x6 => bCall (fX9_power (16 : Int64) x6) (fun x7 => bCallV 9 l0 (fX9_fraction l0 x5 x7) (fun x8 => bRetZ x8)))))))))))
set_option maxRecDepth 20000 in
theorem rX9_holds (v : mE) (d : Nat) (l0 : Nat) (l1 : Int32) : Rz v RX9 cX9_holds 2 (some .boolean) false emI (d + 2) 0 [(0, vR l0), (1, vI l1)] [] (fX9_holds l0 l1) := by
  unfold fX9_holds
  refine rz_aload_n 1 0 dX9_holds_0 rfl rfl ?_
  refine rz_iconst 2 dX9_holds_1 rfl ci_0 ?_
  refine rz_pI 5 dX9_holds_2 rfl rfl rfl rfl fl_X9_62 ?_
  refine rz_aload_n 6 0 dX9_holds_5 rfl rfl ?_
  refine rz_iconst 7 dX9_holds_6 rfl ci_0 ?_
  refine rz_pI 10 dX9_holds_7 rfl rfl rfl rfl fl_X9_65 ?_
  refine rz_aload_n 11 0 dX9_holds_10 rfl rfl ?_
  refine rz_iload_n 12 1 dX9_holds_11 rfl rfl ?_
  refine rz_callV 15 dX9_holds_12 rfl (tX9_isRope v (d + 0) l0 l1) rfl rfl rfl rfl ml_X9_318 im_X9_isRope se_X9_X9_isRope in_X9 co_X9_isRope rfl rfl (fun x1 => ?_)
  refine rz_if_ne 24 18 dX9_holds_15 rfl rfl ?_ ?_
  · refine rz_aload_n 25 0 dX9_holds_24 rfl rfl ?_
    refine rz_ldc2 28 dX9_holds_25 rfl cu_X9_457 ?_
    refine rz_aload_n 29 0 dX9_holds_28 rfl rfl ?_
    refine rz_gR 32 dX9_holds_29 rfl rfl fl_X9_35 (fun x2 => ?_)
    refine rz_bipush 34 dX9_holds_32 rfl cb_73 ?_
    refine rz_iload_n 35 1 dX9_holds_34 rfl rfl ?_
    refine rz_iadd 36 dX9_holds_35 rfl ?_
    refine rz_iald 37 dX9_holds_36 rfl (fun x3 => ?_)
    refine rz_i2l 38 dX9_holds_37 rfl ?_
    refine rz_lsub 39 dX9_holds_38 rfl ?_
    refine rz_aload_n 40 0 dX9_holds_39 rfl rfl ?_
    refine rz_iload_n 41 1 dX9_holds_40 rfl rfl ?_
    refine rz_callV 44 dX9_holds_41 rfl (tX9_knotsOfRope v (d + 1) l0 l1) rfl rfl rfl rfl ml_X9_330 im_X9_knotsOfRope se_X9_X9_knotsOfRope in_X9 co_X9_knotsOfRope rfl rfl (fun x4 => ?_)
    refine rz_callS 47 dX9_holds_44 rfl (tX9_power v (d + 1) ((16 : Int64) - (Int32.toInt64 x3)) x4) rfl rfl ml_X9_459 sm_X9_power in_X9 co_X9_power rfl rfl (fun x5 => ?_)
    refine rz_ldc2 50 dX9_holds_47 rfl cu_X9_457 ?_
    refine rz_aload_n 51 0 dX9_holds_50 rfl rfl ?_
    refine rz_iload_n 52 1 dX9_holds_51 rfl rfl ?_
    refine rz_callV 55 dX9_holds_52 rfl (tX9_knotsOfRope v (d + 1) l0 l1) rfl rfl rfl rfl ml_X9_330 im_X9_knotsOfRope se_X9_X9_knotsOfRope in_X9 co_X9_knotsOfRope rfl rfl (fun x6 => ?_)
    refine rz_callS 58 dX9_holds_55 rfl (tX9_power v (d + 1) (16 : Int64) x6) rfl rfl ml_X9_459 sm_X9_power in_X9 co_X9_power rfl rfl (fun x7 => ?_)
    refine rz_callV 61 dX9_holds_58 rfl (tX9_fraction v (d + 0) l0 x5 x7) rfl rfl rfl rfl ml_X9_439 im_X9_fraction se_X9_X9_fraction in_X9 co_X9_fraction rfl rfl (fun x8 => ?_)
    exact rz_zreturn rfl rfl dX9_holds_61
  · refine rz_aload_n 19 0 dX9_holds_18 rfl rfl ?_
    refine rz_iconst 20 dX9_holds_19 rfl ci_2 ?_
    refine rz_callV 23 dX9_holds_20 rfl (tX9_no v (d + 1) l0 (2 : Int32)) rfl rfl rfl rfl ml_X9_77 im_X9_no se_X9_X9_no in_X9 co_X9_no rfl rfl (fun x9 => ?_)
    exact rz_zreturn rfl rfl dX9_holds_23
theorem tX9_holds (v : mE) (d : Nat) (l0 : Nat) (l1 : Int32) : Mt v yX9_holds cX9_holds 2 (some .boolean) emI (d + 2) [vR l0, vI l1] (fX9_holds l0 l1) := mt_of rfl rfl (fun h => by cases h) rfl rfl (rX9_holds v d l0 l1)
theorem dX9_holding_0 : decode cX9_holding 0 = .ok (.ldc2_w 457, 3) := by decide +kernel
theorem dX9_holding_3 : decode cX9_holding 3 = .ok (.aload_n 0, 1) := by decide +kernel
theorem dX9_holding_4 : decode cX9_holding 4 = .ok (.getfield 35, 3) := by decide +kernel
theorem dX9_holding_7 : decode cX9_holding 7 = .ok (.bipush 73, 2) := by decide +kernel
theorem dX9_holding_9 : decode cX9_holding 9 = .ok (.iload_n 1, 1) := by decide +kernel
theorem dX9_holding_10 : decode cX9_holding 10 = .ok (.iadd, 1) := by decide +kernel
theorem dX9_holding_11 : decode cX9_holding 11 = .ok (.iaload, 1) := by decide +kernel
theorem dX9_holding_12 : decode cX9_holding 12 = .ok (.i2l, 1) := by decide +kernel
theorem dX9_holding_13 : decode cX9_holding 13 = .ok (.lsub, 1) := by decide +kernel
theorem dX9_holding_14 : decode cX9_holding 14 = .ok (.aload_n 0, 1) := by decide +kernel
theorem dX9_holding_15 : decode cX9_holding 15 = .ok (.iload_n 1, 1) := by decide +kernel
theorem dX9_holding_16 : decode cX9_holding 16 = .ok (.invokevirtual 330, 3) := by decide +kernel
theorem dX9_holding_19 : decode cX9_holding 19 = .ok (.invokestatic 459, 3) := by decide +kernel
theorem dX9_holding_22 : decode cX9_holding 22 = .ok (.ldc2_w 457, 3) := by decide +kernel
theorem dX9_holding_25 : decode cX9_holding 25 = .ok (.bipush 7, 2) := by decide +kernel
theorem dX9_holding_27 : decode cX9_holding 27 = .ok (.aload_n 0, 1) := by decide +kernel
theorem dX9_holding_28 : decode cX9_holding 28 = .ok (.iload_n 1, 1) := by decide +kernel
theorem dX9_holding_29 : decode cX9_holding 29 = .ok (.invokevirtual 330, 3) := by decide +kernel
theorem dX9_holding_32 : decode cX9_holding 32 = .ok (.isub, 1) := by decide +kernel
theorem dX9_holding_33 : decode cX9_holding 33 = .ok (.invokestatic 459, 3) := by decide +kernel
theorem dX9_holding_36 : decode cX9_holding 36 = .ok (.lmul, 1) := by decide +kernel
theorem dX9_holding_37 : decode cX9_holding 37 = .ok (.lreturn, 1) := by decide +kernel
def fX9_holding (l0 : Nat) (l1 : Int32) : mM Int64 := bGR 9 l0 24 (fun x1 => bAI 11 x1 ((73 : Int32) + l1) (fun x2 => bCallV 9 l0 (fX9_knotsOfRope l0 l1) (fun x3 => bCall (fX9_power ((16 : Int64) - (Int32.toInt64 x2)) x3) (fun x4 => bCallV 9 l0 (fX9_knotsOfRope l0 l1) (fun x5 => bCall (fX9_power (16 : Int64) ((7 : Int32) - x5)) (fun x6 => bRet (x4 * x6)))))))
set_option maxRecDepth 20000 in
theorem rX9_holding (v : mE) (d : Nat) (l0 : Nat) (l1 : Int32) : Rz v RX9 cX9_holding 2 (some .long) false emL (d + 1) 0 [(0, vR l0), (1, vI l1)] [] (fX9_holding l0 l1) := by
  unfold fX9_holding
  refine rz_ldc2 3 dX9_holding_0 rfl cu_X9_457 ?_
  refine rz_aload_n 4 0 dX9_holding_3 rfl rfl ?_
  refine rz_gR 7 dX9_holding_4 rfl rfl fl_X9_35 (fun x1 => ?_)
  refine rz_bipush 9 dX9_holding_7 rfl cb_73 ?_
  refine rz_iload_n 10 1 dX9_holding_9 rfl rfl ?_
  refine rz_iadd 11 dX9_holding_10 rfl ?_
  refine rz_iald 12 dX9_holding_11 rfl (fun x2 => ?_)
  refine rz_i2l 13 dX9_holding_12 rfl ?_
  refine rz_lsub 14 dX9_holding_13 rfl ?_
  refine rz_aload_n 15 0 dX9_holding_14 rfl rfl ?_
  refine rz_iload_n 16 1 dX9_holding_15 rfl rfl ?_
  refine rz_callV 19 dX9_holding_16 rfl (tX9_knotsOfRope v (d + 0) l0 l1) rfl rfl rfl rfl ml_X9_330 im_X9_knotsOfRope se_X9_X9_knotsOfRope in_X9 co_X9_knotsOfRope rfl rfl (fun x3 => ?_)
  refine rz_callS 22 dX9_holding_19 rfl (tX9_power v (d + 0) ((16 : Int64) - (Int32.toInt64 x2)) x3) rfl rfl ml_X9_459 sm_X9_power in_X9 co_X9_power rfl rfl (fun x4 => ?_)
  refine rz_ldc2 25 dX9_holding_22 rfl cu_X9_457 ?_
  refine rz_bipush 27 dX9_holding_25 rfl cb_7 ?_
  refine rz_aload_n 28 0 dX9_holding_27 rfl rfl ?_
  refine rz_iload_n 29 1 dX9_holding_28 rfl rfl ?_
  refine rz_callV 32 dX9_holding_29 rfl (tX9_knotsOfRope v (d + 0) l0 l1) rfl rfl rfl rfl ml_X9_330 im_X9_knotsOfRope se_X9_X9_knotsOfRope in_X9 co_X9_knotsOfRope rfl rfl (fun x5 => ?_)
  refine rz_isub 33 dX9_holding_32 rfl ?_
  refine rz_callS 36 dX9_holding_33 rfl (tX9_power v (d + 0) (16 : Int64) ((7 : Int32) - x5)) rfl rfl ml_X9_459 sm_X9_power in_X9 co_X9_power rfl rfl (fun x6 => ?_)
  refine rz_lmul 37 dX9_holding_36 rfl ?_
  exact rz_lreturn rfl rfl dX9_holding_37
theorem tX9_holding (v : mE) (d : Nat) (l0 : Nat) (l1 : Int32) : Mt v yX9_holding cX9_holding 2 (some .long) emL (d + 1) [vR l0, vI l1] (fX9_holding l0 l1) := mt_of rfl rfl (fun h => by cases h) rfl rfl (rX9_holding v d l0 l1)
theorem dX9_best_0 : decode cX9_best 0 = .ok (.aload_n 0, 1) := by decide +kernel
theorem dX9_best_1 : decode cX9_best 1 = .ok (.iconst 0, 1) := by decide +kernel
theorem dX9_best_2 : decode cX9_best 2 = .ok (.putfield 62, 3) := by decide +kernel
theorem dX9_best_5 : decode cX9_best 5 = .ok (.aload_n 0, 1) := by decide +kernel
theorem dX9_best_6 : decode cX9_best 6 = .ok (.iconst 0, 1) := by decide +kernel
theorem dX9_best_7 : decode cX9_best 7 = .ok (.putfield 65, 3) := by decide +kernel
theorem dX9_best_10 : decode cX9_best 10 = .ok (.aload_n 0, 1) := by decide +kernel
theorem dX9_best_11 : decode cX9_best 11 = .ok (.iload_n 1, 1) := by decide +kernel
theorem dX9_best_12 : decode cX9_best 12 = .ok (.invokevirtual 360, 3) := by decide +kernel
theorem dX9_best_15 : decode cX9_best 15 = .ok (.ifCond .ne 9, 3) := by decide +kernel
theorem dX9_best_18 : decode cX9_best 18 = .ok (.aload_n 0, 1) := by decide +kernel
theorem dX9_best_19 : decode cX9_best 19 = .ok (.iconst 2, 1) := by decide +kernel
theorem dX9_best_20 : decode cX9_best 20 = .ok (.invokevirtual 357, 3) := by decide +kernel
theorem dX9_best_23 : decode cX9_best 23 = .ok (.ireturn, 1) := by decide +kernel
theorem dX9_best_24 : decode cX9_best 24 = .ok (.aload_n 0, 1) := by decide +kernel
theorem dX9_best_25 : decode cX9_best 25 = .ok (.iload_n 1, 1) := by decide +kernel
theorem dX9_best_26 : decode cX9_best 26 = .ok (.invokevirtual 351, 3) := by decide +kernel
theorem dX9_best_29 : decode cX9_best 29 = .ok (.ifCond .ne 10, 3) := by decide +kernel
theorem dX9_best_32 : decode cX9_best 32 = .ok (.aload_n 0, 1) := by decide +kernel
theorem dX9_best_33 : decode cX9_best 33 = .ok (.bipush 8, 2) := by decide +kernel
theorem dX9_best_35 : decode cX9_best 35 = .ok (.invokevirtual 357, 3) := by decide +kernel
theorem dX9_best_38 : decode cX9_best 38 = .ok (.ireturn, 1) := by decide +kernel
theorem dX9_best_39 : decode cX9_best 39 = .ok (.iconst (-1), 1) := by decide +kernel
theorem dX9_best_40 : decode cX9_best 40 = .ok (.istore_n 2, 1) := by decide +kernel
theorem dX9_best_41 : decode cX9_best 41 = .ok (.iconst 0, 1) := by decide +kernel
theorem dX9_best_42 : decode cX9_best 42 = .ok (.istore_n 3, 1) := by decide +kernel
theorem dX9_best_43 : decode cX9_best 43 = .ok (.iload_n 3, 1) := by decide +kernel
theorem dX9_best_44 : decode cX9_best 44 = .ok (.bipush 12, 2) := by decide +kernel
theorem dX9_best_46 : decode cX9_best 46 = .ok (.if_icmp .ge 46, 3) := by decide +kernel
theorem dX9_best_49 : decode cX9_best 49 = .ok (.aload_n 0, 1) := by decide +kernel
theorem dX9_best_50 : decode cX9_best 50 = .ok (.iload_n 3, 1) := by decide +kernel
theorem dX9_best_51 : decode cX9_best 51 = .ok (.iload_n 1, 1) := by decide +kernel
theorem dX9_best_52 : decode cX9_best 52 = .ok (.invokevirtual 336, 3) := by decide +kernel
theorem dX9_best_55 : decode cX9_best 55 = .ok (.ifCond .eq 31, 3) := by decide +kernel
theorem dX9_best_58 : decode cX9_best 58 = .ok (.aload_n 0, 1) := by decide +kernel
theorem dX9_best_59 : decode cX9_best 59 = .ok (.iload_n 3, 1) := by decide +kernel
theorem dX9_best_60 : decode cX9_best 60 = .ok (.invokevirtual 348, 3) := by decide +kernel
theorem dX9_best_63 : decode cX9_best 63 = .ok (.ifCond .eq 23, 3) := by decide +kernel
theorem dX9_best_66 : decode cX9_best 66 = .ok (.iload_n 2, 1) := by decide +kernel
theorem dX9_best_67 : decode cX9_best 67 = .ok (.ifCond .lt 17, 3) := by decide +kernel
theorem dX9_best_70 : decode cX9_best 70 = .ok (.aload_n 0, 1) := by decide +kernel
theorem dX9_best_71 : decode cX9_best 71 = .ok (.iload_n 3, 1) := by decide +kernel
theorem dX9_best_72 : decode cX9_best 72 = .ok (.invokevirtual 463, 3) := by decide +kernel
theorem dX9_best_75 : decode cX9_best 75 = .ok (.aload_n 0, 1) := by decide +kernel
theorem dX9_best_76 : decode cX9_best 76 = .ok (.iload_n 2, 1) := by decide +kernel
theorem dX9_best_77 : decode cX9_best 77 = .ok (.invokevirtual 463, 3) := by decide +kernel
theorem dX9_best_80 : decode cX9_best 80 = .ok (.lcmp, 1) := by decide +kernel
theorem dX9_best_81 : decode cX9_best 81 = .ok (.ifCond .le 5, 3) := by decide +kernel
theorem dX9_best_84 : decode cX9_best 84 = .ok (.iload_n 3, 1) := by decide +kernel
theorem dX9_best_85 : decode cX9_best 85 = .ok (.istore_n 2, 1) := by decide +kernel
theorem dX9_best_86 : decode cX9_best 86 = .ok (.iinc 3 1, 3) := by decide +kernel
theorem dX9_best_89 : decode cX9_best 89 = .ok (.goto (-46), 3) := by decide +kernel
theorem dX9_best_92 : decode cX9_best 92 = .ok (.iload_n 2, 1) := by decide +kernel
theorem dX9_best_93 : decode cX9_best 93 = .ok (.ireturn, 1) := by decide +kernel
def fX9_best_84 (r43 : Nat → Int32 → Int32 → Int32 → mM Int32) (l0 : Nat) (l1 : Int32) (l3 : Int32) : mM Int32 := r43 l0 l1 l3 (l3 + 1)
set_option maxRecDepth 20000 in
theorem rX9_best_84 (v : mE) (d : Nat) (r43 : Nat → Int32 → Int32 → Int32 → mM Int32) (h43 : ∀ (y0 : Nat) (y1 : Int32) (y2 : Int32) (y3 : Int32), Rz v RX9 cX9_best 4 (some .int) false emI (d + 4) 43 [(0, vR y0), (1, vI y1), (2, vI y2), (3, vI y3)] [] (r43 y0 y1 y2 y3)) (l0 : Nat) (l1 : Int32) (l3 : Int32) : Rz v RX9 cX9_best 4 (some .int) false emI (d + 4) 84 [(0, vR l0), (1, vI l1), (3, vI l3)] [] (fX9_best_84 r43 l0 l1 l3) := by
  unfold fX9_best_84
  refine rz_iload_n 85 2 dX9_best_84 rfl rfl ?_
  refine rz_istore_n (lv' := [(2, vI l3), (0, vR l0), (1, vI l1), (3, vI l3)]) 86 dX9_best_85 rfl rfl rfl ?_
  refine rz_iinc (lv' := [(3, vI (l3 + 1)), (2, vI l3), (0, vR l0), (1, vI l1)]) 89 3 dX9_best_86 rfl rfl (cn_1 _) rfl rfl ?_
  refine rz_goto 43 dX9_best_89 rfl ?_
  exact rz_sub [2, 3, 1, 0] rfl (h43 l0 l1 l3 (l3 + 1))
def fX9_best_43 : Nat → Nat → Int32 → Int32 → Int32 → mM Int32
  | 0 => fun _ _ _ _ => fun _ => none
  | n + 1 => fun l0 l1 l2 l3 => let r43 := fX9_best_43 n; bIf ((12 : Int32) ≤ l3) (bRet l2) (bCallV 9 l0 (fX9_isHeld l0 l3 l1) (fun x1 => bIf (x1 = 0) (r43 l0 l1 l2 (l3 + 1)) (bCallV 9 l0 (fX9_reaches l0 l3) (fun x2 => bIf (x2 = 0) (r43 l0 l1 l2 (l3 + 1)) (bIf (l2 < 0) (fX9_best_84 r43 l0 l1 l3) (bCallV 9 l0 (fX9_holding l0 l3) (fun x3 => bCallV 9 l0 (fX9_holding l0 l2) (fun x4 => bIf ((lg_cmp x3 x4) ≤ 0) (r43 l0 l1 l2 (l3 + 1)) (fX9_best_84 r43 l0 l1 l3)))))))))
theorem qX9_best_43  (n : Nat) (l0 : Nat) (l1 : Int32) (l2 : Int32) (l3 : Int32) : fX9_best_43 (n + 1) l0 l1 l2 l3 = bIf ((12 : Int32) ≤ l3) (bRet l2) (bCallV 9 l0 (fX9_isHeld l0 l3 l1) (fun x1 => bIf (x1 = 0) ((fX9_best_43 n) l0 l1 l2 (l3 + 1)) (bCallV 9 l0 (fX9_reaches l0 l3) (fun x2 => bIf (x2 = 0) ((fX9_best_43 n) l0 l1 l2 (l3 + 1)) (bIf (l2 < 0) (fX9_best_84 (fX9_best_43 n) l0 l1 l3) (bCallV 9 l0 (fX9_holding l0 l3) (fun x3 => bCallV 9 l0 (fX9_holding l0 l2) (fun x4 => bIf ((lg_cmp x3 x4) ≤ 0) ((fX9_best_43 n) l0 l1 l2 (l3 + 1)) (fX9_best_84 (fX9_best_43 n) l0 l1 l3))))))))) := rfl
set_option maxRecDepth 20000 in
theorem rX9_best_43 (v : mE) (d : Nat) : ∀ (n : Nat) (l0 : Nat) (l1 : Int32) (l2 : Int32) (l3 : Int32), Rz v RX9 cX9_best 4 (some .int) false emI (d + 4) 43 [(0, vR l0), (1, vI l1), (2, vI l2), (3, vI l3)] [] (fX9_best_43 n l0 l1 l2 l3)
  | 0, _, _, _, _ => fun _ _ _ hm => by cases hm
  | n + 1, l0, l1, l2, l3 => by
    have h43 := rX9_best_43 v d n
    unfold fX9_best_43
    generalize fX9_best_43 n = r43 at h43 ⊢
    refine rz_iload_n 44 3 dX9_best_43 rfl rfl ?_
    refine rz_bipush 46 dX9_best_44 rfl cb_12 ?_
    refine rz_icmp_ge 92 49 dX9_best_46 rfl rfl ?_ ?_
    · refine rz_iload_n 93 2 dX9_best_92 rfl rfl ?_
      exact rz_ireturn rfl rfl dX9_best_93
    · refine rz_aload_n 50 0 dX9_best_49 rfl rfl ?_
      refine rz_iload_n 51 3 dX9_best_50 rfl rfl ?_
      refine rz_iload_n 52 1 dX9_best_51 rfl rfl ?_
      refine rz_callV 55 dX9_best_52 rfl (tX9_isHeld v (d + 1) l0 l3 l1) rfl rfl rfl rfl ml_X9_336 im_X9_isHeld se_X9_X9_isHeld in_X9 co_X9_isHeld rfl rfl (fun x1 => ?_)
      refine rz_if_eq 86 58 dX9_best_55 rfl rfl ?_ ?_
      · refine rz_iinc (lv' := [(3, vI (l3 + 1)), (0, vR l0), (1, vI l1), (2, vI l2)]) 89 3 dX9_best_86 rfl rfl (cn_1 _) rfl rfl ?_
        refine rz_goto 43 dX9_best_89 rfl ?_
        exact rz_sub [1, 2, 3, 0] rfl (h43 l0 l1 l2 (l3 + 1))
      · refine rz_aload_n 59 0 dX9_best_58 rfl rfl ?_
        refine rz_iload_n 60 3 dX9_best_59 rfl rfl ?_
        refine rz_callV 63 dX9_best_60 rfl (tX9_reaches v (d + 1) l0 l3) rfl rfl rfl rfl ml_X9_348 im_X9_reaches se_X9_X9_reaches in_X9 co_X9_reaches rfl rfl (fun x2 => ?_)
        refine rz_if_eq 86 66 dX9_best_63 rfl rfl ?_ ?_
        · refine rz_iinc (lv' := [(3, vI (l3 + 1)), (0, vR l0), (1, vI l1), (2, vI l2)]) 89 3 dX9_best_86 rfl rfl (cn_1 _) rfl rfl ?_
          refine rz_goto 43 dX9_best_89 rfl ?_
          exact rz_sub [1, 2, 3, 0] rfl (h43 l0 l1 l2 (l3 + 1))
        · refine rz_iload_n 67 2 dX9_best_66 rfl rfl ?_
          refine rz_if_lt 84 70 dX9_best_67 rfl rfl ?_ ?_
          · exact rz_sub [0, 1, 3] rfl (rX9_best_84 v d r43 h43 l0 l1 l3)
          · refine rz_aload_n 71 0 dX9_best_70 rfl rfl ?_
            refine rz_iload_n 72 3 dX9_best_71 rfl rfl ?_
            refine rz_callV 75 dX9_best_72 rfl (tX9_holding v (d + 2) l0 l3) rfl rfl rfl rfl ml_X9_463 im_X9_holding se_X9_X9_holding in_X9 co_X9_holding rfl rfl (fun x3 => ?_)
            refine rz_aload_n 76 0 dX9_best_75 rfl rfl ?_
            refine rz_iload_n 77 2 dX9_best_76 rfl rfl ?_
            refine rz_callV 80 dX9_best_77 rfl (tX9_holding v (d + 2) l0 l2) rfl rfl rfl rfl ml_X9_463 im_X9_holding se_X9_X9_holding in_X9 co_X9_holding rfl rfl (fun x4 => ?_)
            refine rz_lcmp 81 dX9_best_80 rfl ?_
            refine rz_if_le 86 84 dX9_best_81 rfl rfl ?_ ?_
            · refine rz_iinc (lv' := [(3, vI (l3 + 1)), (0, vR l0), (1, vI l1), (2, vI l2)]) 89 3 dX9_best_86 rfl rfl (cn_1 _) rfl rfl ?_
              refine rz_goto 43 dX9_best_89 rfl ?_
              exact rz_sub [1, 2, 3, 0] rfl (h43 l0 l1 l2 (l3 + 1))
            · exact rz_sub [0, 1, 3] rfl (rX9_best_84 v d r43 h43 l0 l1 l3)
def fX9_best (l0 : Nat) (l1 : Int32) : mM Int32 := bPI 9 l0 1 (0 : Int32) (bPI 9 l0 0 (0 : Int32) (bCallV 9 l0 (fX9_isPerson l0 l1) (fun x1 => bIf (x1 = 0) (bCallV 9 l0 (fX9_refuse l0 (2 : Int32)) (fun x4 => bRet x4)) (bCallV 9 l0 (fX9_isDrinking l0 l1) (fun x2 => bIf (x2 = 0) (bCallV 9 l0 (fX9_refuse l0 (8 : Int32)) (fun x3 => bRet x3)) (fX9_best_43 fu l0 l1 (-1 : Int32) (0 : Int32)))))))
set_option maxRecDepth 20000 in
theorem rX9_best (v : mE) (d : Nat) (l0 : Nat) (l1 : Int32) : Rz v RX9 cX9_best 4 (some .int) false emI (d + 4) 0 [(0, vR l0), (1, vI l1)] [] (fX9_best l0 l1) := by
  unfold fX9_best
  refine rz_aload_n 1 0 dX9_best_0 rfl rfl ?_
  refine rz_iconst 2 dX9_best_1 rfl ci_0 ?_
  refine rz_pI 5 dX9_best_2 rfl rfl rfl rfl fl_X9_62 ?_
  refine rz_aload_n 6 0 dX9_best_5 rfl rfl ?_
  refine rz_iconst 7 dX9_best_6 rfl ci_0 ?_
  refine rz_pI 10 dX9_best_7 rfl rfl rfl rfl fl_X9_65 ?_
  refine rz_aload_n 11 0 dX9_best_10 rfl rfl ?_
  refine rz_iload_n 12 1 dX9_best_11 rfl rfl ?_
  refine rz_callV 15 dX9_best_12 rfl (tX9_isPerson v (d + 2) l0 l1) rfl rfl rfl rfl ml_X9_360 im_X9_isPerson se_X9_X9_isPerson in_X9 co_X9_isPerson rfl rfl (fun x1 => ?_)
  refine rz_if_ne 24 18 dX9_best_15 rfl rfl ?_ ?_
  · refine rz_aload_n 25 0 dX9_best_24 rfl rfl ?_
    refine rz_iload_n 26 1 dX9_best_25 rfl rfl ?_
    refine rz_callV 29 dX9_best_26 rfl (tX9_isDrinking v (d + 0) l0 l1) rfl rfl rfl rfl ml_X9_351 im_X9_isDrinking se_X9_X9_isDrinking in_X9 co_X9_isDrinking rfl rfl (fun x2 => ?_)
    refine rz_if_ne 39 32 dX9_best_29 rfl rfl ?_ ?_
    · refine rz_iconst 40 dX9_best_39 rfl ci_m1 ?_
      refine rz_istore_n (lv' := [(2, vI (-1 : Int32)), (0, vR l0), (1, vI l1)]) 41 dX9_best_40 rfl rfl rfl ?_
      refine rz_iconst 42 dX9_best_41 rfl ci_0 ?_
      refine rz_istore_n (lv' := [(3, vI (0 : Int32)), (2, vI (-1 : Int32)), (0, vR l0), (1, vI l1)]) 43 dX9_best_42 rfl rfl rfl ?_
      exact rz_sub [2, 3, 1, 0] rfl (rX9_best_43 v d fu l0 l1 (-1 : Int32) (0 : Int32))
    · refine rz_aload_n 33 0 dX9_best_32 rfl rfl ?_
      refine rz_bipush 35 dX9_best_33 rfl cb_8 ?_
      refine rz_callV 38 dX9_best_35 rfl (tX9_refuse v (d + 3) l0 (8 : Int32)) rfl rfl rfl rfl ml_X9_357 im_X9_refuse se_X9_X9_refuse in_X9 co_X9_refuse rfl rfl (fun x3 => ?_)
      exact rz_ireturn rfl rfl dX9_best_38
  · refine rz_aload_n 19 0 dX9_best_18 rfl rfl ?_
    refine rz_iconst 20 dX9_best_19 rfl ci_2 ?_
    refine rz_callV 23 dX9_best_20 rfl (tX9_refuse v (d + 3) l0 (2 : Int32)) rfl rfl rfl rfl ml_X9_357 im_X9_refuse se_X9_X9_refuse in_X9 co_X9_refuse rfl rfl (fun x4 => ?_)
    exact rz_ireturn rfl rfl dX9_best_23
theorem tX9_best (v : mE) (d : Nat) (l0 : Nat) (l1 : Int32) : Mt v yX9_best cX9_best 4 (some .int) emI (d + 4) [vR l0, vI l1] (fX9_best l0 l1) := mt_of rfl rfl (fun h => by cases h) rfl rfl (rX9_best v d l0 l1)
theorem dX9_minutes_0 : decode cX9_minutes 0 = .ok (.bipush 8, 2) := by decide +kernel
theorem dX9_minutes_2 : decode cX9_minutes 2 = .ok (.istore_n 2, 1) := by decide +kernel
theorem dX9_minutes_3 : decode cX9_minutes 3 = .ok (.iconst 0, 1) := by decide +kernel
theorem dX9_minutes_4 : decode cX9_minutes 4 = .ok (.istore_n 3, 1) := by decide +kernel
theorem dX9_minutes_5 : decode cX9_minutes 5 = .ok (.iload_n 3, 1) := by decide +kernel
theorem dX9_minutes_6 : decode cX9_minutes 6 = .ok (.bipush 12, 2) := by decide +kernel
theorem dX9_minutes_8 : decode cX9_minutes 8 = .ok (.if_icmp .ge 36, 3) := by decide +kernel
theorem dX9_minutes_11 : decode cX9_minutes 11 = .ok (.aload_n 0, 1) := by decide +kernel
theorem dX9_minutes_12 : decode cX9_minutes 12 = .ok (.iload_n 3, 1) := by decide +kernel
theorem dX9_minutes_13 : decode cX9_minutes 13 = .ok (.iload_n 1, 1) := by decide +kernel
theorem dX9_minutes_14 : decode cX9_minutes 14 = .ok (.invokevirtual 336, 3) := by decide +kernel
theorem dX9_minutes_17 : decode cX9_minutes 17 = .ok (.ifCond .eq 21, 3) := by decide +kernel
theorem dX9_minutes_20 : decode cX9_minutes 20 = .ok (.aload_n 0, 1) := by decide +kernel
theorem dX9_minutes_21 : decode cX9_minutes 21 = .ok (.iload_n 3, 1) := by decide +kernel
theorem dX9_minutes_22 : decode cX9_minutes 22 = .ok (.invokevirtual 348, 3) := by decide +kernel
theorem dX9_minutes_25 : decode cX9_minutes 25 = .ok (.ifCond .eq 13, 3) := by decide +kernel
theorem dX9_minutes_28 : decode cX9_minutes 28 = .ok (.iload_n 2, 1) := by decide +kernel
theorem dX9_minutes_29 : decode cX9_minutes 29 = .ok (.aload_n 0, 1) := by decide +kernel
theorem dX9_minutes_30 : decode cX9_minutes 30 = .ok (.iload_n 3, 1) := by decide +kernel
theorem dX9_minutes_31 : decode cX9_minutes 31 = .ok (.invokevirtual 330, 3) := by decide +kernel
theorem dX9_minutes_34 : decode cX9_minutes 34 = .ok (.invokestatic 390, 3) := by decide +kernel
theorem dX9_minutes_37 : decode cX9_minutes 37 = .ok (.istore_n 2, 1) := by decide +kernel
theorem dX9_minutes_38 : decode cX9_minutes 38 = .ok (.iinc 3 1, 3) := by decide +kernel
theorem dX9_minutes_41 : decode cX9_minutes 41 = .ok (.goto (-36), 3) := by decide +kernel
theorem dX9_minutes_44 : decode cX9_minutes 44 = .ok (.iconst 2, 1) := by decide +kernel
theorem dX9_minutes_45 : decode cX9_minutes 45 = .ok (.aload_n 0, 1) := by decide +kernel
theorem dX9_minutes_46 : decode cX9_minutes 46 = .ok (.invokevirtual 324, 3) := by decide +kernel
theorem dX9_minutes_49 : decode cX9_minutes 49 = .ok (.imul, 1) := by decide +kernel
theorem dX9_minutes_50 : decode cX9_minutes 50 = .ok (.iconst 1, 1) := by decide +kernel
theorem dX9_minutes_51 : decode cX9_minutes 51 = .ok (.iadd, 1) := by decide +kernel
theorem dX9_minutes_52 : decode cX9_minutes 52 = .ok (.iconst 3, 1) := by decide +kernel
theorem dX9_minutes_53 : decode cX9_minutes 53 = .ok (.iload_n 2, 1) := by decide +kernel
theorem dX9_minutes_54 : decode cX9_minutes 54 = .ok (.imul, 1) := by decide +kernel
theorem dX9_minutes_55 : decode cX9_minutes 55 = .ok (.iadd, 1) := by decide +kernel
theorem dX9_minutes_56 : decode cX9_minutes 56 = .ok (.ireturn, 1) := by decide +kernel
def fX9_minutes_44 (l0 : Nat) (l2 : Int32) : mM Int32 := bCallV 9 l0 (fX9_depthNow l0) (fun x1 => bRet ((((2 : Int32) * x1) + (1 : Int32)) + ((3 : Int32) * l2)))
set_option maxRecDepth 20000 in
theorem rX9_minutes_44 (v : mE) (d : Nat) (l0 : Nat) (l2 : Int32) : Rz v RX9 cX9_minutes 4 (some .int) false emI (d + 3) 44 [(0, vR l0), (2, vI l2)] [] (fX9_minutes_44 l0 l2) := by
  unfold fX9_minutes_44
  refine rz_iconst 45 dX9_minutes_44 rfl ci_2 ?_
  refine rz_aload_n 46 0 dX9_minutes_45 rfl rfl ?_
  refine rz_callV 49 dX9_minutes_46 rfl (tX9_depthNow v (d + 1) l0) rfl rfl rfl rfl ml_X9_324 im_X9_depthNow se_X9_X9_depthNow in_X9 co_X9_depthNow rfl rfl (fun x1 => ?_)
  refine rz_imul 50 dX9_minutes_49 rfl ?_
  refine rz_iconst 51 dX9_minutes_50 rfl ci_1 ?_
  refine rz_iadd 52 dX9_minutes_51 rfl ?_
  refine rz_iconst 53 dX9_minutes_52 rfl ci_3 ?_
  refine rz_iload_n 54 1 dX9_minutes_53 rfl rfl ?_
  refine rz_imul 55 dX9_minutes_54 rfl ?_
  refine rz_iadd 56 dX9_minutes_55 rfl ?_
  exact rz_ireturn rfl rfl dX9_minutes_56
def fX9_minutes_5 : Nat → Nat → Int32 → Int32 → Int32 → mM Int32
  | 0 => fun _ _ _ _ => fun _ => none
  | n + 1 => fun l0 l1 l2 l3 => let r5 := fX9_minutes_5 n; bIf ((12 : Int32) ≤ l3) (fX9_minutes_44 l0 l2) (bCallV 9 l0 (fX9_isHeld l0 l3 l1) (fun x1 => bIf (x1 = 0) (r5 l0 l1 l2 (l3 + 1)) (bCallV 9 l0 (fX9_reaches l0 l3) (fun x2 => bIf (x2 = 0) (r5 l0 l1 l2 (l3 + 1)) (bCallV 9 l0 (fX9_knotsOfRope l0 l3) (fun x3 => r5 l0 l1 (jMin l2 x3) (l3 + 1)))))))
theorem qX9_minutes_5  (n : Nat) (l0 : Nat) (l1 : Int32) (l2 : Int32) (l3 : Int32) : fX9_minutes_5 (n + 1) l0 l1 l2 l3 = bIf ((12 : Int32) ≤ l3) (fX9_minutes_44 l0 l2) (bCallV 9 l0 (fX9_isHeld l0 l3 l1) (fun x1 => bIf (x1 = 0) ((fX9_minutes_5 n) l0 l1 l2 (l3 + 1)) (bCallV 9 l0 (fX9_reaches l0 l3) (fun x2 => bIf (x2 = 0) ((fX9_minutes_5 n) l0 l1 l2 (l3 + 1)) (bCallV 9 l0 (fX9_knotsOfRope l0 l3) (fun x3 => (fX9_minutes_5 n) l0 l1 (jMin l2 x3) (l3 + 1))))))) := rfl
set_option maxRecDepth 20000 in
theorem rX9_minutes_5 (v : mE) (d : Nat) : ∀ (n : Nat) (l0 : Nat) (l1 : Int32) (l2 : Int32) (l3 : Int32), Rz v RX9 cX9_minutes 4 (some .int) false emI (d + 3) 5 [(0, vR l0), (1, vI l1), (2, vI l2), (3, vI l3)] [] (fX9_minutes_5 n l0 l1 l2 l3)
  | 0, _, _, _, _ => fun _ _ _ hm => by cases hm
  | n + 1, l0, l1, l2, l3 => by
    have h5 := rX9_minutes_5 v d n
    unfold fX9_minutes_5
    generalize fX9_minutes_5 n = r5 at h5 ⊢
    refine rz_iload_n 6 3 dX9_minutes_5 rfl rfl ?_
    refine rz_bipush 8 dX9_minutes_6 rfl cb_12 ?_
    refine rz_icmp_ge 44 11 dX9_minutes_8 rfl rfl ?_ ?_
    · exact rz_sub [0, 2] rfl (rX9_minutes_44 v d l0 l2)
    · refine rz_aload_n 12 0 dX9_minutes_11 rfl rfl ?_
      refine rz_iload_n 13 3 dX9_minutes_12 rfl rfl ?_
      refine rz_iload_n 14 1 dX9_minutes_13 rfl rfl ?_
      refine rz_callV 17 dX9_minutes_14 rfl (tX9_isHeld v (d + 0) l0 l3 l1) rfl rfl rfl rfl ml_X9_336 im_X9_isHeld se_X9_X9_isHeld in_X9 co_X9_isHeld rfl rfl (fun x1 => ?_)
      refine rz_if_eq 38 20 dX9_minutes_17 rfl rfl ?_ ?_
      · refine rz_iinc (lv' := [(3, vI (l3 + 1)), (0, vR l0), (1, vI l1), (2, vI l2)]) 41 3 dX9_minutes_38 rfl rfl (cn_1 _) rfl rfl ?_
        refine rz_goto 5 dX9_minutes_41 rfl ?_
        exact rz_sub [1, 2, 3, 0] rfl (h5 l0 l1 l2 (l3 + 1))
      · refine rz_aload_n 21 0 dX9_minutes_20 rfl rfl ?_
        refine rz_iload_n 22 3 dX9_minutes_21 rfl rfl ?_
        refine rz_callV 25 dX9_minutes_22 rfl (tX9_reaches v (d + 0) l0 l3) rfl rfl rfl rfl ml_X9_348 im_X9_reaches se_X9_X9_reaches in_X9 co_X9_reaches rfl rfl (fun x2 => ?_)
        refine rz_if_eq 38 28 dX9_minutes_25 rfl rfl ?_ ?_
        · refine rz_iinc (lv' := [(3, vI (l3 + 1)), (0, vR l0), (1, vI l1), (2, vI l2)]) 41 3 dX9_minutes_38 rfl rfl (cn_1 _) rfl rfl ?_
          refine rz_goto 5 dX9_minutes_41 rfl ?_
          exact rz_sub [1, 2, 3, 0] rfl (h5 l0 l1 l2 (l3 + 1))
        · refine rz_iload_n 29 2 dX9_minutes_28 rfl rfl ?_
          refine rz_aload_n 30 0 dX9_minutes_29 rfl rfl ?_
          refine rz_iload_n 31 3 dX9_minutes_30 rfl rfl ?_
          refine rz_callV 34 dX9_minutes_31 rfl (tX9_knotsOfRope v (d + 2) l0 l3) rfl rfl rfl rfl ml_X9_330 im_X9_knotsOfRope se_X9_X9_knotsOfRope in_X9 co_X9_knotsOfRope rfl rfl (fun x3 => ?_)
          refine rz_mmin 37 dX9_minutes_34 rfl ml_X9_390 rfl rfl ?_
          refine rz_istore_n (lv' := [(2, vI (jMin l2 x3)), (0, vR l0), (1, vI l1), (3, vI l3)]) 38 dX9_minutes_37 rfl rfl rfl ?_
          refine rz_iinc (lv' := [(3, vI (l3 + 1)), (2, vI (jMin l2 x3)), (0, vR l0), (1, vI l1)]) 41 3 dX9_minutes_38 rfl rfl (cn_1 _) rfl rfl ?_
          refine rz_goto 5 dX9_minutes_41 rfl ?_
          exact rz_sub [2, 3, 1, 0] rfl (h5 l0 l1 (jMin l2 x3) (l3 + 1))
def fX9_minutes (l0 : Nat) (l1 : Int32) : mM Int32 := fX9_minutes_5 fu l0 l1 (8 : Int32) (0 : Int32)
set_option maxRecDepth 20000 in
theorem rX9_minutes (v : mE) (d : Nat) (l0 : Nat) (l1 : Int32) : Rz v RX9 cX9_minutes 4 (some .int) false emI (d + 3) 0 [(0, vR l0), (1, vI l1)] [] (fX9_minutes l0 l1) := by
  unfold fX9_minutes
  refine rz_bipush 2 dX9_minutes_0 rfl cb_8 ?_
  refine rz_istore_n (lv' := [(2, vI (8 : Int32)), (0, vR l0), (1, vI l1)]) 3 dX9_minutes_2 rfl rfl rfl ?_
  refine rz_iconst 4 dX9_minutes_3 rfl ci_0 ?_
  refine rz_istore_n (lv' := [(3, vI (0 : Int32)), (2, vI (8 : Int32)), (0, vR l0), (1, vI l1)]) 5 dX9_minutes_4 rfl rfl rfl ?_
  exact rz_sub [2, 3, 1, 0] rfl (rX9_minutes_5 v d fu l0 l1 (8 : Int32) (0 : Int32))
theorem tX9_minutes (v : mE) (d : Nat) (l0 : Nat) (l1 : Int32) : Mt v yX9_minutes cX9_minutes 4 (some .int) emI (d + 3) [vR l0, vI l1] (fX9_minutes l0 l1) := mt_of rfl rfl (fun h => by cases h) rfl rfl (rX9_minutes v d l0 l1)
theorem dX9_drawing_0 : decode cX9_drawing 0 = .ok (.aload_n 0, 1) := by decide +kernel
theorem dX9_drawing_1 : decode cX9_drawing 1 = .ok (.iconst 0, 1) := by decide +kernel
theorem dX9_drawing_2 : decode cX9_drawing 2 = .ok (.putfield 62, 3) := by decide +kernel
theorem dX9_drawing_5 : decode cX9_drawing 5 = .ok (.aload_n 0, 1) := by decide +kernel
theorem dX9_drawing_6 : decode cX9_drawing 6 = .ok (.iconst 0, 1) := by decide +kernel
theorem dX9_drawing_7 : decode cX9_drawing 7 = .ok (.putfield 65, 3) := by decide +kernel
theorem dX9_drawing_10 : decode cX9_drawing 10 = .ok (.aload_n 0, 1) := by decide +kernel
theorem dX9_drawing_11 : decode cX9_drawing 11 = .ok (.iload_n 1, 1) := by decide +kernel
theorem dX9_drawing_12 : decode cX9_drawing 12 = .ok (.invokevirtual 360, 3) := by decide +kernel
theorem dX9_drawing_15 : decode cX9_drawing 15 = .ok (.ifCond .ne 9, 3) := by decide +kernel
theorem dX9_drawing_18 : decode cX9_drawing 18 = .ok (.aload_n 0, 1) := by decide +kernel
theorem dX9_drawing_19 : decode cX9_drawing 19 = .ok (.iconst 2, 1) := by decide +kernel
theorem dX9_drawing_20 : decode cX9_drawing 20 = .ok (.invokevirtual 357, 3) := by decide +kernel
theorem dX9_drawing_23 : decode cX9_drawing 23 = .ok (.ireturn, 1) := by decide +kernel
theorem dX9_drawing_24 : decode cX9_drawing 24 = .ok (.aload_n 0, 1) := by decide +kernel
theorem dX9_drawing_25 : decode cX9_drawing 25 = .ok (.iload_n 1, 1) := by decide +kernel
theorem dX9_drawing_26 : decode cX9_drawing 26 = .ok (.invokevirtual 351, 3) := by decide +kernel
theorem dX9_drawing_29 : decode cX9_drawing 29 = .ok (.ifCond .eq 11, 3) := by decide +kernel
theorem dX9_drawing_32 : decode cX9_drawing 32 = .ok (.aload_n 0, 1) := by decide +kernel
theorem dX9_drawing_33 : decode cX9_drawing 33 = .ok (.iload_n 1, 1) := by decide +kernel
theorem dX9_drawing_34 : decode cX9_drawing 34 = .ok (.invokevirtual 467, 3) := by decide +kernel
theorem dX9_drawing_37 : decode cX9_drawing 37 = .ok (.goto 9, 3) := by decide +kernel
theorem dX9_drawing_40 : decode cX9_drawing 40 = .ok (.aload_n 0, 1) := by decide +kernel
theorem dX9_drawing_41 : decode cX9_drawing 41 = .ok (.bipush 8, 2) := by decide +kernel
theorem dX9_drawing_43 : decode cX9_drawing 43 = .ok (.invokevirtual 357, 3) := by decide +kernel
theorem dX9_drawing_46 : decode cX9_drawing 46 = .ok (.ireturn, 1) := by decide +kernel
def fX9_drawing (l0 : Nat) (l1 : Int32) : mM Int32 := bPI 9 l0 1 (0 : Int32) (bPI 9 l0 0 (0 : Int32) (bCallV 9 l0 (fX9_isPerson l0 l1) (fun x1 => bIf (x1 = 0) (bCallV 9 l0 (fX9_refuse l0 (2 : Int32)) (fun x5 => bRet x5)) (bCallV 9 l0 (fX9_isDrinking l0 l1) (fun x2 => bIf (x2 = 0) (bCallV 9 l0 (fX9_refuse l0 (8 : Int32)) (fun x3 => bRet x3)) (bCallV 9 l0 (fX9_minutes l0 l1) (fun x4 => bRet x4)))))))
set_option maxRecDepth 20000 in
theorem rX9_drawing (v : mE) (d : Nat) (l0 : Nat) (l1 : Int32) : Rz v RX9 cX9_drawing 2 (some .int) false emI (d + 4) 0 [(0, vR l0), (1, vI l1)] [] (fX9_drawing l0 l1) := by
  unfold fX9_drawing
  refine rz_aload_n 1 0 dX9_drawing_0 rfl rfl ?_
  refine rz_iconst 2 dX9_drawing_1 rfl ci_0 ?_
  refine rz_pI 5 dX9_drawing_2 rfl rfl rfl rfl fl_X9_62 ?_
  refine rz_aload_n 6 0 dX9_drawing_5 rfl rfl ?_
  refine rz_iconst 7 dX9_drawing_6 rfl ci_0 ?_
  refine rz_pI 10 dX9_drawing_7 rfl rfl rfl rfl fl_X9_65 ?_
  refine rz_aload_n 11 0 dX9_drawing_10 rfl rfl ?_
  refine rz_iload_n 12 1 dX9_drawing_11 rfl rfl ?_
  refine rz_callV 15 dX9_drawing_12 rfl (tX9_isPerson v (d + 2) l0 l1) rfl rfl rfl rfl ml_X9_360 im_X9_isPerson se_X9_X9_isPerson in_X9 co_X9_isPerson rfl rfl (fun x1 => ?_)
  refine rz_if_ne 24 18 dX9_drawing_15 rfl rfl ?_ ?_
  · refine rz_aload_n 25 0 dX9_drawing_24 rfl rfl ?_
    refine rz_iload_n 26 1 dX9_drawing_25 rfl rfl ?_
    refine rz_callV 29 dX9_drawing_26 rfl (tX9_isDrinking v (d + 0) l0 l1) rfl rfl rfl rfl ml_X9_351 im_X9_isDrinking se_X9_X9_isDrinking in_X9 co_X9_isDrinking rfl rfl (fun x2 => ?_)
    refine rz_if_eq 40 32 dX9_drawing_29 rfl rfl ?_ ?_
    · refine rz_aload_n 41 0 dX9_drawing_40 rfl rfl ?_
      refine rz_bipush 43 dX9_drawing_41 rfl cb_8 ?_
      refine rz_callV 46 dX9_drawing_43 rfl (tX9_refuse v (d + 3) l0 (8 : Int32)) rfl rfl rfl rfl ml_X9_357 im_X9_refuse se_X9_X9_refuse in_X9 co_X9_refuse rfl rfl (fun x3 => ?_)
      exact rz_ireturn rfl rfl dX9_drawing_46
    · refine rz_aload_n 33 0 dX9_drawing_32 rfl rfl ?_
      refine rz_iload_n 34 1 dX9_drawing_33 rfl rfl ?_
      refine rz_callV 37 dX9_drawing_34 rfl (tX9_minutes v (d + 0) l0 l1) rfl rfl rfl rfl ml_X9_467 im_X9_minutes se_X9_X9_minutes in_X9 co_X9_minutes rfl rfl (fun x4 => ?_)
      refine rz_goto 46 dX9_drawing_37 rfl ?_
      exact rz_ireturn rfl rfl dX9_drawing_46
  · refine rz_aload_n 19 0 dX9_drawing_18 rfl rfl ?_
    refine rz_iconst 20 dX9_drawing_19 rfl ci_2 ?_
    refine rz_callV 23 dX9_drawing_20 rfl (tX9_refuse v (d + 3) l0 (2 : Int32)) rfl rfl rfl rfl ml_X9_357 im_X9_refuse se_X9_X9_refuse in_X9 co_X9_refuse rfl rfl (fun x5 => ?_)
    exact rz_ireturn rfl rfl dX9_drawing_23
theorem tX9_drawing (v : mE) (d : Nat) (l0 : Nat) (l1 : Int32) : Mt v yX9_drawing cX9_drawing 2 (some .int) emI (d + 4) [vR l0, vI l1] (fX9_drawing l0 l1) := mt_of rfl rfl (fun h => by cases h) rfl rfl (rX9_drawing v d l0 l1)
theorem dX9_whyNoQueue_0 : decode cX9_whyNoQueue 0 = .ok (.aload_n 0, 1) := by decide +kernel
theorem dX9_whyNoQueue_1 : decode cX9_whyNoQueue 1 = .ok (.iload_n 1, 1) := by decide +kernel
theorem dX9_whyNoQueue_2 : decode cX9_whyNoQueue 2 = .ok (.invokevirtual 470, 3) := by decide +kernel
theorem dX9_whyNoQueue_5 : decode cX9_whyNoQueue 5 = .ok (.ifCond .ne 5, 3) := by decide +kernel
theorem dX9_whyNoQueue_8 : decode cX9_whyNoQueue 8 = .ok (.iconst 1, 1) := by decide +kernel
theorem dX9_whyNoQueue_9 : decode cX9_whyNoQueue 9 = .ok (.ireturn, 1) := by decide +kernel
theorem dX9_whyNoQueue_10 : decode cX9_whyNoQueue 10 = .ok (.aload_n 0, 1) := by decide +kernel
theorem dX9_whyNoQueue_11 : decode cX9_whyNoQueue 11 = .ok (.getfield 17, 3) := by decide +kernel
theorem dX9_whyNoQueue_14 : decode cX9_whyNoQueue 14 = .ok (.iload_n 1, 1) := by decide +kernel
theorem dX9_whyNoQueue_15 : decode cX9_whyNoQueue 15 = .ok (.iaload, 1) := by decide +kernel
theorem dX9_whyNoQueue_16 : decode cX9_whyNoQueue 16 = .ok (.ifCond .ge 5, 3) := by decide +kernel
theorem dX9_whyNoQueue_19 : decode cX9_whyNoQueue 19 = .ok (.iconst 3, 1) := by decide +kernel
theorem dX9_whyNoQueue_20 : decode cX9_whyNoQueue 20 = .ok (.ireturn, 1) := by decide +kernel
theorem dX9_whyNoQueue_21 : decode cX9_whyNoQueue 21 = .ok (.aload_n 0, 1) := by decide +kernel
theorem dX9_whyNoQueue_22 : decode cX9_whyNoQueue 22 = .ok (.getfield 17, 3) := by decide +kernel
theorem dX9_whyNoQueue_25 : decode cX9_whyNoQueue 25 = .ok (.iload_n 1, 1) := by decide +kernel
theorem dX9_whyNoQueue_26 : decode cX9_whyNoQueue 26 = .ok (.iaload, 1) := by decide +kernel
theorem dX9_whyNoQueue_27 : decode cX9_whyNoQueue 27 = .ok (.iload_n 2, 1) := by decide +kernel
theorem dX9_whyNoQueue_28 : decode cX9_whyNoQueue 28 = .ok (.if_icmp .ge 5, 3) := by decide +kernel
theorem dX9_whyNoQueue_31 : decode cX9_whyNoQueue 31 = .ok (.iconst 4, 1) := by decide +kernel
theorem dX9_whyNoQueue_32 : decode cX9_whyNoQueue 32 = .ok (.ireturn, 1) := by decide +kernel
theorem dX9_whyNoQueue_33 : decode cX9_whyNoQueue 33 = .ok (.iload_n 2, 1) := by decide +kernel
theorem dX9_whyNoQueue_34 : decode cX9_whyNoQueue 34 = .ok (.i2l, 1) := by decide +kernel
theorem dX9_whyNoQueue_35 : decode cX9_whyNoQueue 35 = .ok (.lconst 1, 1) := by decide +kernel
theorem dX9_whyNoQueue_36 : decode cX9_whyNoQueue 36 = .ok (.ldc2_w 473, 3) := by decide +kernel
theorem dX9_whyNoQueue_39 : decode cX9_whyNoQueue 39 = .ok (.invokestatic 97, 3) := by decide +kernel
theorem dX9_whyNoQueue_42 : decode cX9_whyNoQueue 42 = .ok (.ifCond .ne 5, 3) := by decide +kernel
theorem dX9_whyNoQueue_45 : decode cX9_whyNoQueue 45 = .ok (.iconst 5, 1) := by decide +kernel
theorem dX9_whyNoQueue_46 : decode cX9_whyNoQueue 46 = .ok (.ireturn, 1) := by decide +kernel
theorem dX9_whyNoQueue_47 : decode cX9_whyNoQueue 47 = .ok (.iconst 0, 1) := by decide +kernel
theorem dX9_whyNoQueue_48 : decode cX9_whyNoQueue 48 = .ok (.istore_n 3, 1) := by decide +kernel
theorem dX9_whyNoQueue_49 : decode cX9_whyNoQueue 49 = .ok (.iconst 0, 1) := by decide +kernel
theorem dX9_whyNoQueue_50 : decode cX9_whyNoQueue 50 = .ok (.istore 4, 2) := by decide +kernel
theorem dX9_whyNoQueue_52 : decode cX9_whyNoQueue 52 = .ok (.iload 4, 2) := by decide +kernel
theorem dX9_whyNoQueue_54 : decode cX9_whyNoQueue 54 = .ok (.iload_n 2, 1) := by decide +kernel
theorem dX9_whyNoQueue_55 : decode cX9_whyNoQueue 55 = .ok (.if_icmp .ge 58, 3) := by decide +kernel
theorem dX9_whyNoQueue_58 : decode cX9_whyNoQueue 58 = .ok (.aload_n 0, 1) := by decide +kernel
theorem dX9_whyNoQueue_59 : decode cX9_whyNoQueue 59 = .ok (.iload_n 1, 1) := by decide +kernel
theorem dX9_whyNoQueue_60 : decode cX9_whyNoQueue 60 = .ok (.iload 4, 2) := by decide +kernel
theorem dX9_whyNoQueue_62 : decode cX9_whyNoQueue 62 = .ok (.invokevirtual 475, 3) := by decide +kernel
theorem dX9_whyNoQueue_65 : decode cX9_whyNoQueue 65 = .ok (.lstore 5, 2) := by decide +kernel
theorem dX9_whyNoQueue_67 : decode cX9_whyNoQueue 67 = .ok (.lload 5, 2) := by decide +kernel
theorem dX9_whyNoQueue_69 : decode cX9_whyNoQueue 69 = .ok (.lconst 0, 1) := by decide +kernel
theorem dX9_whyNoQueue_70 : decode cX9_whyNoQueue 70 = .ok (.aload_n 0, 1) := by decide +kernel
theorem dX9_whyNoQueue_71 : decode cX9_whyNoQueue 71 = .ok (.getfield 35, 3) := by decide +kernel
theorem dX9_whyNoQueue_74 : decode cX9_whyNoQueue 74 = .ok (.bipush 7, 2) := by decide +kernel
theorem dX9_whyNoQueue_76 : decode cX9_whyNoQueue 76 = .ok (.iaload, 1) := by decide +kernel
theorem dX9_whyNoQueue_77 : decode cX9_whyNoQueue 77 = .ok (.iconst 1, 1) := by decide +kernel
theorem dX9_whyNoQueue_78 : decode cX9_whyNoQueue 78 = .ok (.isub, 1) := by decide +kernel
theorem dX9_whyNoQueue_79 : decode cX9_whyNoQueue 79 = .ok (.i2l, 1) := by decide +kernel
theorem dX9_whyNoQueue_80 : decode cX9_whyNoQueue 80 = .ok (.invokestatic 97, 3) := by decide +kernel
theorem dX9_whyNoQueue_83 : decode cX9_whyNoQueue 83 = .ok (.ifCond .eq 14, 3) := by decide +kernel
theorem dX9_whyNoQueue_86 : decode cX9_whyNoQueue 86 = .ok (.iload_n 3, 1) := by decide +kernel
theorem dX9_whyNoQueue_87 : decode cX9_whyNoQueue 87 = .ok (.lload 5, 2) := by decide +kernel
theorem dX9_whyNoQueue_89 : decode cX9_whyNoQueue 89 = .ok (.l2i, 1) := by decide +kernel
theorem dX9_whyNoQueue_90 : decode cX9_whyNoQueue 90 = .ok (.ishr, 1) := by decide +kernel
theorem dX9_whyNoQueue_91 : decode cX9_whyNoQueue 91 = .ok (.iconst 1, 1) := by decide +kernel
theorem dX9_whyNoQueue_92 : decode cX9_whyNoQueue 92 = .ok (.iand, 1) := by decide +kernel
theorem dX9_whyNoQueue_93 : decode cX9_whyNoQueue 93 = .ok (.iconst 1, 1) := by decide +kernel
theorem dX9_whyNoQueue_94 : decode cX9_whyNoQueue 94 = .ok (.if_icmp .ne 5, 3) := by decide +kernel
theorem dX9_whyNoQueue_97 : decode cX9_whyNoQueue 97 = .ok (.iconst 5, 1) := by decide +kernel
theorem dX9_whyNoQueue_98 : decode cX9_whyNoQueue 98 = .ok (.ireturn, 1) := by decide +kernel
theorem dX9_whyNoQueue_99 : decode cX9_whyNoQueue 99 = .ok (.iload_n 3, 1) := by decide +kernel
theorem dX9_whyNoQueue_100 : decode cX9_whyNoQueue 100 = .ok (.iconst 1, 1) := by decide +kernel
theorem dX9_whyNoQueue_101 : decode cX9_whyNoQueue 101 = .ok (.lload 5, 2) := by decide +kernel
theorem dX9_whyNoQueue_103 : decode cX9_whyNoQueue 103 = .ok (.l2i, 1) := by decide +kernel
theorem dX9_whyNoQueue_104 : decode cX9_whyNoQueue 104 = .ok (.ishl, 1) := by decide +kernel
theorem dX9_whyNoQueue_105 : decode cX9_whyNoQueue 105 = .ok (.ior, 1) := by decide +kernel
theorem dX9_whyNoQueue_106 : decode cX9_whyNoQueue 106 = .ok (.istore_n 3, 1) := by decide +kernel
theorem dX9_whyNoQueue_107 : decode cX9_whyNoQueue 107 = .ok (.iinc 4 1, 3) := by decide +kernel
theorem dX9_whyNoQueue_110 : decode cX9_whyNoQueue 110 = .ok (.goto (-58), 3) := by decide +kernel
theorem dX9_whyNoQueue_113 : decode cX9_whyNoQueue 113 = .ok (.iconst 0, 1) := by decide +kernel
theorem dX9_whyNoQueue_114 : decode cX9_whyNoQueue 114 = .ok (.istore 4, 2) := by decide +kernel
theorem dX9_whyNoQueue_116 : decode cX9_whyNoQueue 116 = .ok (.iload 4, 2) := by decide +kernel
theorem dX9_whyNoQueue_118 : decode cX9_whyNoQueue 118 = .ok (.iload_n 2, 1) := by decide +kernel
theorem dX9_whyNoQueue_119 : decode cX9_whyNoQueue 119 = .ok (.if_icmp .ge 27, 3) := by decide +kernel
theorem dX9_whyNoQueue_122 : decode cX9_whyNoQueue 122 = .ok (.aload_n 0, 1) := by decide +kernel
theorem dX9_whyNoQueue_123 : decode cX9_whyNoQueue 123 = .ok (.aload_n 0, 1) := by decide +kernel
theorem dX9_whyNoQueue_124 : decode cX9_whyNoQueue 124 = .ok (.iload_n 1, 1) := by decide +kernel
theorem dX9_whyNoQueue_125 : decode cX9_whyNoQueue 125 = .ok (.iload 4, 2) := by decide +kernel
theorem dX9_whyNoQueue_127 : decode cX9_whyNoQueue 127 = .ok (.invokevirtual 475, 3) := by decide +kernel
theorem dX9_whyNoQueue_130 : decode cX9_whyNoQueue 130 = .ok (.l2i, 1) := by decide +kernel
theorem dX9_whyNoQueue_131 : decode cX9_whyNoQueue 131 = .ok (.invokevirtual 351, 3) := by decide +kernel
theorem dX9_whyNoQueue_134 : decode cX9_whyNoQueue 134 = .ok (.ifCond .ne 6, 3) := by decide +kernel
theorem dX9_whyNoQueue_137 : decode cX9_whyNoQueue 137 = .ok (.bipush 9, 2) := by decide +kernel
theorem dX9_whyNoQueue_139 : decode cX9_whyNoQueue 139 = .ok (.ireturn, 1) := by decide +kernel
theorem dX9_whyNoQueue_140 : decode cX9_whyNoQueue 140 = .ok (.iinc 4 1, 3) := by decide +kernel
theorem dX9_whyNoQueue_143 : decode cX9_whyNoQueue 143 = .ok (.goto (-27), 3) := by decide +kernel
theorem dX9_whyNoQueue_146 : decode cX9_whyNoQueue 146 = .ok (.iconst 0, 1) := by decide +kernel
theorem dX9_whyNoQueue_147 : decode cX9_whyNoQueue 147 = .ok (.istore 4, 2) := by decide +kernel
theorem dX9_whyNoQueue_149 : decode cX9_whyNoQueue 149 = .ok (.iload 4, 2) := by decide +kernel
theorem dX9_whyNoQueue_151 : decode cX9_whyNoQueue 151 = .ok (.iload_n 2, 1) := by decide +kernel
theorem dX9_whyNoQueue_152 : decode cX9_whyNoQueue 152 = .ok (.if_icmp .ge 28, 3) := by decide +kernel
theorem dX9_whyNoQueue_155 : decode cX9_whyNoQueue 155 = .ok (.aload_n 0, 1) := by decide +kernel
theorem dX9_whyNoQueue_156 : decode cX9_whyNoQueue 156 = .ok (.getfield 55, 3) := by decide +kernel
theorem dX9_whyNoQueue_159 : decode cX9_whyNoQueue 159 = .ok (.iload 4, 2) := by decide +kernel
theorem dX9_whyNoQueue_161 : decode cX9_whyNoQueue 161 = .ok (.aload_n 0, 1) := by decide +kernel
theorem dX9_whyNoQueue_162 : decode cX9_whyNoQueue 162 = .ok (.aload_n 0, 1) := by decide +kernel
theorem dX9_whyNoQueue_163 : decode cX9_whyNoQueue 163 = .ok (.iload_n 1, 1) := by decide +kernel
theorem dX9_whyNoQueue_164 : decode cX9_whyNoQueue 164 = .ok (.iload 4, 2) := by decide +kernel
theorem dX9_whyNoQueue_166 : decode cX9_whyNoQueue 166 = .ok (.invokevirtual 475, 3) := by decide +kernel
theorem dX9_whyNoQueue_169 : decode cX9_whyNoQueue 169 = .ok (.l2i, 1) := by decide +kernel
theorem dX9_whyNoQueue_170 : decode cX9_whyNoQueue 170 = .ok (.invokevirtual 467, 3) := by decide +kernel
theorem dX9_whyNoQueue_173 : decode cX9_whyNoQueue 173 = .ok (.iastore, 1) := by decide +kernel
theorem dX9_whyNoQueue_174 : decode cX9_whyNoQueue 174 = .ok (.iinc 4 1, 3) := by decide +kernel
theorem dX9_whyNoQueue_177 : decode cX9_whyNoQueue 177 = .ok (.goto (-28), 3) := by decide +kernel
theorem dX9_whyNoQueue_180 : decode cX9_whyNoQueue 180 = .ok (.iconst 0, 1) := by decide +kernel
theorem dX9_whyNoQueue_181 : decode cX9_whyNoQueue 181 = .ok (.ireturn, 1) := by decide +kernel
def fX9_whyNoQueue_149 : Nat → Nat → Int32 → Int32 → Int32 → mM Int32
  | 0 => fun _ _ _ _ => fun _ => none
  | n + 1 => fun l0 l1 l2 l4 => let r149 := fX9_whyNoQueue_149 n; bIf (l2 ≤ l4) (bRet (0 : Int32)) (bGR 9 l0 32 (fun x1 => bCallV 9 l0 (fX9_numberOf l0 l1 l4) (fun x2 => bCallV 9 l0 (fX9_minutes l0 (Int64.toInt32 x2)) (fun x3 => bSI x1 l4 x3 (r149 l0 l1 l2 (l4 + 1))))))
theorem qX9_whyNoQueue_149  (n : Nat) (l0 : Nat) (l1 : Int32) (l2 : Int32) (l4 : Int32) : fX9_whyNoQueue_149 (n + 1) l0 l1 l2 l4 = bIf (l2 ≤ l4) (bRet (0 : Int32)) (bGR 9 l0 32 (fun x1 => bCallV 9 l0 (fX9_numberOf l0 l1 l4) (fun x2 => bCallV 9 l0 (fX9_minutes l0 (Int64.toInt32 x2)) (fun x3 => bSI x1 l4 x3 ((fX9_whyNoQueue_149 n) l0 l1 l2 (l4 + 1)))))) := rfl
set_option maxRecDepth 20000 in
theorem rX9_whyNoQueue_149 (v : mE) (d : Nat) : ∀ (n : Nat) (l0 : Nat) (l1 : Int32) (l2 : Int32) (l4 : Int32), Rz v RX9 cX9_whyNoQueue 7 (some .int) false emI (d + 4) 149 [(0, vR l0), (1, vI l1), (2, vI l2), (4, vI l4)] [] (fX9_whyNoQueue_149 n l0 l1 l2 l4)
  | 0, _, _, _, _ => fun _ _ _ hm => by cases hm
  | n + 1, l0, l1, l2, l4 => by
    have h149 := rX9_whyNoQueue_149 v d n
    unfold fX9_whyNoQueue_149
    generalize fX9_whyNoQueue_149 n = r149 at h149 ⊢
    refine rz_iload 151 3 dX9_whyNoQueue_149 rfl rfl ?_
    refine rz_iload_n 152 2 dX9_whyNoQueue_151 rfl rfl ?_
    refine rz_icmp_ge 180 155 dX9_whyNoQueue_152 rfl rfl ?_ ?_
    · refine rz_iconst 181 dX9_whyNoQueue_180 rfl ci_0 ?_
      exact rz_ireturn rfl rfl dX9_whyNoQueue_181
    · refine rz_aload_n 156 0 dX9_whyNoQueue_155 rfl rfl ?_
      refine rz_gR 159 dX9_whyNoQueue_156 rfl rfl fl_X9_55 (fun x1 => ?_)
      refine rz_iload 161 3 dX9_whyNoQueue_159 rfl rfl ?_
      refine rz_aload_n 162 0 dX9_whyNoQueue_161 rfl rfl ?_
      refine rz_aload_n 163 0 dX9_whyNoQueue_162 rfl rfl ?_
      refine rz_iload_n 164 1 dX9_whyNoQueue_163 rfl rfl ?_
      refine rz_iload 166 3 dX9_whyNoQueue_164 rfl rfl ?_
      refine rz_callV 169 dX9_whyNoQueue_166 rfl (tX9_numberOf v (d + 3) l0 l1 l4) rfl rfl rfl rfl ml_X9_475 im_X9_numberOf se_X9_X9_numberOf in_X9 co_X9_numberOf rfl rfl (fun x2 => ?_)
      refine rz_l2i 170 dX9_whyNoQueue_169 rfl ?_
      refine rz_callV 173 dX9_whyNoQueue_170 rfl (tX9_minutes v (d + 0) l0 (Int64.toInt32 x2)) rfl rfl rfl rfl ml_X9_467 im_X9_minutes se_X9_X9_minutes in_X9 co_X9_minutes rfl rfl (fun x3 => ?_)
      refine rz_iast 174 dX9_whyNoQueue_173 rfl ?_
      refine rz_iinc (lv' := [(4, vI (l4 + 1)), (0, vR l0), (1, vI l1), (2, vI l2)]) 177 3 dX9_whyNoQueue_174 rfl rfl (cn_1 _) rfl rfl ?_
      refine rz_goto 149 dX9_whyNoQueue_177 rfl ?_
      exact rz_sub [1, 2, 3, 0] rfl (h149 l0 l1 l2 (l4 + 1))
def fX9_whyNoQueue_146 (l0 : Nat) (l1 : Int32) (l2 : Int32) : mM Int32 := fX9_whyNoQueue_149 fu l0 l1 l2 (0 : Int32)
set_option maxRecDepth 20000 in
theorem rX9_whyNoQueue_146 (v : mE) (d : Nat) (l0 : Nat) (l1 : Int32) (l2 : Int32) : Rz v RX9 cX9_whyNoQueue 7 (some .int) false emI (d + 4) 146 [(0, vR l0), (1, vI l1), (2, vI l2)] [] (fX9_whyNoQueue_146 l0 l1 l2) := by
  unfold fX9_whyNoQueue_146
  refine rz_iconst 147 dX9_whyNoQueue_146 rfl ci_0 ?_
  refine rz_istore (lv' := [(4, vI (0 : Int32)), (0, vR l0), (1, vI l1), (2, vI l2)]) 149 dX9_whyNoQueue_147 rfl rfl rfl ?_
  exact rz_sub [1, 2, 3, 0] rfl (rX9_whyNoQueue_149 v d fu l0 l1 l2 (0 : Int32))
def fX9_whyNoQueue_116 : Nat → Nat → Int32 → Int32 → Int32 → mM Int32
  | 0 => fun _ _ _ _ => fun _ => none
  | n + 1 => fun l0 l1 l2 l4 => let r116 := fX9_whyNoQueue_116 n; bIf (l2 ≤ l4) (fX9_whyNoQueue_146 l0 l1 l2) (bCallV 9 l0 (fX9_numberOf l0 l1 l4) (fun x1 => bCallV 9 l0 (fX9_isDrinking l0 (Int64.toInt32 x1)) (fun x2 => bIf (x2 = 0) (bRet (9 : Int32)) (r116 l0 l1 l2 (l4 + 1)))))
theorem qX9_whyNoQueue_116  (n : Nat) (l0 : Nat) (l1 : Int32) (l2 : Int32) (l4 : Int32) : fX9_whyNoQueue_116 (n + 1) l0 l1 l2 l4 = bIf (l2 ≤ l4) (fX9_whyNoQueue_146 l0 l1 l2) (bCallV 9 l0 (fX9_numberOf l0 l1 l4) (fun x1 => bCallV 9 l0 (fX9_isDrinking l0 (Int64.toInt32 x1)) (fun x2 => bIf (x2 = 0) (bRet (9 : Int32)) ((fX9_whyNoQueue_116 n) l0 l1 l2 (l4 + 1))))) := rfl
set_option maxRecDepth 20000 in
theorem rX9_whyNoQueue_116 (v : mE) (d : Nat) : ∀ (n : Nat) (l0 : Nat) (l1 : Int32) (l2 : Int32) (l4 : Int32), Rz v RX9 cX9_whyNoQueue 7 (some .int) false emI (d + 4) 116 [(0, vR l0), (1, vI l1), (2, vI l2), (4, vI l4)] [] (fX9_whyNoQueue_116 n l0 l1 l2 l4)
  | 0, _, _, _, _ => fun _ _ _ hm => by cases hm
  | n + 1, l0, l1, l2, l4 => by
    have h116 := rX9_whyNoQueue_116 v d n
    unfold fX9_whyNoQueue_116
    generalize fX9_whyNoQueue_116 n = r116 at h116 ⊢
    refine rz_iload 118 3 dX9_whyNoQueue_116 rfl rfl ?_
    refine rz_iload_n 119 2 dX9_whyNoQueue_118 rfl rfl ?_
    refine rz_icmp_ge 146 122 dX9_whyNoQueue_119 rfl rfl ?_ ?_
    · exact rz_sub [0, 1, 2] rfl (rX9_whyNoQueue_146 v d l0 l1 l2)
    · refine rz_aload_n 123 0 dX9_whyNoQueue_122 rfl rfl ?_
      refine rz_aload_n 124 0 dX9_whyNoQueue_123 rfl rfl ?_
      refine rz_iload_n 125 1 dX9_whyNoQueue_124 rfl rfl ?_
      refine rz_iload 127 3 dX9_whyNoQueue_125 rfl rfl ?_
      refine rz_callV 130 dX9_whyNoQueue_127 rfl (tX9_numberOf v (d + 3) l0 l1 l4) rfl rfl rfl rfl ml_X9_475 im_X9_numberOf se_X9_X9_numberOf in_X9 co_X9_numberOf rfl rfl (fun x1 => ?_)
      refine rz_l2i 131 dX9_whyNoQueue_130 rfl ?_
      refine rz_callV 134 dX9_whyNoQueue_131 rfl (tX9_isDrinking v (d + 0) l0 (Int64.toInt32 x1)) rfl rfl rfl rfl ml_X9_351 im_X9_isDrinking se_X9_X9_isDrinking in_X9 co_X9_isDrinking rfl rfl (fun x2 => ?_)
      refine rz_if_ne 140 137 dX9_whyNoQueue_134 rfl rfl ?_ ?_
      · refine rz_iinc (lv' := [(4, vI (l4 + 1)), (0, vR l0), (1, vI l1), (2, vI l2)]) 143 3 dX9_whyNoQueue_140 rfl rfl (cn_1 _) rfl rfl ?_
        refine rz_goto 116 dX9_whyNoQueue_143 rfl ?_
        exact rz_sub [1, 2, 3, 0] rfl (h116 l0 l1 l2 (l4 + 1))
      · refine rz_bipush 139 dX9_whyNoQueue_137 rfl cb_9 ?_
        exact rz_ireturn rfl rfl dX9_whyNoQueue_139
def fX9_whyNoQueue_113 (l0 : Nat) (l1 : Int32) (l2 : Int32) : mM Int32 := fX9_whyNoQueue_116 fu l0 l1 l2 (0 : Int32)
set_option maxRecDepth 20000 in
theorem rX9_whyNoQueue_113 (v : mE) (d : Nat) (l0 : Nat) (l1 : Int32) (l2 : Int32) : Rz v RX9 cX9_whyNoQueue 7 (some .int) false emI (d + 4) 113 [(0, vR l0), (1, vI l1), (2, vI l2)] [] (fX9_whyNoQueue_113 l0 l1 l2) := by
  unfold fX9_whyNoQueue_113
  refine rz_iconst 114 dX9_whyNoQueue_113 rfl ci_0 ?_
  refine rz_istore (lv' := [(4, vI (0 : Int32)), (0, vR l0), (1, vI l1), (2, vI l2)]) 116 dX9_whyNoQueue_114 rfl rfl rfl ?_
  exact rz_sub [1, 2, 3, 0] rfl (rX9_whyNoQueue_116 v d fu l0 l1 l2 (0 : Int32))
def fX9_whyNoQueue_52 : Nat → Nat → Int32 → Int32 → Int32 → Int32 → mM Int32
  | 0 => fun _ _ _ _ _ => fun _ => none
  | n + 1 => fun l0 l1 l2 l3 l4 => let r52 := fX9_whyNoQueue_52 n; bIf (l2 ≤ l4) (fX9_whyNoQueue_113 l0 l1 l2) (bCallV 9 l0 (fX9_numberOf l0 l1 l4) (fun x1 => bGR 9 l0 24 (fun x2 => bAI 11 x2 (7 : Int32) (fun x3 => bCall (fX9_isIn x1 (0 : Int64) (Int32.toInt64 (x3 - (1 : Int32)))) (fun x4 => bIf (x4 = 0) (bRet (5 : Int32)) (bIf (((l3 >>> ((Int64.toInt32 x1) &&& 31)) &&& (1 : Int32)) = (1 : Int32)) (bRet (5 : Int32)) (r52 l0 l1 l2 (l3 ||| ((1 : Int32) <<< ((Int64.toInt32 x1) &&& 31))) (l4 + 1))))))))
theorem qX9_whyNoQueue_52  (n : Nat) (l0 : Nat) (l1 : Int32) (l2 : Int32) (l3 : Int32) (l4 : Int32) : fX9_whyNoQueue_52 (n + 1) l0 l1 l2 l3 l4 = bIf (l2 ≤ l4) (fX9_whyNoQueue_113 l0 l1 l2) (bCallV 9 l0 (fX9_numberOf l0 l1 l4) (fun x1 => bGR 9 l0 24 (fun x2 => bAI 11 x2 (7 : Int32) (fun x3 => bCall (fX9_isIn x1 (0 : Int64) (Int32.toInt64 (x3 - (1 : Int32)))) (fun x4 => bIf (x4 = 0) (bRet (5 : Int32)) (bIf (((l3 >>> ((Int64.toInt32 x1) &&& 31)) &&& (1 : Int32)) = (1 : Int32)) (bRet (5 : Int32)) ((fX9_whyNoQueue_52 n) l0 l1 l2 (l3 ||| ((1 : Int32) <<< ((Int64.toInt32 x1) &&& 31))) (l4 + 1)))))))) := rfl
set_option maxRecDepth 20000 in
theorem rX9_whyNoQueue_52 (v : mE) (d : Nat) : ∀ (n : Nat) (l0 : Nat) (l1 : Int32) (l2 : Int32) (l3 : Int32) (l4 : Int32), Rz v RX9 cX9_whyNoQueue 7 (some .int) false emI (d + 4) 52 [(0, vR l0), (1, vI l1), (2, vI l2), (3, vI l3), (4, vI l4)] [] (fX9_whyNoQueue_52 n l0 l1 l2 l3 l4)
  | 0, _, _, _, _, _ => fun _ _ _ hm => by cases hm
  | n + 1, l0, l1, l2, l3, l4 => by
    have h52 := rX9_whyNoQueue_52 v d n
    unfold fX9_whyNoQueue_52
    generalize fX9_whyNoQueue_52 n = r52 at h52 ⊢
    refine rz_iload 54 4 dX9_whyNoQueue_52 rfl rfl ?_
    refine rz_iload_n 55 2 dX9_whyNoQueue_54 rfl rfl ?_
    refine rz_icmp_ge 113 58 dX9_whyNoQueue_55 rfl rfl ?_ ?_
    · exact rz_sub [0, 1, 2] rfl (rX9_whyNoQueue_113 v d l0 l1 l2)
    · refine rz_aload_n 59 0 dX9_whyNoQueue_58 rfl rfl ?_
      refine rz_iload_n 60 1 dX9_whyNoQueue_59 rfl rfl ?_
      refine rz_iload 62 4 dX9_whyNoQueue_60 rfl rfl ?_
      refine rz_callV 65 dX9_whyNoQueue_62 rfl (tX9_numberOf v (d + 3) l0 l1 l4) rfl rfl rfl rfl ml_X9_475 im_X9_numberOf se_X9_X9_numberOf in_X9 co_X9_numberOf rfl rfl (fun x1 => ?_)
      refine rz_lstore (lv' := [(5, vL x1), (0, vR l0), (1, vI l1), (2, vI l2), (3, vI l3), (4, vI l4)]) 67 dX9_whyNoQueue_65 rfl rfl rfl ?_
      refine rz_lload 69 0 dX9_whyNoQueue_67 rfl rfl ?_
      refine rz_lconst 70 dX9_whyNoQueue_69 rfl cl_0 ?_
      refine rz_aload_n 71 1 dX9_whyNoQueue_70 rfl rfl ?_
      refine rz_gR 74 dX9_whyNoQueue_71 rfl rfl fl_X9_35 (fun x2 => ?_)
      refine rz_bipush 76 dX9_whyNoQueue_74 rfl cb_7 ?_
      refine rz_iald 77 dX9_whyNoQueue_76 rfl (fun x3 => ?_)
      refine rz_iconst 78 dX9_whyNoQueue_77 rfl ci_1 ?_
      refine rz_isub 79 dX9_whyNoQueue_78 rfl ?_
      refine rz_i2l 80 dX9_whyNoQueue_79 rfl ?_
      refine rz_callS 83 dX9_whyNoQueue_80 rfl (tX9_isIn v (d + 3) x1 (0 : Int64) (Int32.toInt64 (x3 - (1 : Int32)))) rfl rfl ml_X9_97 sm_X9_isIn in_X9 co_X9_isIn rfl rfl (fun x4 => ?_)
      refine rz_if_eq 97 86 dX9_whyNoQueue_83 rfl rfl ?_ ?_
      · refine rz_iconst 98 dX9_whyNoQueue_97 rfl ci_5 ?_
        exact rz_ireturn rfl rfl dX9_whyNoQueue_98
      · refine rz_iload_n 87 4 dX9_whyNoQueue_86 rfl rfl ?_
        refine rz_lload 89 0 dX9_whyNoQueue_87 rfl rfl ?_
        refine rz_l2i 90 dX9_whyNoQueue_89 rfl ?_
        refine rz_ishr 91 dX9_whyNoQueue_90 rfl ?_
        refine rz_iconst 92 dX9_whyNoQueue_91 rfl ci_1 ?_
        refine rz_iand 93 dX9_whyNoQueue_92 rfl ?_
        refine rz_iconst 94 dX9_whyNoQueue_93 rfl ci_1 ?_
        refine rz_icmp_ne 99 97 dX9_whyNoQueue_94 rfl rfl ?_ ?_
        · refine rz_iload_n 100 4 dX9_whyNoQueue_99 rfl rfl ?_
          refine rz_iconst 101 dX9_whyNoQueue_100 rfl ci_1 ?_
          refine rz_lload 103 0 dX9_whyNoQueue_101 rfl rfl ?_
          refine rz_l2i 104 dX9_whyNoQueue_103 rfl ?_
          refine rz_ishl 105 dX9_whyNoQueue_104 rfl ?_
          refine rz_ior 106 dX9_whyNoQueue_105 rfl ?_
          refine rz_istore_n (lv' := [(3, vI (l3 ||| ((1 : Int32) <<< ((Int64.toInt32 x1) &&& 31)))), (5, vL x1), (0, vR l0), (1, vI l1), (2, vI l2), (4, vI l4)]) 107 dX9_whyNoQueue_106 rfl rfl rfl ?_
          refine rz_iinc (lv' := [(4, vI (l4 + 1)), (3, vI (l3 ||| ((1 : Int32) <<< ((Int64.toInt32 x1) &&& 31)))), (5, vL x1), (0, vR l0), (1, vI l1), (2, vI l2)]) 110 5 dX9_whyNoQueue_107 rfl rfl (cn_1 _) rfl rfl ?_
          refine rz_goto 52 dX9_whyNoQueue_110 rfl ?_
          exact rz_sub [3, 4, 5, 1, 0] rfl (h52 l0 l1 l2 (l3 ||| ((1 : Int32) <<< ((Int64.toInt32 x1) &&& 31))) (l4 + 1))
        · refine rz_iconst 98 dX9_whyNoQueue_97 rfl ci_5 ?_
          exact rz_ireturn rfl rfl dX9_whyNoQueue_98
def fX9_whyNoQueue (l0 : Nat) (l1 : Int32) (l2 : Int32) : mM Int32 := bCallV 9 l0 (fX9_isTray l0 l1) (fun x1 => bIf (x1 = 0) (bRet (1 : Int32)) (bGR 9 l0 5 (fun x2 => bAI 11 x2 l1 (fun x3 => bIf (0 ≤ x3) (bGR 9 l0 5 (fun x4 => bAI 11 x4 l1 (fun x5 => bIf (l2 ≤ x5) (bCall (fX9_isIn (Int32.toInt64 l2) (1 : Int64) (8 : Int64)) (fun x6 => bIf (x6 = 0) (bRet (5 : Int32)) (fX9_whyNoQueue_52 fu l0 l1 l2 (0 : Int32) (0 : Int32)))) (bRet (4 : Int32))))) (bRet (3 : Int32))))))
set_option maxRecDepth 20000 in
theorem rX9_whyNoQueue (v : mE) (d : Nat) (l0 : Nat) (l1 : Int32) (l2 : Int32) : Rz v RX9 cX9_whyNoQueue 7 (some .int) false emI (d + 4) 0 [(0, vR l0), (1, vI l1), (2, vI l2)] [] (fX9_whyNoQueue l0 l1 l2) := by
  unfold fX9_whyNoQueue
  refine rz_aload_n 1 0 dX9_whyNoQueue_0 rfl rfl ?_
  refine rz_iload_n 2 1 dX9_whyNoQueue_1 rfl rfl ?_
  refine rz_callV 5 dX9_whyNoQueue_2 rfl (tX9_isTray v (d + 2) l0 l1) rfl rfl rfl rfl ml_X9_470 im_X9_isTray se_X9_X9_isTray in_X9 co_X9_isTray rfl rfl (fun x1 => ?_)
  refine rz_if_ne 10 8 dX9_whyNoQueue_5 rfl rfl ?_ ?_
  · refine rz_aload_n 11 0 dX9_whyNoQueue_10 rfl rfl ?_
    refine rz_gR 14 dX9_whyNoQueue_11 rfl rfl fl_X9_17 (fun x2 => ?_)
    refine rz_iload_n 15 1 dX9_whyNoQueue_14 rfl rfl ?_
    refine rz_iald 16 dX9_whyNoQueue_15 rfl (fun x3 => ?_)
    refine rz_if_ge 21 19 dX9_whyNoQueue_16 rfl rfl ?_ ?_
    · refine rz_aload_n 22 0 dX9_whyNoQueue_21 rfl rfl ?_
      refine rz_gR 25 dX9_whyNoQueue_22 rfl rfl fl_X9_17 (fun x4 => ?_)
      refine rz_iload_n 26 1 dX9_whyNoQueue_25 rfl rfl ?_
      refine rz_iald 27 dX9_whyNoQueue_26 rfl (fun x5 => ?_)
      refine rz_iload_n 28 2 dX9_whyNoQueue_27 rfl rfl ?_
      refine rz_icmp_ge 33 31 dX9_whyNoQueue_28 rfl rfl ?_ ?_
      · refine rz_iload_n 34 2 dX9_whyNoQueue_33 rfl rfl ?_
        refine rz_i2l 35 dX9_whyNoQueue_34 rfl ?_
        refine rz_lconst 36 dX9_whyNoQueue_35 rfl cl_1 ?_
        refine rz_ldc2 39 dX9_whyNoQueue_36 rfl cu_X9_473 ?_
        refine rz_callS 42 dX9_whyNoQueue_39 rfl (tX9_isIn v (d + 3) (Int32.toInt64 l2) (1 : Int64) (8 : Int64)) rfl rfl ml_X9_97 sm_X9_isIn in_X9 co_X9_isIn rfl rfl (fun x6 => ?_)
        refine rz_if_ne 47 45 dX9_whyNoQueue_42 rfl rfl ?_ ?_
        · refine rz_iconst 48 dX9_whyNoQueue_47 rfl ci_0 ?_
          refine rz_istore_n (lv' := [(3, vI (0 : Int32)), (0, vR l0), (1, vI l1), (2, vI l2)]) 49 dX9_whyNoQueue_48 rfl rfl rfl ?_
          refine rz_iconst 50 dX9_whyNoQueue_49 rfl ci_0 ?_
          refine rz_istore (lv' := [(4, vI (0 : Int32)), (3, vI (0 : Int32)), (0, vR l0), (1, vI l1), (2, vI l2)]) 52 dX9_whyNoQueue_50 rfl rfl rfl ?_
          exact rz_sub [2, 3, 4, 1, 0] rfl (rX9_whyNoQueue_52 v d fu l0 l1 l2 (0 : Int32) (0 : Int32))
        · refine rz_iconst 46 dX9_whyNoQueue_45 rfl ci_5 ?_
          exact rz_ireturn rfl rfl dX9_whyNoQueue_46
      · refine rz_iconst 32 dX9_whyNoQueue_31 rfl ci_4 ?_
        exact rz_ireturn rfl rfl dX9_whyNoQueue_32
    · refine rz_iconst 20 dX9_whyNoQueue_19 rfl ci_3 ?_
      exact rz_ireturn rfl rfl dX9_whyNoQueue_20
  · refine rz_iconst 9 dX9_whyNoQueue_8 rfl ci_1 ?_
    exact rz_ireturn rfl rfl dX9_whyNoQueue_9
theorem tX9_whyNoQueue (v : mE) (d : Nat) (l0 : Nat) (l1 : Int32) (l2 : Int32) : Mt v yX9_whyNoQueue cX9_whyNoQueue 7 (some .int) emI (d + 4) [vR l0, vI l1, vI l2] (fX9_whyNoQueue l0 l1 l2) := mt_of rfl rfl (fun h => by cases h) rfl rfl (rX9_whyNoQueue v d l0 l1 l2)
theorem dX9_waits_0 : decode cX9_waits 0 = .ok (.iconst 0, 1) := by decide +kernel
theorem dX9_waits_1 : decode cX9_waits 1 = .ok (.istore_n 2, 1) := by decide +kernel
theorem dX9_waits_2 : decode cX9_waits 2 = .ok (.iconst 0, 1) := by decide +kernel
theorem dX9_waits_3 : decode cX9_waits 3 = .ok (.istore_n 3, 1) := by decide +kernel
theorem dX9_waits_4 : decode cX9_waits 4 = .ok (.iconst 0, 1) := by decide +kernel
theorem dX9_waits_5 : decode cX9_waits 5 = .ok (.istore 4, 2) := by decide +kernel
theorem dX9_waits_7 : decode cX9_waits 7 = .ok (.iload 4, 2) := by decide +kernel
theorem dX9_waits_9 : decode cX9_waits 9 = .ok (.iload_n 1, 1) := by decide +kernel
theorem dX9_waits_10 : decode cX9_waits 10 = .ok (.if_icmp .ge 23, 3) := by decide +kernel
theorem dX9_waits_13 : decode cX9_waits 13 = .ok (.iload_n 2, 1) := by decide +kernel
theorem dX9_waits_14 : decode cX9_waits 14 = .ok (.iload_n 3, 1) := by decide +kernel
theorem dX9_waits_15 : decode cX9_waits 15 = .ok (.iadd, 1) := by decide +kernel
theorem dX9_waits_16 : decode cX9_waits 16 = .ok (.istore_n 2, 1) := by decide +kernel
theorem dX9_waits_17 : decode cX9_waits 17 = .ok (.iload_n 3, 1) := by decide +kernel
theorem dX9_waits_18 : decode cX9_waits 18 = .ok (.aload_n 0, 1) := by decide +kernel
theorem dX9_waits_19 : decode cX9_waits 19 = .ok (.getfield 55, 3) := by decide +kernel
theorem dX9_waits_22 : decode cX9_waits 22 = .ok (.iload 4, 2) := by decide +kernel
theorem dX9_waits_24 : decode cX9_waits 24 = .ok (.iaload, 1) := by decide +kernel
theorem dX9_waits_25 : decode cX9_waits 25 = .ok (.iadd, 1) := by decide +kernel
theorem dX9_waits_26 : decode cX9_waits 26 = .ok (.istore_n 3, 1) := by decide +kernel
theorem dX9_waits_27 : decode cX9_waits 27 = .ok (.iinc 4 1, 3) := by decide +kernel
theorem dX9_waits_30 : decode cX9_waits 30 = .ok (.goto (-23), 3) := by decide +kernel
theorem dX9_waits_33 : decode cX9_waits 33 = .ok (.iload_n 2, 1) := by decide +kernel
theorem dX9_waits_34 : decode cX9_waits 34 = .ok (.ireturn, 1) := by decide +kernel
def fX9_waits_7 : Nat → Nat → Int32 → Int32 → Int32 → Int32 → mM Int32
  | 0 => fun _ _ _ _ _ => fun _ => none
  | n + 1 => fun l0 l1 l2 l3 l4 => let r7 := fX9_waits_7 n; bIf (l1 ≤ l4) (bRet l2) (bGR 9 l0 32 (fun x1 => bAI 11 x1 l4 (fun x2 => r7 l0 l1 (l2 + l3) (l3 + x2) (l4 + 1))))
theorem qX9_waits_7  (n : Nat) (l0 : Nat) (l1 : Int32) (l2 : Int32) (l3 : Int32) (l4 : Int32) : fX9_waits_7 (n + 1) l0 l1 l2 l3 l4 = bIf (l1 ≤ l4) (bRet l2) (bGR 9 l0 32 (fun x1 => bAI 11 x1 l4 (fun x2 => (fX9_waits_7 n) l0 l1 (l2 + l3) (l3 + x2) (l4 + 1)))) := rfl
set_option maxRecDepth 20000 in
theorem rX9_waits_7 (v : mE) (d : Nat) : ∀ (n : Nat) (l0 : Nat) (l1 : Int32) (l2 : Int32) (l3 : Int32) (l4 : Int32), Rz v RX9 cX9_waits 5 (some .int) false emI (d + 0) 7 [(0, vR l0), (1, vI l1), (2, vI l2), (3, vI l3), (4, vI l4)] [] (fX9_waits_7 n l0 l1 l2 l3 l4)
  | 0, _, _, _, _, _ => fun _ _ _ hm => by cases hm
  | n + 1, l0, l1, l2, l3, l4 => by
    have h7 := rX9_waits_7 v d n
    unfold fX9_waits_7
    generalize fX9_waits_7 n = r7 at h7 ⊢
    refine rz_iload 9 4 dX9_waits_7 rfl rfl ?_
    refine rz_iload_n 10 1 dX9_waits_9 rfl rfl ?_
    refine rz_icmp_ge 33 13 dX9_waits_10 rfl rfl ?_ ?_
    · refine rz_iload_n 34 2 dX9_waits_33 rfl rfl ?_
      exact rz_ireturn rfl rfl dX9_waits_34
    · refine rz_iload_n 14 2 dX9_waits_13 rfl rfl ?_
      refine rz_iload_n 15 3 dX9_waits_14 rfl rfl ?_
      refine rz_iadd 16 dX9_waits_15 rfl ?_
      refine rz_istore_n (lv' := [(2, vI (l2 + l3)), (0, vR l0), (1, vI l1), (3, vI l3), (4, vI l4)]) 17 dX9_waits_16 rfl rfl rfl ?_
      refine rz_iload_n 18 3 dX9_waits_17 rfl rfl ?_
      refine rz_aload_n 19 1 dX9_waits_18 rfl rfl ?_
      refine rz_gR 22 dX9_waits_19 rfl rfl fl_X9_55 (fun x1 => ?_)
      refine rz_iload 24 4 dX9_waits_22 rfl rfl ?_
      refine rz_iald 25 dX9_waits_24 rfl (fun x2 => ?_)
      refine rz_iadd 26 dX9_waits_25 rfl ?_
      refine rz_istore_n (lv' := [(3, vI (l3 + x2)), (2, vI (l2 + l3)), (0, vR l0), (1, vI l1), (4, vI l4)]) 27 dX9_waits_26 rfl rfl rfl ?_
      refine rz_iinc (lv' := [(4, vI (l4 + 1)), (3, vI (l3 + x2)), (2, vI (l2 + l3)), (0, vR l0), (1, vI l1)]) 30 4 dX9_waits_27 rfl rfl (cn_1 _) rfl rfl ?_
      refine rz_goto 7 dX9_waits_30 rfl ?_
      exact rz_sub [3, 4, 2, 1, 0] rfl (h7 l0 l1 (l2 + l3) (l3 + x2) (l4 + 1))
def fX9_waits (l0 : Nat) (l1 : Int32) : mM Int32 := fX9_waits_7 fu l0 l1 (0 : Int32) (0 : Int32) (0 : Int32)
set_option maxRecDepth 20000 in
theorem rX9_waits (v : mE) (d : Nat) (l0 : Nat) (l1 : Int32) : Rz v RX9 cX9_waits 5 (some .int) false emI (d + 0) 0 [(0, vR l0), (1, vI l1)] [] (fX9_waits l0 l1) := by
  unfold fX9_waits
  refine rz_iconst 1 dX9_waits_0 rfl ci_0 ?_
  refine rz_istore_n (lv' := [(2, vI (0 : Int32)), (0, vR l0), (1, vI l1)]) 2 dX9_waits_1 rfl rfl rfl ?_
  refine rz_iconst 3 dX9_waits_2 rfl ci_0 ?_
  refine rz_istore_n (lv' := [(3, vI (0 : Int32)), (2, vI (0 : Int32)), (0, vR l0), (1, vI l1)]) 4 dX9_waits_3 rfl rfl rfl ?_
  refine rz_iconst 5 dX9_waits_4 rfl ci_0 ?_
  refine rz_istore (lv' := [(4, vI (0 : Int32)), (3, vI (0 : Int32)), (2, vI (0 : Int32)), (0, vR l0), (1, vI l1)]) 7 dX9_waits_5 rfl rfl rfl ?_
  exact rz_sub [3, 4, 2, 1, 0] rfl (rX9_waits_7 v d fu l0 l1 (0 : Int32) (0 : Int32) (0 : Int32))
theorem tX9_waits (v : mE) (d : Nat) (l0 : Nat) (l1 : Int32) : Mt v yX9_waits cX9_waits 5 (some .int) emI (d + 0) [vR l0, vI l1] (fX9_waits l0 l1) := mt_of rfl rfl (fun h => by cases h) rfl rfl (rX9_waits v d l0 l1)
theorem dX9_waiting_0 : decode cX9_waiting 0 = .ok (.aload_n 0, 1) := by decide +kernel
theorem dX9_waiting_1 : decode cX9_waiting 1 = .ok (.iconst 0, 1) := by decide +kernel
theorem dX9_waiting_2 : decode cX9_waiting 2 = .ok (.putfield 62, 3) := by decide +kernel
theorem dX9_waiting_5 : decode cX9_waiting 5 = .ok (.aload_n 0, 1) := by decide +kernel
theorem dX9_waiting_6 : decode cX9_waiting 6 = .ok (.aload_n 0, 1) := by decide +kernel
theorem dX9_waiting_7 : decode cX9_waiting 7 = .ok (.iload_n 1, 1) := by decide +kernel
theorem dX9_waiting_8 : decode cX9_waiting 8 = .ok (.iload_n 2, 1) := by decide +kernel
theorem dX9_waiting_9 : decode cX9_waiting 9 = .ok (.invokevirtual 479, 3) := by decide +kernel
theorem dX9_waiting_12 : decode cX9_waiting 12 = .ok (.putfield 65, 3) := by decide +kernel
theorem dX9_waiting_15 : decode cX9_waiting 15 = .ok (.aload_n 0, 1) := by decide +kernel
theorem dX9_waiting_16 : decode cX9_waiting 16 = .ok (.getfield 65, 3) := by decide +kernel
theorem dX9_waiting_19 : decode cX9_waiting 19 = .ok (.ifCond .le 7, 3) := by decide +kernel
theorem dX9_waiting_22 : decode cX9_waiting 22 = .ok (.iconst (-1), 1) := by decide +kernel
theorem dX9_waiting_23 : decode cX9_waiting 23 = .ok (.goto 8, 3) := by decide +kernel
theorem dX9_waiting_26 : decode cX9_waiting 26 = .ok (.aload_n 0, 1) := by decide +kernel
theorem dX9_waiting_27 : decode cX9_waiting 27 = .ok (.iload_n 2, 1) := by decide +kernel
theorem dX9_waiting_28 : decode cX9_waiting 28 = .ok (.invokevirtual 482, 3) := by decide +kernel
theorem dX9_waiting_31 : decode cX9_waiting 31 = .ok (.ireturn, 1) := by decide +kernel
def fX9_waiting (l0 : Nat) (l1 : Int32) (l2 : Int32) : mM Int32 := bPI 9 l0 1 (0 : Int32) (bCallV 9 l0 (fX9_whyNoQueue l0 l1 l2) (fun x1 => bPI 9 l0 0 x1 (bGI 9 l0 0 (fun x2 => bIf (x2 ≤ 0) (bCallV 9 l0 (fX9_waits l0 l2) (fun x3 => bRet x3)) (bRet (-1 : Int32))))))
set_option maxRecDepth 20000 in
theorem rX9_waiting (v : mE) (d : Nat) (l0 : Nat) (l1 : Int32) (l2 : Int32) : Rz v RX9 cX9_waiting 3 (some .int) false emI (d + 5) 0 [(0, vR l0), (1, vI l1), (2, vI l2)] [] (fX9_waiting l0 l1 l2) := by
  unfold fX9_waiting
  refine rz_aload_n 1 0 dX9_waiting_0 rfl rfl ?_
  refine rz_iconst 2 dX9_waiting_1 rfl ci_0 ?_
  refine rz_pI 5 dX9_waiting_2 rfl rfl rfl rfl fl_X9_62 ?_
  refine rz_aload_n 6 0 dX9_waiting_5 rfl rfl ?_
  refine rz_aload_n 7 0 dX9_waiting_6 rfl rfl ?_
  refine rz_iload_n 8 1 dX9_waiting_7 rfl rfl ?_
  refine rz_iload_n 9 2 dX9_waiting_8 rfl rfl ?_
  refine rz_callV 12 dX9_waiting_9 rfl (tX9_whyNoQueue v (d + 0) l0 l1 l2) rfl rfl rfl rfl ml_X9_479 im_X9_whyNoQueue se_X9_X9_whyNoQueue in_X9 co_X9_whyNoQueue rfl rfl (fun x1 => ?_)
  refine rz_pI 15 dX9_waiting_12 rfl rfl rfl rfl fl_X9_65 ?_
  refine rz_aload_n 16 0 dX9_waiting_15 rfl rfl ?_
  refine rz_gI 19 dX9_waiting_16 rfl rfl fl_X9_65 (fun x2 => ?_)
  refine rz_if_le 26 22 dX9_waiting_19 rfl rfl ?_ ?_
  · refine rz_aload_n 27 0 dX9_waiting_26 rfl rfl ?_
    refine rz_iload_n 28 2 dX9_waiting_27 rfl rfl ?_
    refine rz_callV 31 dX9_waiting_28 rfl (tX9_waits v (d + 4) l0 l2) rfl rfl rfl rfl ml_X9_482 im_X9_waits se_X9_X9_waits in_X9 co_X9_waits rfl rfl (fun x3 => ?_)
    exact rz_ireturn rfl rfl dX9_waiting_31
  · refine rz_iconst 23 dX9_waiting_22 rfl ci_m1 ?_
    refine rz_goto 31 dX9_waiting_23 rfl ?_
    exact rz_ireturn rfl rfl dX9_waiting_31
theorem tX9_waiting (v : mE) (d : Nat) (l0 : Nat) (l1 : Int32) (l2 : Int32) : Mt v yX9_waiting cX9_waiting 3 (some .int) emI (d + 5) [vR l0, vI l1, vI l2] (fX9_waiting l0 l1 l2) := mt_of rfl rfl (fun h => by cases h) rfl rfl (rX9_waiting v d l0 l1 l2)
theorem dX9_leastWaiting_0 : decode cX9_leastWaiting 0 = .ok (.aload_n 0, 1) := by decide +kernel
theorem dX9_leastWaiting_1 : decode cX9_leastWaiting 1 = .ok (.iconst 0, 1) := by decide +kernel
theorem dX9_leastWaiting_2 : decode cX9_leastWaiting 2 = .ok (.putfield 62, 3) := by decide +kernel
theorem dX9_leastWaiting_5 : decode cX9_leastWaiting 5 = .ok (.aload_n 0, 1) := by decide +kernel
theorem dX9_leastWaiting_6 : decode cX9_leastWaiting 6 = .ok (.aload_n 0, 1) := by decide +kernel
theorem dX9_leastWaiting_7 : decode cX9_leastWaiting 7 = .ok (.iload_n 1, 1) := by decide +kernel
theorem dX9_leastWaiting_8 : decode cX9_leastWaiting 8 = .ok (.iload_n 2, 1) := by decide +kernel
theorem dX9_leastWaiting_9 : decode cX9_leastWaiting 9 = .ok (.invokevirtual 479, 3) := by decide +kernel
theorem dX9_leastWaiting_12 : decode cX9_leastWaiting 12 = .ok (.putfield 65, 3) := by decide +kernel
theorem dX9_leastWaiting_15 : decode cX9_leastWaiting 15 = .ok (.aload_n 0, 1) := by decide +kernel
theorem dX9_leastWaiting_16 : decode cX9_leastWaiting 16 = .ok (.getfield 65, 3) := by decide +kernel
theorem dX9_leastWaiting_19 : decode cX9_leastWaiting 19 = .ok (.ifCond .le 5, 3) := by decide +kernel
theorem dX9_leastWaiting_22 : decode cX9_leastWaiting 22 = .ok (.iconst (-1), 1) := by decide +kernel
theorem dX9_leastWaiting_23 : decode cX9_leastWaiting 23 = .ok (.ireturn, 1) := by decide +kernel
theorem dX9_leastWaiting_24 : decode cX9_leastWaiting 24 = .ok (.iconst 1, 1) := by decide +kernel
theorem dX9_leastWaiting_25 : decode cX9_leastWaiting 25 = .ok (.istore_n 3, 1) := by decide +kernel
theorem dX9_leastWaiting_26 : decode cX9_leastWaiting 26 = .ok (.iload_n 3, 1) := by decide +kernel
theorem dX9_leastWaiting_27 : decode cX9_leastWaiting 27 = .ok (.iload_n 2, 1) := by decide +kernel
theorem dX9_leastWaiting_28 : decode cX9_leastWaiting 28 = .ok (.if_icmp .ge 78, 3) := by decide +kernel
theorem dX9_leastWaiting_31 : decode cX9_leastWaiting 31 = .ok (.iload_n 3, 1) := by decide +kernel
theorem dX9_leastWaiting_32 : decode cX9_leastWaiting 32 = .ok (.istore 4, 2) := by decide +kernel
theorem dX9_leastWaiting_34 : decode cX9_leastWaiting 34 = .ok (.iload 4, 2) := by decide +kernel
theorem dX9_leastWaiting_36 : decode cX9_leastWaiting 36 = .ok (.ifCond .le 64, 3) := by decide +kernel
theorem dX9_leastWaiting_39 : decode cX9_leastWaiting 39 = .ok (.aload_n 0, 1) := by decide +kernel
theorem dX9_leastWaiting_40 : decode cX9_leastWaiting 40 = .ok (.getfield 55, 3) := by decide +kernel
theorem dX9_leastWaiting_43 : decode cX9_leastWaiting 43 = .ok (.iload 4, 2) := by decide +kernel
theorem dX9_leastWaiting_45 : decode cX9_leastWaiting 45 = .ok (.iconst 1, 1) := by decide +kernel
theorem dX9_leastWaiting_46 : decode cX9_leastWaiting 46 = .ok (.isub, 1) := by decide +kernel
theorem dX9_leastWaiting_47 : decode cX9_leastWaiting 47 = .ok (.iaload, 1) := by decide +kernel
theorem dX9_leastWaiting_48 : decode cX9_leastWaiting 48 = .ok (.aload_n 0, 1) := by decide +kernel
theorem dX9_leastWaiting_49 : decode cX9_leastWaiting 49 = .ok (.getfield 55, 3) := by decide +kernel
theorem dX9_leastWaiting_52 : decode cX9_leastWaiting 52 = .ok (.iload 4, 2) := by decide +kernel
theorem dX9_leastWaiting_54 : decode cX9_leastWaiting 54 = .ok (.iaload, 1) := by decide +kernel
theorem dX9_leastWaiting_55 : decode cX9_leastWaiting 55 = .ok (.if_icmp .le 45, 3) := by decide +kernel
theorem dX9_leastWaiting_58 : decode cX9_leastWaiting 58 = .ok (.aload_n 0, 1) := by decide +kernel
theorem dX9_leastWaiting_59 : decode cX9_leastWaiting 59 = .ok (.getfield 55, 3) := by decide +kernel
theorem dX9_leastWaiting_62 : decode cX9_leastWaiting 62 = .ok (.iload 4, 2) := by decide +kernel
theorem dX9_leastWaiting_64 : decode cX9_leastWaiting 64 = .ok (.iaload, 1) := by decide +kernel
theorem dX9_leastWaiting_65 : decode cX9_leastWaiting 65 = .ok (.istore 5, 2) := by decide +kernel
theorem dX9_leastWaiting_67 : decode cX9_leastWaiting 67 = .ok (.aload_n 0, 1) := by decide +kernel
theorem dX9_leastWaiting_68 : decode cX9_leastWaiting 68 = .ok (.getfield 55, 3) := by decide +kernel
theorem dX9_leastWaiting_71 : decode cX9_leastWaiting 71 = .ok (.iload 4, 2) := by decide +kernel
theorem dX9_leastWaiting_73 : decode cX9_leastWaiting 73 = .ok (.aload_n 0, 1) := by decide +kernel
theorem dX9_leastWaiting_74 : decode cX9_leastWaiting 74 = .ok (.getfield 55, 3) := by decide +kernel
theorem dX9_leastWaiting_77 : decode cX9_leastWaiting 77 = .ok (.iload 4, 2) := by decide +kernel
theorem dX9_leastWaiting_79 : decode cX9_leastWaiting 79 = .ok (.iconst 1, 1) := by decide +kernel
theorem dX9_leastWaiting_80 : decode cX9_leastWaiting 80 = .ok (.isub, 1) := by decide +kernel
theorem dX9_leastWaiting_81 : decode cX9_leastWaiting 81 = .ok (.iaload, 1) := by decide +kernel
theorem dX9_leastWaiting_82 : decode cX9_leastWaiting 82 = .ok (.iastore, 1) := by decide +kernel
theorem dX9_leastWaiting_83 : decode cX9_leastWaiting 83 = .ok (.aload_n 0, 1) := by decide +kernel
theorem dX9_leastWaiting_84 : decode cX9_leastWaiting 84 = .ok (.getfield 55, 3) := by decide +kernel
theorem dX9_leastWaiting_87 : decode cX9_leastWaiting 87 = .ok (.iload 4, 2) := by decide +kernel
theorem dX9_leastWaiting_89 : decode cX9_leastWaiting 89 = .ok (.iconst 1, 1) := by decide +kernel
theorem dX9_leastWaiting_90 : decode cX9_leastWaiting 90 = .ok (.isub, 1) := by decide +kernel
theorem dX9_leastWaiting_91 : decode cX9_leastWaiting 91 = .ok (.iload 5, 2) := by decide +kernel
theorem dX9_leastWaiting_93 : decode cX9_leastWaiting 93 = .ok (.iastore, 1) := by decide +kernel
theorem dX9_leastWaiting_94 : decode cX9_leastWaiting 94 = .ok (.iinc 4 (-1), 3) := by decide +kernel
theorem dX9_leastWaiting_97 : decode cX9_leastWaiting 97 = .ok (.goto (-63), 3) := by decide +kernel
theorem dX9_leastWaiting_100 : decode cX9_leastWaiting 100 = .ok (.iinc 3 1, 3) := by decide +kernel
theorem dX9_leastWaiting_103 : decode cX9_leastWaiting 103 = .ok (.goto (-77), 3) := by decide +kernel
theorem dX9_leastWaiting_106 : decode cX9_leastWaiting 106 = .ok (.aload_n 0, 1) := by decide +kernel
theorem dX9_leastWaiting_107 : decode cX9_leastWaiting 107 = .ok (.iload_n 2, 1) := by decide +kernel
theorem dX9_leastWaiting_108 : decode cX9_leastWaiting 108 = .ok (.invokevirtual 482, 3) := by decide +kernel
theorem dX9_leastWaiting_111 : decode cX9_leastWaiting 111 = .ok (.ireturn, 1) := by decide +kernel
def fX9_leastWaiting_106 (l0 : Nat) (l2 : Int32) : mM Int32 := bCallV 9 l0 (fX9_waits l0 l2) (fun x1 => bRet x1)
set_option maxRecDepth 20000 in
theorem rX9_leastWaiting_106 (v : mE) (d : Nat) (l0 : Nat) (l2 : Int32) : Rz v RX9 cX9_leastWaiting 6 (some .int) false emI (d + 5) 106 [(0, vR l0), (2, vI l2)] [] (fX9_leastWaiting_106 l0 l2) := by
  unfold fX9_leastWaiting_106
  refine rz_aload_n 107 0 dX9_leastWaiting_106 rfl rfl ?_
  refine rz_iload_n 108 1 dX9_leastWaiting_107 rfl rfl ?_
  refine rz_callV 111 dX9_leastWaiting_108 rfl (tX9_waits v (d + 4) l0 l2) rfl rfl rfl rfl ml_X9_482 im_X9_waits se_X9_X9_waits in_X9 co_X9_waits rfl rfl (fun x1 => ?_)
  exact rz_ireturn rfl rfl dX9_leastWaiting_111
def fX9_leastWaiting_100 (r26 : Nat → Int32 → Int32 → mM Int32) (l0 : Nat) (l2 : Int32) (l3 : Int32) : mM Int32 := r26 l0 l2 (l3 + 1)
set_option maxRecDepth 20000 in
theorem rX9_leastWaiting_100 (v : mE) (d : Nat) (r26 : Nat → Int32 → Int32 → mM Int32) (h26 : ∀ (y0 : Nat) (y2 : Int32) (y3 : Int32), Rz v RX9 cX9_leastWaiting 6 (some .int) false emI (d + 5) 26 [(0, vR y0), (2, vI y2), (3, vI y3)] [] (r26 y0 y2 y3)) (l0 : Nat) (l2 : Int32) (l3 : Int32) : Rz v RX9 cX9_leastWaiting 6 (some .int) false emI (d + 5) 100 [(0, vR l0), (2, vI l2), (3, vI l3)] [] (fX9_leastWaiting_100 r26 l0 l2 l3) := by
  unfold fX9_leastWaiting_100
  refine rz_iinc (lv' := [(3, vI (l3 + 1)), (0, vR l0), (2, vI l2)]) 103 2 dX9_leastWaiting_100 rfl rfl (cn_1 _) rfl rfl ?_
  refine rz_goto 26 dX9_leastWaiting_103 rfl ?_
  exact rz_sub [1, 2, 0] rfl (h26 l0 l2 (l3 + 1))
def fX9_leastWaiting_34 (r26 : Nat → Int32 → Int32 → mM Int32) : Nat → Nat → Int32 → Int32 → Int32 → mM Int32
  | 0 => fun _ _ _ _ => fun _ => none
  | n + 1 => fun l0 l2 l3 l4 => let r34 := fX9_leastWaiting_34 r26 n; bIf (l4 ≤ 0) (fX9_leastWaiting_100 r26 l0 l2 l3) (bGR 9 l0 32 (fun x1 => bAI 11 x1 (l4 - (1 : Int32)) (fun x2 => bGR 9 l0 32 (fun x3 => bAI 11 x3 l4 (fun x4 => bIf (x2 ≤ x4) (fX9_leastWaiting_100 r26 l0 l2 l3) (bGR 9 l0 32 (fun x5 => bAI 11 x5 l4 (fun x6 => bGR 9 l0 32 (fun x7 => bGR 9 l0 32 (fun x8 => bAI 11 x8 (l4 - (1 : Int32)) (fun x9 => bSI x7 l4 x9 (bGR 9 l0 32 (fun x10 => bSI x10 (l4 - (1 : Int32)) x6 (r34 l0 l2 l3 (l4 + (-1))))))))))))))))
theorem qX9_leastWaiting_34 (r26 : Nat → Int32 → Int32 → mM Int32) (n : Nat) (l0 : Nat) (l2 : Int32) (l3 : Int32) (l4 : Int32) : fX9_leastWaiting_34 r26 (n + 1) l0 l2 l3 l4 = bIf (l4 ≤ 0) (fX9_leastWaiting_100 r26 l0 l2 l3) (bGR 9 l0 32 (fun x1 => bAI 11 x1 (l4 - (1 : Int32)) (fun x2 => bGR 9 l0 32 (fun x3 => bAI 11 x3 l4 (fun x4 => bIf (x2 ≤ x4) (fX9_leastWaiting_100 r26 l0 l2 l3) (bGR 9 l0 32 (fun x5 => bAI 11 x5 l4 (fun x6 => bGR 9 l0 32 (fun x7 => bGR 9 l0 32 (fun x8 => bAI 11 x8 (l4 - (1 : Int32)) (fun x9 => bSI x7 l4 x9 (bGR 9 l0 32 (fun x10 => bSI x10 (l4 - (1 : Int32)) x6 ((fX9_leastWaiting_34 r26 n) l0 l2 l3 (l4 + (-1)))))))))))))))) := rfl
set_option maxRecDepth 20000 in
theorem rX9_leastWaiting_34 (v : mE) (d : Nat) (r26 : Nat → Int32 → Int32 → mM Int32) (h26 : ∀ (y0 : Nat) (y2 : Int32) (y3 : Int32), Rz v RX9 cX9_leastWaiting 6 (some .int) false emI (d + 5) 26 [(0, vR y0), (2, vI y2), (3, vI y3)] [] (r26 y0 y2 y3)) : ∀ (n : Nat) (l0 : Nat) (l2 : Int32) (l3 : Int32) (l4 : Int32), Rz v RX9 cX9_leastWaiting 6 (some .int) false emI (d + 5) 34 [(0, vR l0), (2, vI l2), (3, vI l3), (4, vI l4)] [] (fX9_leastWaiting_34 r26 n l0 l2 l3 l4)
  | 0, _, _, _, _ => fun _ _ _ hm => by cases hm
  | n + 1, l0, l2, l3, l4 => by
    have h34 := rX9_leastWaiting_34 v d r26 h26 n
    unfold fX9_leastWaiting_34
    generalize fX9_leastWaiting_34 r26 n = r34 at h34 ⊢
    refine rz_iload 36 3 dX9_leastWaiting_34 rfl rfl ?_
    refine rz_if_le 100 39 dX9_leastWaiting_36 rfl rfl ?_ ?_
    · exact rz_sub [0, 1, 2] rfl (rX9_leastWaiting_100 v d r26 h26 l0 l2 l3)
    · refine rz_aload_n 40 0 dX9_leastWaiting_39 rfl rfl ?_
      refine rz_gR 43 dX9_leastWaiting_40 rfl rfl fl_X9_55 (fun x1 => ?_)
      refine rz_iload 45 3 dX9_leastWaiting_43 rfl rfl ?_
      refine rz_iconst 46 dX9_leastWaiting_45 rfl ci_1 ?_
      refine rz_isub 47 dX9_leastWaiting_46 rfl ?_
      refine rz_iald 48 dX9_leastWaiting_47 rfl (fun x2 => ?_)
      refine rz_aload_n 49 0 dX9_leastWaiting_48 rfl rfl ?_
      refine rz_gR 52 dX9_leastWaiting_49 rfl rfl fl_X9_55 (fun x3 => ?_)
      refine rz_iload 54 3 dX9_leastWaiting_52 rfl rfl ?_
      refine rz_iald 55 dX9_leastWaiting_54 rfl (fun x4 => ?_)
      refine rz_icmp_le 100 58 dX9_leastWaiting_55 rfl rfl ?_ ?_
      · exact rz_sub [0, 1, 2] rfl (rX9_leastWaiting_100 v d r26 h26 l0 l2 l3)
      · refine rz_aload_n 59 0 dX9_leastWaiting_58 rfl rfl ?_
        refine rz_gR 62 dX9_leastWaiting_59 rfl rfl fl_X9_55 (fun x5 => ?_)
        refine rz_iload 64 3 dX9_leastWaiting_62 rfl rfl ?_
        refine rz_iald 65 dX9_leastWaiting_64 rfl (fun x6 => ?_)
        refine rz_istore (lv' := [(5, vI x6), (0, vR l0), (2, vI l2), (3, vI l3), (4, vI l4)]) 67 dX9_leastWaiting_65 rfl rfl rfl ?_
        refine rz_aload_n 68 1 dX9_leastWaiting_67 rfl rfl ?_
        refine rz_gR 71 dX9_leastWaiting_68 rfl rfl fl_X9_55 (fun x7 => ?_)
        refine rz_iload 73 4 dX9_leastWaiting_71 rfl rfl ?_
        refine rz_aload_n 74 1 dX9_leastWaiting_73 rfl rfl ?_
        refine rz_gR 77 dX9_leastWaiting_74 rfl rfl fl_X9_55 (fun x8 => ?_)
        refine rz_iload 79 4 dX9_leastWaiting_77 rfl rfl ?_
        refine rz_iconst 80 dX9_leastWaiting_79 rfl ci_1 ?_
        refine rz_isub 81 dX9_leastWaiting_80 rfl ?_
        refine rz_iald 82 dX9_leastWaiting_81 rfl (fun x9 => ?_)
        refine rz_iast 83 dX9_leastWaiting_82 rfl ?_
        refine rz_aload_n 84 1 dX9_leastWaiting_83 rfl rfl ?_
        refine rz_gR 87 dX9_leastWaiting_84 rfl rfl fl_X9_55 (fun x10 => ?_)
        refine rz_iload 89 4 dX9_leastWaiting_87 rfl rfl ?_
        refine rz_iconst 90 dX9_leastWaiting_89 rfl ci_1 ?_
        refine rz_isub 91 dX9_leastWaiting_90 rfl ?_
        refine rz_iload 93 0 dX9_leastWaiting_91 rfl rfl ?_
        refine rz_iast 94 dX9_leastWaiting_93 rfl ?_
        refine rz_iinc (lv' := [(4, vI (l4 + (-1))), (5, vI x6), (0, vR l0), (2, vI l2), (3, vI l3)]) 97 4 dX9_leastWaiting_94 rfl rfl (cn_m1 _) rfl rfl ?_
        refine rz_goto 34 dX9_leastWaiting_97 rfl ?_
        exact rz_sub [2, 3, 4, 0] rfl (h34 l0 l2 l3 (l4 + (-1)))
def fX9_leastWaiting_26 : Nat → Nat → Int32 → Int32 → mM Int32
  | 0 => fun _ _ _ => fun _ => none
  | n + 1 => fun l0 l2 l3 => let r26 := fX9_leastWaiting_26 n; bIf (l2 ≤ l3) (fX9_leastWaiting_106 l0 l2) (fX9_leastWaiting_34 r26 fu l0 l2 l3 l3)
theorem qX9_leastWaiting_26  (n : Nat) (l0 : Nat) (l2 : Int32) (l3 : Int32) : fX9_leastWaiting_26 (n + 1) l0 l2 l3 = bIf (l2 ≤ l3) (fX9_leastWaiting_106 l0 l2) (fX9_leastWaiting_34 (fX9_leastWaiting_26 n) fu l0 l2 l3 l3) := rfl
set_option maxRecDepth 20000 in
theorem rX9_leastWaiting_26 (v : mE) (d : Nat) : ∀ (n : Nat) (l0 : Nat) (l2 : Int32) (l3 : Int32), Rz v RX9 cX9_leastWaiting 6 (some .int) false emI (d + 5) 26 [(0, vR l0), (2, vI l2), (3, vI l3)] [] (fX9_leastWaiting_26 n l0 l2 l3)
  | 0, _, _, _ => fun _ _ _ hm => by cases hm
  | n + 1, l0, l2, l3 => by
    have h26 := rX9_leastWaiting_26 v d n
    unfold fX9_leastWaiting_26
    generalize fX9_leastWaiting_26 n = r26 at h26 ⊢
    refine rz_iload_n 27 2 dX9_leastWaiting_26 rfl rfl ?_
    refine rz_iload_n 28 1 dX9_leastWaiting_27 rfl rfl ?_
    refine rz_icmp_ge 106 31 dX9_leastWaiting_28 rfl rfl ?_ ?_
    · exact rz_sub [0, 1] rfl (rX9_leastWaiting_106 v d l0 l2)
    · refine rz_iload_n 32 2 dX9_leastWaiting_31 rfl rfl ?_
      refine rz_istore (lv' := [(4, vI l3), (0, vR l0), (2, vI l2), (3, vI l3)]) 34 dX9_leastWaiting_32 rfl rfl rfl ?_
      exact rz_sub [1, 2, 3, 0] rfl (rX9_leastWaiting_34 v d r26 h26 fu l0 l2 l3 l3)
def fX9_leastWaiting (l0 : Nat) (l1 : Int32) (l2 : Int32) : mM Int32 := bPI 9 l0 1 (0 : Int32) (bCallV 9 l0 (fX9_whyNoQueue l0 l1 l2) (fun x1 => bPI 9 l0 0 x1 (bGI 9 l0 0 (fun x2 => bIf (x2 ≤ 0) (fX9_leastWaiting_26 fu l0 l2 (1 : Int32)) (bRet (-1 : Int32))))))
set_option maxRecDepth 20000 in
theorem rX9_leastWaiting (v : mE) (d : Nat) (l0 : Nat) (l1 : Int32) (l2 : Int32) : Rz v RX9 cX9_leastWaiting 6 (some .int) false emI (d + 5) 0 [(0, vR l0), (1, vI l1), (2, vI l2)] [] (fX9_leastWaiting l0 l1 l2) := by
  unfold fX9_leastWaiting
  refine rz_aload_n 1 0 dX9_leastWaiting_0 rfl rfl ?_
  refine rz_iconst 2 dX9_leastWaiting_1 rfl ci_0 ?_
  refine rz_pI 5 dX9_leastWaiting_2 rfl rfl rfl rfl fl_X9_62 ?_
  refine rz_aload_n 6 0 dX9_leastWaiting_5 rfl rfl ?_
  refine rz_aload_n 7 0 dX9_leastWaiting_6 rfl rfl ?_
  refine rz_iload_n 8 1 dX9_leastWaiting_7 rfl rfl ?_
  refine rz_iload_n 9 2 dX9_leastWaiting_8 rfl rfl ?_
  refine rz_callV 12 dX9_leastWaiting_9 rfl (tX9_whyNoQueue v (d + 0) l0 l1 l2) rfl rfl rfl rfl ml_X9_479 im_X9_whyNoQueue se_X9_X9_whyNoQueue in_X9 co_X9_whyNoQueue rfl rfl (fun x1 => ?_)
  refine rz_pI 15 dX9_leastWaiting_12 rfl rfl rfl rfl fl_X9_65 ?_
  refine rz_aload_n 16 0 dX9_leastWaiting_15 rfl rfl ?_
  refine rz_gI 19 dX9_leastWaiting_16 rfl rfl fl_X9_65 (fun x2 => ?_)
  refine rz_if_le 24 22 dX9_leastWaiting_19 rfl rfl ?_ ?_
  · refine rz_iconst 25 dX9_leastWaiting_24 rfl ci_1 ?_
    refine rz_istore_n (lv' := [(3, vI (1 : Int32)), (0, vR l0), (1, vI l1), (2, vI l2)]) 26 dX9_leastWaiting_25 rfl rfl rfl ?_
    exact rz_sub [1, 3, 0] rfl (rX9_leastWaiting_26 v d fu l0 l2 (1 : Int32))
  · refine rz_iconst 23 dX9_leastWaiting_22 rfl ci_m1 ?_
    exact rz_ireturn rfl rfl dX9_leastWaiting_23
theorem tX9_leastWaiting (v : mE) (d : Nat) (l0 : Nat) (l1 : Int32) (l2 : Int32) : Mt v yX9_leastWaiting cX9_leastWaiting 6 (some .int) emI (d + 5) [vR l0, vI l1, vI l2] (fX9_leastWaiting l0 l1 l2) := mt_of rfl rfl (fun h => by cases h) rfl rfl (rX9_leastWaiting v d l0 l1 l2)
theorem dX9_copy_0 : decode cX9_copy 0 = .ok (.iconst 0, 1) := by decide +kernel
theorem dX9_copy_1 : decode cX9_copy 1 = .ok (.istore_n 3, 1) := by decide +kernel
theorem dX9_copy_2 : decode cX9_copy 2 = .ok (.iload_n 3, 1) := by decide +kernel
theorem dX9_copy_3 : decode cX9_copy 3 = .ok (.sipush 860, 3) := by decide +kernel
theorem dX9_copy_6 : decode cX9_copy 6 = .ok (.if_icmp .ge 33, 3) := by decide +kernel
theorem dX9_copy_9 : decode cX9_copy 9 = .ok (.aload_n 0, 1) := by decide +kernel
theorem dX9_copy_10 : decode cX9_copy 10 = .ok (.getfield 35, 3) := by decide +kernel
theorem dX9_copy_13 : decode cX9_copy 13 = .ok (.sipush 860, 3) := by decide +kernel
theorem dX9_copy_16 : decode cX9_copy 16 = .ok (.iload_n 2, 1) := by decide +kernel
theorem dX9_copy_17 : decode cX9_copy 17 = .ok (.imul, 1) := by decide +kernel
theorem dX9_copy_18 : decode cX9_copy 18 = .ok (.iload_n 3, 1) := by decide +kernel
theorem dX9_copy_19 : decode cX9_copy 19 = .ok (.iadd, 1) := by decide +kernel
theorem dX9_copy_20 : decode cX9_copy 20 = .ok (.aload_n 0, 1) := by decide +kernel
theorem dX9_copy_21 : decode cX9_copy 21 = .ok (.getfield 35, 3) := by decide +kernel
theorem dX9_copy_24 : decode cX9_copy 24 = .ok (.sipush 860, 3) := by decide +kernel
theorem dX9_copy_27 : decode cX9_copy 27 = .ok (.iload_n 1, 1) := by decide +kernel
theorem dX9_copy_28 : decode cX9_copy 28 = .ok (.imul, 1) := by decide +kernel
theorem dX9_copy_29 : decode cX9_copy 29 = .ok (.iload_n 3, 1) := by decide +kernel
theorem dX9_copy_30 : decode cX9_copy 30 = .ok (.iadd, 1) := by decide +kernel
theorem dX9_copy_31 : decode cX9_copy 31 = .ok (.iaload, 1) := by decide +kernel
theorem dX9_copy_32 : decode cX9_copy 32 = .ok (.iastore, 1) := by decide +kernel
theorem dX9_copy_33 : decode cX9_copy 33 = .ok (.iinc 3 1, 3) := by decide +kernel
theorem dX9_copy_36 : decode cX9_copy 36 = .ok (.goto (-34), 3) := by decide +kernel
theorem dX9_copy_39 : decode cX9_copy 39 = .ok (.return_, 1) := by decide +kernel
def fX9_copy_2 : Nat → Nat → Int32 → Int32 → Int32 → mM Unit
  | 0 => fun _ _ _ _ => fun _ => none
  | n + 1 => fun l0 l1 l2 l3 => let r2 := fX9_copy_2 n; bIf ((860 : Int32) ≤ l3) (bRet ()) (bGR 9 l0 24 (fun x1 => bGR 9 l0 24 (fun x2 => bAI 11 x2 (((860 : Int32) * l1) + l3) (fun x3 => bSI x1 (((860 : Int32) * l2) + l3) x3 (r2 l0 l1 l2 (l3 + 1))))))
theorem qX9_copy_2  (n : Nat) (l0 : Nat) (l1 : Int32) (l2 : Int32) (l3 : Int32) : fX9_copy_2 (n + 1) l0 l1 l2 l3 = bIf ((860 : Int32) ≤ l3) (bRet ()) (bGR 9 l0 24 (fun x1 => bGR 9 l0 24 (fun x2 => bAI 11 x2 (((860 : Int32) * l1) + l3) (fun x3 => bSI x1 (((860 : Int32) * l2) + l3) x3 ((fX9_copy_2 n) l0 l1 l2 (l3 + 1)))))) := rfl
set_option maxRecDepth 20000 in
theorem rX9_copy_2 (v : mE) (d : Nat) : ∀ (n : Nat) (l0 : Nat) (l1 : Int32) (l2 : Int32) (l3 : Int32), Rz v RX9 cX9_copy 4 none false emU (d + 0) 2 [(0, vR l0), (1, vI l1), (2, vI l2), (3, vI l3)] [] (fX9_copy_2 n l0 l1 l2 l3)
  | 0, _, _, _, _ => fun _ _ _ hm => by cases hm
  | n + 1, l0, l1, l2, l3 => by
    have h2 := rX9_copy_2 v d n
    unfold fX9_copy_2
    generalize fX9_copy_2 n = r2 at h2 ⊢
    refine rz_iload_n 3 3 dX9_copy_2 rfl rfl ?_
    refine rz_sipush 6 dX9_copy_3 rfl cs_860 ?_
    refine rz_icmp_ge 39 9 dX9_copy_6 rfl rfl ?_ ?_
    · exact rz_return rfl rfl dX9_copy_39
    · refine rz_aload_n 10 0 dX9_copy_9 rfl rfl ?_
      refine rz_gR 13 dX9_copy_10 rfl rfl fl_X9_35 (fun x1 => ?_)
      refine rz_sipush 16 dX9_copy_13 rfl cs_860 ?_
      refine rz_iload_n 17 2 dX9_copy_16 rfl rfl ?_
      refine rz_imul 18 dX9_copy_17 rfl ?_
      refine rz_iload_n 19 3 dX9_copy_18 rfl rfl ?_
      refine rz_iadd 20 dX9_copy_19 rfl ?_
      refine rz_aload_n 21 0 dX9_copy_20 rfl rfl ?_
      refine rz_gR 24 dX9_copy_21 rfl rfl fl_X9_35 (fun x2 => ?_)
      refine rz_sipush 27 dX9_copy_24 rfl cs_860 ?_
      refine rz_iload_n 28 1 dX9_copy_27 rfl rfl ?_
      refine rz_imul 29 dX9_copy_28 rfl ?_
      refine rz_iload_n 30 3 dX9_copy_29 rfl rfl ?_
      refine rz_iadd 31 dX9_copy_30 rfl ?_
      refine rz_iald 32 dX9_copy_31 rfl (fun x3 => ?_)
      refine rz_iast 33 dX9_copy_32 rfl ?_
      refine rz_iinc (lv' := [(3, vI (l3 + 1)), (0, vR l0), (1, vI l1), (2, vI l2)]) 36 3 dX9_copy_33 rfl rfl (cn_1 _) rfl rfl ?_
      refine rz_goto 2 dX9_copy_36 rfl ?_
      exact rz_sub [1, 2, 3, 0] rfl (h2 l0 l1 l2 (l3 + 1))
def fX9_copy (l0 : Nat) (l1 : Int32) (l2 : Int32) : mM Unit := fX9_copy_2 fu l0 l1 l2 (0 : Int32)
set_option maxRecDepth 20000 in
theorem rX9_copy (v : mE) (d : Nat) (l0 : Nat) (l1 : Int32) (l2 : Int32) : Rz v RX9 cX9_copy 4 none false emU (d + 0) 0 [(0, vR l0), (1, vI l1), (2, vI l2)] [] (fX9_copy l0 l1 l2) := by
  unfold fX9_copy
  refine rz_iconst 1 dX9_copy_0 rfl ci_0 ?_
  refine rz_istore_n (lv' := [(3, vI (0 : Int32)), (0, vR l0), (1, vI l1), (2, vI l2)]) 2 dX9_copy_1 rfl rfl rfl ?_
  exact rz_sub [1, 2, 3, 0] rfl (rX9_copy_2 v d fu l0 l1 l2 (0 : Int32))
theorem tX9_copy (v : mE) (d : Nat) (l0 : Nat) (l1 : Int32) (l2 : Int32) : Mt v yX9_copy cX9_copy 4 none emU (d + 0) [vR l0, vI l1, vI l2] (fX9_copy l0 l1 l2) := mt_of rfl rfl (fun h => by cases h) rfl rfl (rX9_copy v d l0 l1 l2)
theorem dX9_mark_0 : decode cX9_mark 0 = .ok (.aload_n 0, 1) := by decide +kernel
theorem dX9_mark_1 : decode cX9_mark 1 = .ok (.iconst 0, 1) := by decide +kernel
theorem dX9_mark_2 : decode cX9_mark 2 = .ok (.putfield 62, 3) := by decide +kernel
theorem dX9_mark_5 : decode cX9_mark 5 = .ok (.aload_n 0, 1) := by decide +kernel
theorem dX9_mark_6 : decode cX9_mark 6 = .ok (.iconst 0, 1) := by decide +kernel
theorem dX9_mark_7 : decode cX9_mark 7 = .ok (.putfield 65, 3) := by decide +kernel
theorem dX9_mark_10 : decode cX9_mark 10 = .ok (.aload_n 0, 1) := by decide +kernel
theorem dX9_mark_11 : decode cX9_mark 11 = .ok (.getfield 485, 3) := by decide +kernel
theorem dX9_mark_14 : decode cX9_mark 14 = .ok (.iconst 3, 1) := by decide +kernel
theorem dX9_mark_15 : decode cX9_mark 15 = .ok (.if_icmp .ne 10, 3) := by decide +kernel
theorem dX9_mark_18 : decode cX9_mark 18 = .ok (.aload_n 0, 1) := by decide +kernel
theorem dX9_mark_19 : decode cX9_mark 19 = .ok (.bipush 7, 2) := by decide +kernel
theorem dX9_mark_21 : decode cX9_mark 21 = .ok (.invokevirtual 357, 3) := by decide +kernel
theorem dX9_mark_24 : decode cX9_mark 24 = .ok (.ireturn, 1) := by decide +kernel
theorem dX9_mark_25 : decode cX9_mark 25 = .ok (.aload_n 0, 1) := by decide +kernel
theorem dX9_mark_26 : decode cX9_mark 26 = .ok (.dup, 1) := by decide +kernel
theorem dX9_mark_27 : decode cX9_mark 27 = .ok (.getfield 485, 3) := by decide +kernel
theorem dX9_mark_30 : decode cX9_mark 30 = .ok (.iconst 1, 1) := by decide +kernel
theorem dX9_mark_31 : decode cX9_mark 31 = .ok (.iadd, 1) := by decide +kernel
theorem dX9_mark_32 : decode cX9_mark 32 = .ok (.putfield 485, 3) := by decide +kernel
theorem dX9_mark_35 : decode cX9_mark 35 = .ok (.aload_n 0, 1) := by decide +kernel
theorem dX9_mark_36 : decode cX9_mark 36 = .ok (.iconst 0, 1) := by decide +kernel
theorem dX9_mark_37 : decode cX9_mark 37 = .ok (.aload_n 0, 1) := by decide +kernel
theorem dX9_mark_38 : decode cX9_mark 38 = .ok (.getfield 485, 3) := by decide +kernel
theorem dX9_mark_41 : decode cX9_mark 41 = .ok (.invokevirtual 488, 3) := by decide +kernel
theorem dX9_mark_44 : decode cX9_mark 44 = .ok (.aload_n 0, 1) := by decide +kernel
theorem dX9_mark_45 : decode cX9_mark 45 = .ok (.getfield 485, 3) := by decide +kernel
theorem dX9_mark_48 : decode cX9_mark 48 = .ok (.ireturn, 1) := by decide +kernel
def fX9_mark (l0 : Nat) : mM Int32 := bPI 9 l0 1 (0 : Int32) (bPI 9 l0 0 (0 : Int32) (bGI 9 l0 28 (fun x1 => bIf (x1 = (3 : Int32)) (bCallV 9 l0 (fX9_refuse l0 (7 : Int32)) (fun x5 => bRet x5)) (bGI 9 l0 28 (fun x2 => bPI 9 l0 28 (x2 + (1 : Int32)) (bGI 9 l0 28 (fun x3 => bCallV 9 l0 (fX9_copy l0 (0 : Int32) x3) (fun _ => bGI 9 l0 28 (fun x4 => bRet x4)))))))))
set_option maxRecDepth 20000 in
theorem rX9_mark (v : mE) (d : Nat) (l0 : Nat) : Rz v RX9 cX9_mark 1 (some .int) false emI (d + 1) 0 [(0, vR l0)] [] (fX9_mark l0) := by
  unfold fX9_mark
  refine rz_aload_n 1 0 dX9_mark_0 rfl rfl ?_
  refine rz_iconst 2 dX9_mark_1 rfl ci_0 ?_
  refine rz_pI 5 dX9_mark_2 rfl rfl rfl rfl fl_X9_62 ?_
  refine rz_aload_n 6 0 dX9_mark_5 rfl rfl ?_
  refine rz_iconst 7 dX9_mark_6 rfl ci_0 ?_
  refine rz_pI 10 dX9_mark_7 rfl rfl rfl rfl fl_X9_65 ?_
  refine rz_aload_n 11 0 dX9_mark_10 rfl rfl ?_
  refine rz_gI 14 dX9_mark_11 rfl rfl fl_X9_485 (fun x1 => ?_)
  refine rz_iconst 15 dX9_mark_14 rfl ci_3 ?_
  refine rz_icmp_ne 25 18 dX9_mark_15 rfl rfl ?_ ?_
  · refine rz_aload_n 26 0 dX9_mark_25 rfl rfl ?_
    refine rz_dup 27 dX9_mark_26 rfl rfl ?_
    refine rz_gI 30 dX9_mark_27 rfl rfl fl_X9_485 (fun x2 => ?_)
    refine rz_iconst 31 dX9_mark_30 rfl ci_1 ?_
    refine rz_iadd 32 dX9_mark_31 rfl ?_
    refine rz_pI 35 dX9_mark_32 rfl rfl rfl rfl fl_X9_485 ?_
    refine rz_aload_n 36 0 dX9_mark_35 rfl rfl ?_
    refine rz_iconst 37 dX9_mark_36 rfl ci_0 ?_
    refine rz_aload_n 38 0 dX9_mark_37 rfl rfl ?_
    refine rz_gI 41 dX9_mark_38 rfl rfl fl_X9_485 (fun x3 => ?_)
    refine rz_callV 44 dX9_mark_41 rfl (tX9_copy v (d + 0) l0 (0 : Int32) x3) rfl rfl rfl rfl ml_X9_488 im_X9_copy se_X9_X9_copy in_X9 co_X9_copy rfl rfl (fun _ => ?_)
    refine rz_aload_n 45 0 dX9_mark_44 rfl rfl ?_
    refine rz_gI 48 dX9_mark_45 rfl rfl fl_X9_485 (fun x4 => ?_)
    exact rz_ireturn rfl rfl dX9_mark_48
  · refine rz_aload_n 19 0 dX9_mark_18 rfl rfl ?_
    refine rz_bipush 21 dX9_mark_19 rfl cb_7 ?_
    refine rz_callV 24 dX9_mark_21 rfl (tX9_refuse v (d + 0) l0 (7 : Int32)) rfl rfl rfl rfl ml_X9_357 im_X9_refuse se_X9_X9_refuse in_X9 co_X9_refuse rfl rfl (fun x5 => ?_)
    exact rz_ireturn rfl rfl dX9_mark_24
theorem tX9_mark (v : mE) (d : Nat) (l0 : Nat) : Mt v yX9_mark cX9_mark 1 (some .int) emI (d + 1) [vR l0] (fX9_mark l0) := mt_of rfl rfl (fun h => by cases h) rfl rfl (rX9_mark v d l0)
theorem dX9_back_0 : decode cX9_back 0 = .ok (.aload_n 0, 1) := by decide +kernel
theorem dX9_back_1 : decode cX9_back 1 = .ok (.iconst 0, 1) := by decide +kernel
theorem dX9_back_2 : decode cX9_back 2 = .ok (.putfield 62, 3) := by decide +kernel
theorem dX9_back_5 : decode cX9_back 5 = .ok (.aload_n 0, 1) := by decide +kernel
theorem dX9_back_6 : decode cX9_back 6 = .ok (.iconst 0, 1) := by decide +kernel
theorem dX9_back_7 : decode cX9_back 7 = .ok (.putfield 65, 3) := by decide +kernel
theorem dX9_back_10 : decode cX9_back 10 = .ok (.aload_n 0, 1) := by decide +kernel
theorem dX9_back_11 : decode cX9_back 11 = .ok (.getfield 485, 3) := by decide +kernel
theorem dX9_back_14 : decode cX9_back 14 = .ok (.ifCond .ne 10, 3) := by decide +kernel
theorem dX9_back_17 : decode cX9_back 17 = .ok (.aload_n 0, 1) := by decide +kernel
theorem dX9_back_18 : decode cX9_back 18 = .ok (.bipush 8, 2) := by decide +kernel
theorem dX9_back_20 : decode cX9_back 20 = .ok (.invokevirtual 357, 3) := by decide +kernel
theorem dX9_back_23 : decode cX9_back 23 = .ok (.ireturn, 1) := by decide +kernel
theorem dX9_back_24 : decode cX9_back 24 = .ok (.aload_n 0, 1) := by decide +kernel
theorem dX9_back_25 : decode cX9_back 25 = .ok (.aload_n 0, 1) := by decide +kernel
theorem dX9_back_26 : decode cX9_back 26 = .ok (.getfield 485, 3) := by decide +kernel
theorem dX9_back_29 : decode cX9_back 29 = .ok (.iconst 0, 1) := by decide +kernel
theorem dX9_back_30 : decode cX9_back 30 = .ok (.invokevirtual 488, 3) := by decide +kernel
theorem dX9_back_33 : decode cX9_back 33 = .ok (.aload_n 0, 1) := by decide +kernel
theorem dX9_back_34 : decode cX9_back 34 = .ok (.dup, 1) := by decide +kernel
theorem dX9_back_35 : decode cX9_back 35 = .ok (.getfield 485, 3) := by decide +kernel
theorem dX9_back_38 : decode cX9_back 38 = .ok (.iconst 1, 1) := by decide +kernel
theorem dX9_back_39 : decode cX9_back 39 = .ok (.isub, 1) := by decide +kernel
theorem dX9_back_40 : decode cX9_back 40 = .ok (.putfield 485, 3) := by decide +kernel
theorem dX9_back_43 : decode cX9_back 43 = .ok (.aload_n 0, 1) := by decide +kernel
theorem dX9_back_44 : decode cX9_back 44 = .ok (.getfield 485, 3) := by decide +kernel
theorem dX9_back_47 : decode cX9_back 47 = .ok (.ireturn, 1) := by decide +kernel
def fX9_back (l0 : Nat) : mM Int32 := bPI 9 l0 1 (0 : Int32) (bPI 9 l0 0 (0 : Int32) (bGI 9 l0 28 (fun x1 => bIf (x1 = 0) (bCallV 9 l0 (fX9_refuse l0 (8 : Int32)) (fun x5 => bRet x5)) (bGI 9 l0 28 (fun x2 => bCallV 9 l0 (fX9_copy l0 x2 (0 : Int32)) (fun _ => bGI 9 l0 28 (fun x3 => bPI 9 l0 28 (x3 - (1 : Int32)) (bGI 9 l0 28 (fun x4 => bRet x4)))))))))
set_option maxRecDepth 20000 in
theorem rX9_back (v : mE) (d : Nat) (l0 : Nat) : Rz v RX9 cX9_back 1 (some .int) false emI (d + 1) 0 [(0, vR l0)] [] (fX9_back l0) := by
  unfold fX9_back
  refine rz_aload_n 1 0 dX9_back_0 rfl rfl ?_
  refine rz_iconst 2 dX9_back_1 rfl ci_0 ?_
  refine rz_pI 5 dX9_back_2 rfl rfl rfl rfl fl_X9_62 ?_
  refine rz_aload_n 6 0 dX9_back_5 rfl rfl ?_
  refine rz_iconst 7 dX9_back_6 rfl ci_0 ?_
  refine rz_pI 10 dX9_back_7 rfl rfl rfl rfl fl_X9_65 ?_
  refine rz_aload_n 11 0 dX9_back_10 rfl rfl ?_
  refine rz_gI 14 dX9_back_11 rfl rfl fl_X9_485 (fun x1 => ?_)
  refine rz_if_ne 24 17 dX9_back_14 rfl rfl ?_ ?_
  · refine rz_aload_n 25 0 dX9_back_24 rfl rfl ?_
    refine rz_aload_n 26 0 dX9_back_25 rfl rfl ?_
    refine rz_gI 29 dX9_back_26 rfl rfl fl_X9_485 (fun x2 => ?_)
    refine rz_iconst 30 dX9_back_29 rfl ci_0 ?_
    refine rz_callV 33 dX9_back_30 rfl (tX9_copy v (d + 0) l0 x2 (0 : Int32)) rfl rfl rfl rfl ml_X9_488 im_X9_copy se_X9_X9_copy in_X9 co_X9_copy rfl rfl (fun _ => ?_)
    refine rz_aload_n 34 0 dX9_back_33 rfl rfl ?_
    refine rz_dup 35 dX9_back_34 rfl rfl ?_
    refine rz_gI 38 dX9_back_35 rfl rfl fl_X9_485 (fun x3 => ?_)
    refine rz_iconst 39 dX9_back_38 rfl ci_1 ?_
    refine rz_isub 40 dX9_back_39 rfl ?_
    refine rz_pI 43 dX9_back_40 rfl rfl rfl rfl fl_X9_485 ?_
    refine rz_aload_n 44 0 dX9_back_43 rfl rfl ?_
    refine rz_gI 47 dX9_back_44 rfl rfl fl_X9_485 (fun x4 => ?_)
    exact rz_ireturn rfl rfl dX9_back_47
  · refine rz_aload_n 18 0 dX9_back_17 rfl rfl ?_
    refine rz_bipush 20 dX9_back_18 rfl cb_8 ?_
    refine rz_callV 23 dX9_back_20 rfl (tX9_refuse v (d + 0) l0 (8 : Int32)) rfl rfl rfl rfl ml_X9_357 im_X9_refuse se_X9_X9_refuse in_X9 co_X9_refuse rfl rfl (fun x5 => ?_)
    exact rz_ireturn rfl rfl dX9_back_23
theorem tX9_back (v : mE) (d : Nat) (l0 : Nat) : Mt v yX9_back cX9_back 1 (some .int) emI (d + 1) [vR l0] (fX9_back l0) := mt_of rfl rfl (fun h => by cases h) rfl rfl (rX9_back v d l0)

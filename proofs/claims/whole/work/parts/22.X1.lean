theorem dX1_init_0 : decode cX1_init 0 = .ok (.aload_n 0, 1) := by decide +kernel
theorem dX1_init_1 : decode cX1_init 1 = .ok (.invokespecial 3, 3) := by decide +kernel
theorem dX1_init_4 : decode cX1_init 4 = .ok (.aload_n 0, 1) := by decide +kernel
theorem dX1_init_5 : decode cX1_init 5 = .ok (.iconst 0, 1) := by decide +kernel
theorem dX1_init_6 : decode cX1_init 6 = .ok (.putfield 9, 3) := by decide +kernel
theorem dX1_init_9 : decode cX1_init 9 = .ok (.aload_n 0, 1) := by decide +kernel
theorem dX1_init_10 : decode cX1_init 10 = .ok (.iconst 0, 1) := by decide +kernel
theorem dX1_init_11 : decode cX1_init 11 = .ok (.putfield 15, 3) := by decide +kernel
theorem dX1_init_14 : decode cX1_init 14 = .ok (.aload_n 0, 1) := by decide +kernel
theorem dX1_init_15 : decode cX1_init 15 = .ok (.iconst 0, 1) := by decide +kernel
theorem dX1_init_16 : decode cX1_init 16 = .ok (.putfield 18, 3) := by decide +kernel
theorem dX1_init_19 : decode cX1_init 19 = .ok (.aload_n 0, 1) := by decide +kernel
theorem dX1_init_20 : decode cX1_init 20 = .ok (.sipush 300, 3) := by decide +kernel
theorem dX1_init_23 : decode cX1_init 23 = .ok (.newarray .int, 2) := by decide +kernel
theorem dX1_init_25 : decode cX1_init 25 = .ok (.putfield 21, 3) := by decide +kernel
theorem dX1_init_28 : decode cX1_init 28 = .ok (.aload_n 0, 1) := by decide +kernel
theorem dX1_init_29 : decode cX1_init 29 = .ok (.aload_n 1, 1) := by decide +kernel
theorem dX1_init_30 : decode cX1_init 30 = .ok (.putfield 25, 3) := by decide +kernel
theorem dX1_init_33 : decode cX1_init 33 = .ok (.return_, 1) := by decide +kernel
def fX1_init (l0 : Nat) (l1 : Nat) : mM Unit := bObj l0 (bPI 1 l0 1 (0 : Int32) (bPI 1 l0 2 (0 : Int32) (bPI 1 l0 3 (0 : Int32) (bNa 11 (300 : Int32) (fun x1 => bPR 1 l0 4 x1 (bPR 1 l0 0 l1 (bRet ())))))))
set_option maxRecDepth 20000 in
theorem rX1_init (v : mE) (d : Nat) (l0 : Nat) (l1 : Nat) : Rz v RX1 cX1_init 2 none true emU (d + 1) 0 [(0, vR l0), (1, vR l1)] [] (fX1_init l0 l1) := by
  unfold fX1_init
  refine rz_aload_n 1 0 dX1_init_0 rfl rfl ?_
  refine rz_obj 4 dX1_init_1 rfl ml_X1_3 im_java_lang_Object__init____V co_java_lang_Object__init____V rfl rfl ?_
  refine rz_aload_n 5 0 dX1_init_4 rfl rfl ?_
  refine rz_iconst 6 dX1_init_5 rfl ci_0 ?_
  refine rz_pI 9 dX1_init_6 rfl rfl rfl rfl fl_X1_9 ?_
  refine rz_aload_n 10 0 dX1_init_9 rfl rfl ?_
  refine rz_iconst 11 dX1_init_10 rfl ci_0 ?_
  refine rz_pI 14 dX1_init_11 rfl rfl rfl rfl fl_X1_15 ?_
  refine rz_aload_n 15 0 dX1_init_14 rfl rfl ?_
  refine rz_iconst 16 dX1_init_15 rfl ci_0 ?_
  refine rz_pI 19 dX1_init_16 rfl rfl rfl rfl fl_X1_18 ?_
  refine rz_aload_n 20 0 dX1_init_19 rfl rfl ?_
  refine rz_sipush 23 dX1_init_20 rfl cs_300 ?_
  refine rz_newa 25 dX1_init_23 rfl (by decide) ac_int (fun x1 => ?_)
  refine rz_pR 28 dX1_init_25 rfl rfl rfl fl_X1_21 ?_
  refine rz_aload_n 29 0 dX1_init_28 rfl rfl ?_
  refine rz_aload_n 30 1 dX1_init_29 rfl rfl ?_
  refine rz_pR 33 dX1_init_30 rfl rfl rfl fl_X1_25 ?_
  exact rz_return rfl rfl dX1_init_33
theorem tX1_init (v : mE) (d : Nat) (l0 : Nat) (l1 : Nat) : Mt v yX1_init cX1_init 2 none emU (d + 1) [vR l0, vR l1] (fX1_init l0 l1) := mt_of rfl rfl (fun _ => rfl) rfl rfl (rX1_init v d l0 l1)
theorem dX1_factHere_0 : decode cX1_factHere 0 = .ok (.aload_n 0, 1) := by decide +kernel
theorem dX1_factHere_1 : decode cX1_factHere 1 = .ok (.getfield 25, 3) := by decide +kernel
theorem dX1_factHere_4 : decode cX1_factHere 4 = .ok (.ldc 117, 2) := by decide +kernel
theorem dX1_factHere_6 : decode cX1_factHere 6 = .ok (.invokevirtual 55, 3) := by decide +kernel
theorem dX1_factHere_9 : decode cX1_factHere 9 = .ok (.ifCond .eq 5, 3) := by decide +kernel
theorem dX1_factHere_12 : decode cX1_factHere 12 = .ok (.iconst 0, 1) := by decide +kernel
theorem dX1_factHere_13 : decode cX1_factHere 13 = .ok (.ireturn, 1) := by decide +kernel
theorem dX1_factHere_14 : decode cX1_factHere 14 = .ok (.aload_n 0, 1) := by decide +kernel
theorem dX1_factHere_15 : decode cX1_factHere 15 = .ok (.getfield 25, 3) := by decide +kernel
theorem dX1_factHere_18 : decode cX1_factHere 18 = .ok (.ldc 119, 2) := by decide +kernel
theorem dX1_factHere_20 : decode cX1_factHere 20 = .ok (.invokevirtual 55, 3) := by decide +kernel
theorem dX1_factHere_23 : decode cX1_factHere 23 = .ok (.ifCond .eq 5, 3) := by decide +kernel
theorem dX1_factHere_26 : decode cX1_factHere 26 = .ok (.iconst 1, 1) := by decide +kernel
theorem dX1_factHere_27 : decode cX1_factHere 27 = .ok (.ireturn, 1) := by decide +kernel
theorem dX1_factHere_28 : decode cX1_factHere 28 = .ok (.aload_n 0, 1) := by decide +kernel
theorem dX1_factHere_29 : decode cX1_factHere 29 = .ok (.getfield 25, 3) := by decide +kernel
theorem dX1_factHere_32 : decode cX1_factHere 32 = .ok (.ldc 121, 2) := by decide +kernel
theorem dX1_factHere_34 : decode cX1_factHere 34 = .ok (.invokevirtual 55, 3) := by decide +kernel
theorem dX1_factHere_37 : decode cX1_factHere 37 = .ok (.ifCond .eq 5, 3) := by decide +kernel
theorem dX1_factHere_40 : decode cX1_factHere 40 = .ok (.iconst 2, 1) := by decide +kernel
theorem dX1_factHere_41 : decode cX1_factHere 41 = .ok (.ireturn, 1) := by decide +kernel
theorem dX1_factHere_42 : decode cX1_factHere 42 = .ok (.aload_n 0, 1) := by decide +kernel
theorem dX1_factHere_43 : decode cX1_factHere 43 = .ok (.getfield 25, 3) := by decide +kernel
theorem dX1_factHere_46 : decode cX1_factHere 46 = .ok (.ldc 123, 2) := by decide +kernel
theorem dX1_factHere_48 : decode cX1_factHere 48 = .ok (.invokevirtual 55, 3) := by decide +kernel
theorem dX1_factHere_51 : decode cX1_factHere 51 = .ok (.ifCond .eq 5, 3) := by decide +kernel
theorem dX1_factHere_54 : decode cX1_factHere 54 = .ok (.iconst 3, 1) := by decide +kernel
theorem dX1_factHere_55 : decode cX1_factHere 55 = .ok (.ireturn, 1) := by decide +kernel
theorem dX1_factHere_56 : decode cX1_factHere 56 = .ok (.aload_n 0, 1) := by decide +kernel
theorem dX1_factHere_57 : decode cX1_factHere 57 = .ok (.getfield 25, 3) := by decide +kernel
theorem dX1_factHere_60 : decode cX1_factHere 60 = .ok (.ldc 125, 2) := by decide +kernel
theorem dX1_factHere_62 : decode cX1_factHere 62 = .ok (.invokevirtual 55, 3) := by decide +kernel
theorem dX1_factHere_65 : decode cX1_factHere 65 = .ok (.ifCond .eq 5, 3) := by decide +kernel
theorem dX1_factHere_68 : decode cX1_factHere 68 = .ok (.iconst 4, 1) := by decide +kernel
theorem dX1_factHere_69 : decode cX1_factHere 69 = .ok (.ireturn, 1) := by decide +kernel
theorem dX1_factHere_70 : decode cX1_factHere 70 = .ok (.aload_n 0, 1) := by decide +kernel
theorem dX1_factHere_71 : decode cX1_factHere 71 = .ok (.getfield 25, 3) := by decide +kernel
theorem dX1_factHere_74 : decode cX1_factHere 74 = .ok (.ldc 127, 2) := by decide +kernel
theorem dX1_factHere_76 : decode cX1_factHere 76 = .ok (.invokevirtual 55, 3) := by decide +kernel
theorem dX1_factHere_79 : decode cX1_factHere 79 = .ok (.ifCond .eq 5, 3) := by decide +kernel
theorem dX1_factHere_82 : decode cX1_factHere 82 = .ok (.iconst 5, 1) := by decide +kernel
theorem dX1_factHere_83 : decode cX1_factHere 83 = .ok (.ireturn, 1) := by decide +kernel
theorem dX1_factHere_84 : decode cX1_factHere 84 = .ok (.aload_n 0, 1) := by decide +kernel
theorem dX1_factHere_85 : decode cX1_factHere 85 = .ok (.getfield 25, 3) := by decide +kernel
theorem dX1_factHere_88 : decode cX1_factHere 88 = .ok (.ldc 129, 2) := by decide +kernel
theorem dX1_factHere_90 : decode cX1_factHere 90 = .ok (.invokevirtual 55, 3) := by decide +kernel
theorem dX1_factHere_93 : decode cX1_factHere 93 = .ok (.ifCond .eq 6, 3) := by decide +kernel
theorem dX1_factHere_96 : decode cX1_factHere 96 = .ok (.bipush 6, 2) := by decide +kernel
theorem dX1_factHere_98 : decode cX1_factHere 98 = .ok (.ireturn, 1) := by decide +kernel
theorem dX1_factHere_99 : decode cX1_factHere 99 = .ok (.aload_n 0, 1) := by decide +kernel
theorem dX1_factHere_100 : decode cX1_factHere 100 = .ok (.getfield 25, 3) := by decide +kernel
theorem dX1_factHere_103 : decode cX1_factHere 103 = .ok (.ldc 131, 2) := by decide +kernel
theorem dX1_factHere_105 : decode cX1_factHere 105 = .ok (.invokevirtual 55, 3) := by decide +kernel
theorem dX1_factHere_108 : decode cX1_factHere 108 = .ok (.ifCond .eq 8, 3) := by decide +kernel
theorem dX1_factHere_111 : decode cX1_factHere 111 = .ok (.bipush 7, 2) := by decide +kernel
theorem dX1_factHere_113 : decode cX1_factHere 113 = .ok (.goto 4, 3) := by decide +kernel
theorem dX1_factHere_116 : decode cX1_factHere 116 = .ok (.iconst (-1), 1) := by decide +kernel
theorem dX1_factHere_117 : decode cX1_factHere 117 = .ok (.ireturn, 1) := by decide +kernel
def fX1_factHere (l0 : Nat) : mM Int32 := bGR 1 l0 0 (fun x1 => bCallV 4 x1 (fX4_isWord x1 5) (fun x2 => bIf (x2 = 0) (bGR 1 l0 0 (fun x3 => bCallV 4 x3 (fX4_isWord x3 6) (fun x4 => bIf (x4 = 0) (bGR 1 l0 0 (fun x5 => bCallV 4 x5 (fX4_isWord x5 7) (fun x6 => bIf (x6 = 0) (bGR 1 l0 0 (fun x7 => bCallV 4 x7 (fX4_isWord x7 8) (fun x8 => bIf (x8 = 0) (bGR 1 l0 0 (fun x9 => bCallV 4 x9 (fX4_isWord x9 9) (fun x10 => bIf (x10 = 0) (bGR 1 l0 0 (fun x11 => bCallV 4 x11 (fX4_isWord x11 10) (fun x12 => bIf (x12 = 0) (bGR 1 l0 0 (fun x13 => bCallV 4 x13 (fX4_isWord x13 11) (fun x14 => bIf (x14 = 0) (bGR 1 l0 0 (fun x15 => bCallV 4 x15 (fX4_isWord x15 12) (fun x16 => bIf (x16 = 0) (bRet (-1 : Int32)) (bRet (7 : Int32))))) (bRet (6 : Int32))))) (bRet (5 : Int32))))) (bRet (4 : Int32))))) (bRet (3 : Int32))))) (bRet (2 : Int32))))) (bRet (1 : Int32))))) (bRet (0 : Int32))))
set_option maxRecDepth 20000 in
theorem rX1_factHere (v : mE) (d : Nat) (l0 : Nat) : Rz v RX1 cX1_factHere 1 (some .int) false emI (d + 5) 0 [(0, vR l0)] [] (fX1_factHere l0) := by
  unfold fX1_factHere
  refine rz_aload_n 1 0 dX1_factHere_0 rfl rfl ?_
  refine rz_gR 4 dX1_factHere_1 rfl rfl fl_X1_25 (fun x1 => ?_)
  refine rz_ldcS 6 5 dX1_factHere_4 rfl (by decide) rfl rfl ?_
  refine rz_callV 9 dX1_factHere_6 rfl (tX4_isWord v (d + 0) x1 5) rfl rfl rfl rfl ml_X1_55 im_X4_isWord se_X4_X4_isWord in_X4 co_X4_isWord rfl rfl (fun x2 => ?_)
  refine rz_if_eq 14 12 dX1_factHere_9 rfl rfl ?_ ?_
  · refine rz_aload_n 15 0 dX1_factHere_14 rfl rfl ?_
    refine rz_gR 18 dX1_factHere_15 rfl rfl fl_X1_25 (fun x3 => ?_)
    refine rz_ldcS 20 6 dX1_factHere_18 rfl (by decide) rfl rfl ?_
    refine rz_callV 23 dX1_factHere_20 rfl (tX4_isWord v (d + 0) x3 6) rfl rfl rfl rfl ml_X1_55 im_X4_isWord se_X4_X4_isWord in_X4 co_X4_isWord rfl rfl (fun x4 => ?_)
    refine rz_if_eq 28 26 dX1_factHere_23 rfl rfl ?_ ?_
    · refine rz_aload_n 29 0 dX1_factHere_28 rfl rfl ?_
      refine rz_gR 32 dX1_factHere_29 rfl rfl fl_X1_25 (fun x5 => ?_)
      refine rz_ldcS 34 7 dX1_factHere_32 rfl (by decide) rfl rfl ?_
      refine rz_callV 37 dX1_factHere_34 rfl (tX4_isWord v (d + 0) x5 7) rfl rfl rfl rfl ml_X1_55 im_X4_isWord se_X4_X4_isWord in_X4 co_X4_isWord rfl rfl (fun x6 => ?_)
      refine rz_if_eq 42 40 dX1_factHere_37 rfl rfl ?_ ?_
      · refine rz_aload_n 43 0 dX1_factHere_42 rfl rfl ?_
        refine rz_gR 46 dX1_factHere_43 rfl rfl fl_X1_25 (fun x7 => ?_)
        refine rz_ldcS 48 8 dX1_factHere_46 rfl (by decide) rfl rfl ?_
        refine rz_callV 51 dX1_factHere_48 rfl (tX4_isWord v (d + 0) x7 8) rfl rfl rfl rfl ml_X1_55 im_X4_isWord se_X4_X4_isWord in_X4 co_X4_isWord rfl rfl (fun x8 => ?_)
        refine rz_if_eq 56 54 dX1_factHere_51 rfl rfl ?_ ?_
        · refine rz_aload_n 57 0 dX1_factHere_56 rfl rfl ?_
          refine rz_gR 60 dX1_factHere_57 rfl rfl fl_X1_25 (fun x9 => ?_)
          refine rz_ldcS 62 9 dX1_factHere_60 rfl (by decide) rfl rfl ?_
          refine rz_callV 65 dX1_factHere_62 rfl (tX4_isWord v (d + 0) x9 9) rfl rfl rfl rfl ml_X1_55 im_X4_isWord se_X4_X4_isWord in_X4 co_X4_isWord rfl rfl (fun x10 => ?_)
          refine rz_if_eq 70 68 dX1_factHere_65 rfl rfl ?_ ?_
          · refine rz_aload_n 71 0 dX1_factHere_70 rfl rfl ?_
            refine rz_gR 74 dX1_factHere_71 rfl rfl fl_X1_25 (fun x11 => ?_)
            refine rz_ldcS 76 10 dX1_factHere_74 rfl (by decide) rfl rfl ?_
            refine rz_callV 79 dX1_factHere_76 rfl (tX4_isWord v (d + 0) x11 10) rfl rfl rfl rfl ml_X1_55 im_X4_isWord se_X4_X4_isWord in_X4 co_X4_isWord rfl rfl (fun x12 => ?_)
            refine rz_if_eq 84 82 dX1_factHere_79 rfl rfl ?_ ?_
            · refine rz_aload_n 85 0 dX1_factHere_84 rfl rfl ?_
              refine rz_gR 88 dX1_factHere_85 rfl rfl fl_X1_25 (fun x13 => ?_)
              refine rz_ldcS 90 11 dX1_factHere_88 rfl (by decide) rfl rfl ?_
              refine rz_callV 93 dX1_factHere_90 rfl (tX4_isWord v (d + 0) x13 11) rfl rfl rfl rfl ml_X1_55 im_X4_isWord se_X4_X4_isWord in_X4 co_X4_isWord rfl rfl (fun x14 => ?_)
              refine rz_if_eq 99 96 dX1_factHere_93 rfl rfl ?_ ?_
              · refine rz_aload_n 100 0 dX1_factHere_99 rfl rfl ?_
                refine rz_gR 103 dX1_factHere_100 rfl rfl fl_X1_25 (fun x15 => ?_)
                refine rz_ldcS 105 12 dX1_factHere_103 rfl (by decide) rfl rfl ?_
                refine rz_callV 108 dX1_factHere_105 rfl (tX4_isWord v (d + 0) x15 12) rfl rfl rfl rfl ml_X1_55 im_X4_isWord se_X4_X4_isWord in_X4 co_X4_isWord rfl rfl (fun x16 => ?_)
                refine rz_if_eq 116 111 dX1_factHere_108 rfl rfl ?_ ?_
                · refine rz_iconst 117 dX1_factHere_116 rfl ci_m1 ?_
                  exact rz_ireturn rfl rfl dX1_factHere_117
                · refine rz_bipush 113 dX1_factHere_111 rfl cb_7 ?_
                  refine rz_goto 117 dX1_factHere_113 rfl ?_
                  exact rz_ireturn rfl rfl dX1_factHere_117
              · refine rz_bipush 98 dX1_factHere_96 rfl cb_6 ?_
                exact rz_ireturn rfl rfl dX1_factHere_98
            · refine rz_iconst 83 dX1_factHere_82 rfl ci_5 ?_
              exact rz_ireturn rfl rfl dX1_factHere_83
          · refine rz_iconst 69 dX1_factHere_68 rfl ci_4 ?_
            exact rz_ireturn rfl rfl dX1_factHere_69
        · refine rz_iconst 55 dX1_factHere_54 rfl ci_3 ?_
          exact rz_ireturn rfl rfl dX1_factHere_55
      · refine rz_iconst 41 dX1_factHere_40 rfl ci_2 ?_
        exact rz_ireturn rfl rfl dX1_factHere_41
    · refine rz_iconst 27 dX1_factHere_26 rfl ci_1 ?_
      exact rz_ireturn rfl rfl dX1_factHere_27
  · refine rz_iconst 13 dX1_factHere_12 rfl ci_0 ?_
    exact rz_ireturn rfl rfl dX1_factHere_13
theorem tX1_factHere (v : mE) (d : Nat) (l0 : Nat) : Mt v yX1_factHere cX1_factHere 1 (some .int) emI (d + 5) [vR l0] (fX1_factHere l0) := mt_of rfl rfl (fun h => by cases h) rfl rfl (rX1_factHere v d l0)
theorem dX1_keepStep_0 : decode cX1_keepStep 0 = .ok (.aload_n 0, 1) := by decide +kernel
theorem dX1_keepStep_1 : decode cX1_keepStep 1 = .ok (.getfield 18, 3) := by decide +kernel
theorem dX1_keepStep_4 : decode cX1_keepStep 4 = .ok (.sipush 300, 3) := by decide +kernel
theorem dX1_keepStep_7 : decode cX1_keepStep 7 = .ok (.if_icmp .ge 23, 3) := by decide +kernel
theorem dX1_keepStep_10 : decode cX1_keepStep 10 = .ok (.aload_n 0, 1) := by decide +kernel
theorem dX1_keepStep_11 : decode cX1_keepStep 11 = .ok (.getfield 21, 3) := by decide +kernel
theorem dX1_keepStep_14 : decode cX1_keepStep 14 = .ok (.aload_n 0, 1) := by decide +kernel
theorem dX1_keepStep_15 : decode cX1_keepStep 15 = .ok (.getfield 18, 3) := by decide +kernel
theorem dX1_keepStep_18 : decode cX1_keepStep 18 = .ok (.iload_n 1, 1) := by decide +kernel
theorem dX1_keepStep_19 : decode cX1_keepStep 19 = .ok (.iastore, 1) := by decide +kernel
theorem dX1_keepStep_20 : decode cX1_keepStep 20 = .ok (.aload_n 0, 1) := by decide +kernel
theorem dX1_keepStep_21 : decode cX1_keepStep 21 = .ok (.dup, 1) := by decide +kernel
theorem dX1_keepStep_22 : decode cX1_keepStep 22 = .ok (.getfield 18, 3) := by decide +kernel
theorem dX1_keepStep_25 : decode cX1_keepStep 25 = .ok (.iconst 1, 1) := by decide +kernel
theorem dX1_keepStep_26 : decode cX1_keepStep 26 = .ok (.iadd, 1) := by decide +kernel
theorem dX1_keepStep_27 : decode cX1_keepStep 27 = .ok (.putfield 18, 3) := by decide +kernel
theorem dX1_keepStep_30 : decode cX1_keepStep 30 = .ok (.return_, 1) := by decide +kernel
def fX1_keepStep (l0 : Nat) (l1 : Int32) : mM Unit := bGI 1 l0 3 (fun x1 => bIf ((300 : Int32) ≤ x1) (bRet ()) (bGR 1 l0 4 (fun x2 => bGI 1 l0 3 (fun x3 => bSI x2 x3 l1 (bGI 1 l0 3 (fun x4 => bPI 1 l0 3 (x4 + (1 : Int32)) (bRet ())))))))
set_option maxRecDepth 20000 in
theorem rX1_keepStep (v : mE) (d : Nat) (l0 : Nat) (l1 : Int32) : Rz v RX1 cX1_keepStep 2 none false emU (d + 0) 0 [(0, vR l0), (1, vI l1)] [] (fX1_keepStep l0 l1) := by
  unfold fX1_keepStep
  refine rz_aload_n 1 0 dX1_keepStep_0 rfl rfl ?_
  refine rz_gI 4 dX1_keepStep_1 rfl rfl fl_X1_18 (fun x1 => ?_)
  refine rz_sipush 7 dX1_keepStep_4 rfl cs_300 ?_
  refine rz_icmp_ge 30 10 dX1_keepStep_7 rfl rfl ?_ ?_
  · exact rz_return rfl rfl dX1_keepStep_30
  · refine rz_aload_n 11 0 dX1_keepStep_10 rfl rfl ?_
    refine rz_gR 14 dX1_keepStep_11 rfl rfl fl_X1_21 (fun x2 => ?_)
    refine rz_aload_n 15 0 dX1_keepStep_14 rfl rfl ?_
    refine rz_gI 18 dX1_keepStep_15 rfl rfl fl_X1_18 (fun x3 => ?_)
    refine rz_iload_n 19 1 dX1_keepStep_18 rfl rfl ?_
    refine rz_iast 20 dX1_keepStep_19 rfl ?_
    refine rz_aload_n 21 0 dX1_keepStep_20 rfl rfl ?_
    refine rz_dup 22 dX1_keepStep_21 rfl rfl ?_
    refine rz_gI 25 dX1_keepStep_22 rfl rfl fl_X1_18 (fun x4 => ?_)
    refine rz_iconst 26 dX1_keepStep_25 rfl ci_1 ?_
    refine rz_iadd 27 dX1_keepStep_26 rfl ?_
    refine rz_pI 30 dX1_keepStep_27 rfl rfl rfl rfl fl_X1_18 ?_
    exact rz_return rfl rfl dX1_keepStep_30
theorem tX1_keepStep (v : mE) (d : Nat) (l0 : Nat) (l1 : Int32) : Mt v yX1_keepStep cX1_keepStep 2 none emU (d + 0) [vR l0, vI l1] (fX1_keepStep l0 l1) := mt_of rfl rfl (fun h => by cases h) rfl rfl (rX1_keepStep v d l0 l1)
theorem dX1_readCase_0 : decode cX1_readCase 0 = .ok (.aload_n 0, 1) := by decide +kernel
theorem dX1_readCase_1 : decode cX1_readCase 1 = .ok (.dup, 1) := by decide +kernel
theorem dX1_readCase_2 : decode cX1_readCase 2 = .ok (.getfield 15, 3) := by decide +kernel
theorem dX1_readCase_5 : decode cX1_readCase 5 = .ok (.iconst 1, 1) := by decide +kernel
theorem dX1_readCase_6 : decode cX1_readCase 6 = .ok (.iadd, 1) := by decide +kernel
theorem dX1_readCase_7 : decode cX1_readCase 7 = .ok (.putfield 15, 3) := by decide +kernel
theorem dX1_readCase_10 : decode cX1_readCase 10 = .ok (.iload_n 1, 1) := by decide +kernel
theorem dX1_readCase_11 : decode cX1_readCase 11 = .ok (.ifCond .eq 8, 3) := by decide +kernel
theorem dX1_readCase_14 : decode cX1_readCase 14 = .ok (.iload_n 1, 1) := by decide +kernel
theorem dX1_readCase_15 : decode cX1_readCase 15 = .ok (.iconst 1, 1) := by decide +kernel
theorem dX1_readCase_16 : decode cX1_readCase 16 = .ok (.if_icmp .ne 17, 3) := by decide +kernel
theorem dX1_readCase_19 : decode cX1_readCase 19 = .ok (.aload_n 0, 1) := by decide +kernel
theorem dX1_readCase_20 : decode cX1_readCase 20 = .ok (.iconst 0, 1) := by decide +kernel
theorem dX1_readCase_21 : decode cX1_readCase 21 = .ok (.iload_n 1, 1) := by decide +kernel
theorem dX1_readCase_22 : decode cX1_readCase 22 = .ok (.bipush 61, 2) := by decide +kernel
theorem dX1_readCase_24 : decode cX1_readCase 24 = .ok (.iconst 1, 1) := by decide +kernel
theorem dX1_readCase_25 : decode cX1_readCase 25 = .ok (.invokestatic 75, 3) := by decide +kernel
theorem dX1_readCase_28 : decode cX1_readCase 28 = .ok (.invokevirtual 79, 3) := by decide +kernel
theorem dX1_readCase_31 : decode cX1_readCase 31 = .ok (.iconst 1, 1) := by decide +kernel
theorem dX1_readCase_32 : decode cX1_readCase 32 = .ok (.ireturn, 1) := by decide +kernel
theorem dX1_readCase_33 : decode cX1_readCase 33 = .ok (.aload_n 0, 1) := by decide +kernel
theorem dX1_readCase_34 : decode cX1_readCase 34 = .ok (.getfield 25, 3) := by decide +kernel
theorem dX1_readCase_37 : decode cX1_readCase 37 = .ok (.bipush 60, 2) := by decide +kernel
theorem dX1_readCase_39 : decode cX1_readCase 39 = .ok (.invokevirtual 101, 3) := by decide +kernel
theorem dX1_readCase_42 : decode cX1_readCase 42 = .ok (.ifCond .ne 36, 3) := by decide +kernel
theorem dX1_readCase_45 : decode cX1_readCase 45 = .ok (.aload_n 0, 1) := by decide +kernel
theorem dX1_readCase_46 : decode cX1_readCase 46 = .ok (.getfield 25, 3) := by decide +kernel
theorem dX1_readCase_49 : decode cX1_readCase 49 = .ok (.bipush 62, 2) := by decide +kernel
theorem dX1_readCase_51 : decode cX1_readCase 51 = .ok (.invokevirtual 101, 3) := by decide +kernel
theorem dX1_readCase_54 : decode cX1_readCase 54 = .ok (.ifCond .ne 24, 3) := by decide +kernel
theorem dX1_readCase_57 : decode cX1_readCase 57 = .ok (.aload_n 0, 1) := by decide +kernel
theorem dX1_readCase_58 : decode cX1_readCase 58 = .ok (.getfield 25, 3) := by decide +kernel
theorem dX1_readCase_61 : decode cX1_readCase 61 = .ok (.bipush 61, 2) := by decide +kernel
theorem dX1_readCase_63 : decode cX1_readCase 63 = .ok (.invokevirtual 101, 3) := by decide +kernel
theorem dX1_readCase_66 : decode cX1_readCase 66 = .ok (.ifCond .ne 12, 3) := by decide +kernel
theorem dX1_readCase_69 : decode cX1_readCase 69 = .ok (.aload_n 0, 1) := by decide +kernel
theorem dX1_readCase_70 : decode cX1_readCase 70 = .ok (.getfield 25, 3) := by decide +kernel
theorem dX1_readCase_73 : decode cX1_readCase 73 = .ok (.iconst 2, 1) := by decide +kernel
theorem dX1_readCase_74 : decode cX1_readCase 74 = .ok (.invokevirtual 59, 3) := by decide +kernel
theorem dX1_readCase_77 : decode cX1_readCase 77 = .ok (.ireturn, 1) := by decide +kernel
theorem dX1_readCase_78 : decode cX1_readCase 78 = .ok (.aload_n 0, 1) := by decide +kernel
theorem dX1_readCase_79 : decode cX1_readCase 79 = .ok (.getfield 25, 3) := by decide +kernel
theorem dX1_readCase_82 : decode cX1_readCase 82 = .ok (.getfield 107, 3) := by decide +kernel
theorem dX1_readCase_85 : decode cX1_readCase 85 = .ok (.istore_n 2, 1) := by decide +kernel
theorem dX1_readCase_86 : decode cX1_readCase 86 = .ok (.aload_n 0, 1) := by decide +kernel
theorem dX1_readCase_87 : decode cX1_readCase 87 = .ok (.getfield 25, 3) := by decide +kernel
theorem dX1_readCase_90 : decode cX1_readCase 90 = .ok (.invokevirtual 82, 3) := by decide +kernel
theorem dX1_readCase_93 : decode cX1_readCase 93 = .ok (.aload_n 0, 1) := by decide +kernel
theorem dX1_readCase_94 : decode cX1_readCase 94 = .ok (.getfield 25, 3) := by decide +kernel
theorem dX1_readCase_97 : decode cX1_readCase 97 = .ok (.iconst 0, 1) := by decide +kernel
theorem dX1_readCase_98 : decode cX1_readCase 98 = .ok (.sipush 999, 3) := by decide +kernel
theorem dX1_readCase_101 : decode cX1_readCase 101 = .ok (.invokevirtual 110, 3) := by decide +kernel
theorem dX1_readCase_104 : decode cX1_readCase 104 = .ok (.ifCond .ne 5, 3) := by decide +kernel
theorem dX1_readCase_107 : decode cX1_readCase 107 = .ok (.iconst 0, 1) := by decide +kernel
theorem dX1_readCase_108 : decode cX1_readCase 108 = .ok (.ireturn, 1) := by decide +kernel
theorem dX1_readCase_109 : decode cX1_readCase 109 = .ok (.aload_n 0, 1) := by decide +kernel
theorem dX1_readCase_110 : decode cX1_readCase 110 = .ok (.iconst 0, 1) := by decide +kernel
theorem dX1_readCase_111 : decode cX1_readCase 111 = .ok (.iload_n 1, 1) := by decide +kernel
theorem dX1_readCase_112 : decode cX1_readCase 112 = .ok (.iload_n 2, 1) := by decide +kernel
theorem dX1_readCase_113 : decode cX1_readCase 113 = .ok (.aload_n 0, 1) := by decide +kernel
theorem dX1_readCase_114 : decode cX1_readCase 114 = .ok (.getfield 25, 3) := by decide +kernel
theorem dX1_readCase_117 : decode cX1_readCase 117 = .ok (.getfield 114, 3) := by decide +kernel
theorem dX1_readCase_120 : decode cX1_readCase 120 = .ok (.invokestatic 75, 3) := by decide +kernel
theorem dX1_readCase_123 : decode cX1_readCase 123 = .ok (.invokevirtual 79, 3) := by decide +kernel
theorem dX1_readCase_126 : decode cX1_readCase 126 = .ok (.iconst 1, 1) := by decide +kernel
theorem dX1_readCase_127 : decode cX1_readCase 127 = .ok (.ireturn, 1) := by decide +kernel
def fX1_readCase_78 (l0 : Nat) (l1 : Int32) : mM Int32 := bGR 1 l0 0 (fun x1 => bGI 4 x1 5 (fun x2 => bGR 1 l0 0 (fun x3 => bCallV 4 x3 (fX4_next x3) (fun _ => bGR 1 l0 0 (fun x4 => bCallV 4 x4 (fX4_takeNumber x4 (0 : Int32) (999 : Int32)) (fun x5 => bIf (x5 = 0) (bRetZ (0 : Int32)) (bGR 1 l0 0 (fun x6 => bGI 4 x6 6 (fun x7 => bCall (fX0_step (0 : Int32) l1 x2 x7) (fun x8 => bCallV 1 l0 (fX1_keepStep l0 x8) (fun _ => bRetZ (1 : Int32))))))))))))
set_option maxRecDepth 20000 in
theorem rX1_readCase_78 (v : mE) (d : Nat) (l0 : Nat) (l1 : Int32) : Rz v RX1 cX1_readCase 3 (some .boolean) false emI (d + 6) 78 [(0, vR l0), (1, vI l1)] [] (fX1_readCase_78 l0 l1) := by
  unfold fX1_readCase_78
  refine rz_aload_n 79 0 dX1_readCase_78 rfl rfl ?_
  refine rz_gR 82 dX1_readCase_79 rfl rfl fl_X1_25 (fun x1 => ?_)
  refine rz_gI 85 dX1_readCase_82 rfl rfl fl_X1_107 (fun x2 => ?_)
  refine rz_istore_n (lv' := [(2, vI x2), (0, vR l0), (1, vI l1)]) 86 dX1_readCase_85 rfl rfl rfl ?_
  refine rz_aload_n 87 1 dX1_readCase_86 rfl rfl ?_
  refine rz_gR 90 dX1_readCase_87 rfl rfl fl_X1_25 (fun x3 => ?_)
  refine rz_callV 93 dX1_readCase_90 rfl (tX4_next v (d + 1) x3) rfl rfl rfl rfl ml_X1_82 im_X4_next se_X4_X4_next in_X4 co_X4_next rfl rfl (fun _ => ?_)
  refine rz_aload_n 94 1 dX1_readCase_93 rfl rfl ?_
  refine rz_gR 97 dX1_readCase_94 rfl rfl fl_X1_25 (fun x4 => ?_)
  refine rz_iconst 98 dX1_readCase_97 rfl ci_0 ?_
  refine rz_sipush 101 dX1_readCase_98 rfl cs_999 ?_
  refine rz_callV 104 dX1_readCase_101 rfl (tX4_takeNumber v (d + 0) x4 (0 : Int32) (999 : Int32)) rfl rfl rfl rfl ml_X1_110 im_X4_takeNumber se_X4_X4_takeNumber in_X4 co_X4_takeNumber rfl rfl (fun x5 => ?_)
  refine rz_if_ne 109 107 dX1_readCase_104 rfl rfl ?_ ?_
  · refine rz_aload_n 110 1 dX1_readCase_109 rfl rfl ?_
    refine rz_iconst 111 dX1_readCase_110 rfl ci_0 ?_
    refine rz_iload_n 112 2 dX1_readCase_111 rfl rfl ?_
    refine rz_iload_n 113 0 dX1_readCase_112 rfl rfl ?_
    refine rz_aload_n 114 1 dX1_readCase_113 rfl rfl ?_
    refine rz_gR 117 dX1_readCase_114 rfl rfl fl_X1_25 (fun x6 => ?_)
    refine rz_gI 120 dX1_readCase_117 rfl rfl fl_X1_114 (fun x7 => ?_)
    refine rz_callS 123 dX1_readCase_120 rfl (tX0_step v (d + 5) (0 : Int32) l1 x2 x7) rfl rfl ml_X1_75 sm_X0_step in_X0 co_X0_step rfl rfl (fun x8 => ?_)
    refine rz_callV 126 dX1_readCase_123 rfl (tX1_keepStep v (d + 5) l0 x8) rfl rfl rfl rfl ml_X1_79 im_X1_keepStep se_X1_X1_keepStep in_X1 co_X1_keepStep rfl rfl (fun _ => ?_)
    refine rz_iconst 127 dX1_readCase_126 rfl ci_1 ?_
    exact rz_zreturn rfl rfl dX1_readCase_127
  · refine rz_iconst 108 dX1_readCase_107 rfl ci_0 ?_
    exact rz_zreturn rfl rfl dX1_readCase_108
def fX1_readCase_19 (l0 : Nat) (l1 : Int32) : mM Int32 := bCall (fX0_step (0 : Int32) l1 (61 : Int32) (1 : Int32)) (fun x1 => bCallV 1 l0 (fX1_keepStep l0 x1) (fun _ => bRetZ (1 : Int32)))
set_option maxRecDepth 20000 in
theorem rX1_readCase_19 (v : mE) (d : Nat) (l0 : Nat) (l1 : Int32) : Rz v RX1 cX1_readCase 3 (some .boolean) false emI (d + 6) 19 [(0, vR l0), (1, vI l1)] [] (fX1_readCase_19 l0 l1) := by
  unfold fX1_readCase_19
  refine rz_aload_n 20 0 dX1_readCase_19 rfl rfl ?_
  refine rz_iconst 21 dX1_readCase_20 rfl ci_0 ?_
  refine rz_iload_n 22 1 dX1_readCase_21 rfl rfl ?_
  refine rz_bipush 24 dX1_readCase_22 rfl cb_61 ?_
  refine rz_iconst 25 dX1_readCase_24 rfl ci_1 ?_
  refine rz_callS 28 dX1_readCase_25 rfl (tX0_step v (d + 5) (0 : Int32) l1 (61 : Int32) (1 : Int32)) rfl rfl ml_X1_75 sm_X0_step in_X0 co_X0_step rfl rfl (fun x1 => ?_)
  refine rz_callV 31 dX1_readCase_28 rfl (tX1_keepStep v (d + 5) l0 x1) rfl rfl rfl rfl ml_X1_79 im_X1_keepStep se_X1_X1_keepStep in_X1 co_X1_keepStep rfl rfl (fun _ => ?_)
  refine rz_iconst 32 dX1_readCase_31 rfl ci_1 ?_
  exact rz_zreturn rfl rfl dX1_readCase_32
def fX1_readCase (l0 : Nat) (l1 : Int32) : mM Int32 := bGI 1 l0 2 (fun x1 => bPI 1 l0 2 (x1 + (1 : Int32)) (bIf (l1 = 0) (fX1_readCase_19 l0 l1) (bIf (l1 = (1 : Int32)) (fX1_readCase_19 l0 l1) (bGR 1 l0 0 (fun x2 => bCallV 4 x2 (fX4_isSign x2 (60 : Int32)) (fun x3 => bIf (x3 = 0) (bGR 1 l0 0 (fun x4 => bCallV 4 x4 (fX4_isSign x4 (62 : Int32)) (fun x5 => bIf (x5 = 0) (bGR 1 l0 0 (fun x6 => bCallV 4 x6 (fX4_isSign x6 (61 : Int32)) (fun x7 => bIf (x7 = 0) (bGR 1 l0 0 (fun x8 => bCallV 4 x8 (fX4_refuseToken x8 (2 : Int32)) (fun x9 => bRetZ x9))) (fX1_readCase_78 l0 l1)))) (fX1_readCase_78 l0 l1)))) (fX1_readCase_78 l0 l1)))))))
set_option maxRecDepth 20000 in
theorem rX1_readCase (v : mE) (d : Nat) (l0 : Nat) (l1 : Int32) : Rz v RX1 cX1_readCase 3 (some .boolean) false emI (d + 6) 0 [(0, vR l0), (1, vI l1)] [] (fX1_readCase l0 l1) := by
  unfold fX1_readCase
  refine rz_aload_n 1 0 dX1_readCase_0 rfl rfl ?_
  refine rz_dup 2 dX1_readCase_1 rfl rfl ?_
  refine rz_gI 5 dX1_readCase_2 rfl rfl fl_X1_15 (fun x1 => ?_)
  refine rz_iconst 6 dX1_readCase_5 rfl ci_1 ?_
  refine rz_iadd 7 dX1_readCase_6 rfl ?_
  refine rz_pI 10 dX1_readCase_7 rfl rfl rfl rfl fl_X1_15 ?_
  refine rz_iload_n 11 1 dX1_readCase_10 rfl rfl ?_
  refine rz_if_eq 19 14 dX1_readCase_11 rfl rfl ?_ ?_
  · exact rz_sub [0, 1] rfl (rX1_readCase_19 v d l0 l1)
  · refine rz_iload_n 15 1 dX1_readCase_14 rfl rfl ?_
    refine rz_iconst 16 dX1_readCase_15 rfl ci_1 ?_
    refine rz_icmp_ne 33 19 dX1_readCase_16 rfl rfl ?_ ?_
    · refine rz_aload_n 34 0 dX1_readCase_33 rfl rfl ?_
      refine rz_gR 37 dX1_readCase_34 rfl rfl fl_X1_25 (fun x2 => ?_)
      refine rz_bipush 39 dX1_readCase_37 rfl cb_60 ?_
      refine rz_callV 42 dX1_readCase_39 rfl (tX4_isSign v (d + 5) x2 (60 : Int32)) rfl rfl rfl rfl ml_X1_101 im_X4_isSign se_X4_X4_isSign in_X4 co_X4_isSign rfl rfl (fun x3 => ?_)
      refine rz_if_ne 78 45 dX1_readCase_42 rfl rfl ?_ ?_
      · exact rz_sub [0, 1] rfl (rX1_readCase_78 v d l0 l1)
      · refine rz_aload_n 46 0 dX1_readCase_45 rfl rfl ?_
        refine rz_gR 49 dX1_readCase_46 rfl rfl fl_X1_25 (fun x4 => ?_)
        refine rz_bipush 51 dX1_readCase_49 rfl cb_62 ?_
        refine rz_callV 54 dX1_readCase_51 rfl (tX4_isSign v (d + 5) x4 (62 : Int32)) rfl rfl rfl rfl ml_X1_101 im_X4_isSign se_X4_X4_isSign in_X4 co_X4_isSign rfl rfl (fun x5 => ?_)
        refine rz_if_ne 78 57 dX1_readCase_54 rfl rfl ?_ ?_
        · exact rz_sub [0, 1] rfl (rX1_readCase_78 v d l0 l1)
        · refine rz_aload_n 58 0 dX1_readCase_57 rfl rfl ?_
          refine rz_gR 61 dX1_readCase_58 rfl rfl fl_X1_25 (fun x6 => ?_)
          refine rz_bipush 63 dX1_readCase_61 rfl cb_61 ?_
          refine rz_callV 66 dX1_readCase_63 rfl (tX4_isSign v (d + 5) x6 (61 : Int32)) rfl rfl rfl rfl ml_X1_101 im_X4_isSign se_X4_X4_isSign in_X4 co_X4_isSign rfl rfl (fun x7 => ?_)
          refine rz_if_ne 78 69 dX1_readCase_66 rfl rfl ?_ ?_
          · exact rz_sub [0, 1] rfl (rX1_readCase_78 v d l0 l1)
          · refine rz_aload_n 70 0 dX1_readCase_69 rfl rfl ?_
            refine rz_gR 73 dX1_readCase_70 rfl rfl fl_X1_25 (fun x8 => ?_)
            refine rz_iconst 74 dX1_readCase_73 rfl ci_2 ?_
            refine rz_callV 77 dX1_readCase_74 rfl (tX4_refuseToken v (d + 5) x8 (2 : Int32)) rfl rfl rfl rfl ml_X1_59 im_X4_refuseToken se_X4_X4_refuseToken in_X4 co_X4_refuseToken rfl rfl (fun x9 => ?_)
            exact rz_zreturn rfl rfl dX1_readCase_77
    · exact rz_sub [0, 1] rfl (rX1_readCase_19 v d l0 l1)
theorem tX1_readCase (v : mE) (d : Nat) (l0 : Nat) (l1 : Int32) : Mt v yX1_readCase cX1_readCase 3 (some .boolean) emI (d + 6) [vR l0, vI l1] (fX1_readCase l0 l1) := mt_of rfl rfl (fun h => by cases h) rfl rfl (rX1_readCase v d l0 l1)
theorem dX1_readOne_0 : decode cX1_readOne 0 = .ok (.aload_n 0, 1) := by decide +kernel
theorem dX1_readOne_1 : decode cX1_readOne 1 = .ok (.invokevirtual 96, 3) := by decide +kernel
theorem dX1_readOne_4 : decode cX1_readOne 4 = .ok (.istore_n 2, 1) := by decide +kernel
theorem dX1_readOne_5 : decode cX1_readOne 5 = .ok (.aload_n 0, 1) := by decide +kernel
theorem dX1_readOne_6 : decode cX1_readOne 6 = .ok (.getfield 25, 3) := by decide +kernel
theorem dX1_readOne_9 : decode cX1_readOne 9 = .ok (.ldc 99, 2) := by decide +kernel
theorem dX1_readOne_11 : decode cX1_readOne 11 = .ok (.invokevirtual 55, 3) := by decide +kernel
theorem dX1_readOne_14 : decode cX1_readOne 14 = .ok (.istore_n 3, 1) := by decide +kernel
theorem dX1_readOne_15 : decode cX1_readOne 15 = .ok (.iload_n 2, 1) := by decide +kernel
theorem dX1_readOne_16 : decode cX1_readOne 16 = .ok (.iconst (-1), 1) := by decide +kernel
theorem dX1_readOne_17 : decode cX1_readOne 17 = .ok (.if_icmp .ne 28, 3) := by decide +kernel
theorem dX1_readOne_20 : decode cX1_readOne 20 = .ok (.iload_n 3, 1) := by decide +kernel
theorem dX1_readOne_21 : decode cX1_readOne 21 = .ok (.ifCond .ne 24, 3) := by decide +kernel
theorem dX1_readOne_24 : decode cX1_readOne 24 = .ok (.aload_n 0, 1) := by decide +kernel
theorem dX1_readOne_25 : decode cX1_readOne 25 = .ok (.getfield 25, 3) := by decide +kernel
theorem dX1_readOne_28 : decode cX1_readOne 28 = .ok (.bipush 40, 2) := by decide +kernel
theorem dX1_readOne_30 : decode cX1_readOne 30 = .ok (.invokevirtual 101, 3) := by decide +kernel
theorem dX1_readOne_33 : decode cX1_readOne 33 = .ok (.ifCond .ne 12, 3) := by decide +kernel
theorem dX1_readOne_36 : decode cX1_readOne 36 = .ok (.aload_n 0, 1) := by decide +kernel
theorem dX1_readOne_37 : decode cX1_readOne 37 = .ok (.getfield 25, 3) := by decide +kernel
theorem dX1_readOne_40 : decode cX1_readOne 40 = .ok (.iconst 2, 1) := by decide +kernel
theorem dX1_readOne_41 : decode cX1_readOne 41 = .ok (.invokevirtual 59, 3) := by decide +kernel
theorem dX1_readOne_44 : decode cX1_readOne 44 = .ok (.ireturn, 1) := by decide +kernel
theorem dX1_readOne_45 : decode cX1_readOne 45 = .ok (.iload_n 2, 1) := by decide +kernel
theorem dX1_readOne_46 : decode cX1_readOne 46 = .ok (.iconst (-1), 1) := by decide +kernel
theorem dX1_readOne_47 : decode cX1_readOne 47 = .ok (.if_icmp .eq 22, 3) := by decide +kernel
theorem dX1_readOne_50 : decode cX1_readOne 50 = .ok (.aload_n 0, 1) := by decide +kernel
theorem dX1_readOne_51 : decode cX1_readOne 51 = .ok (.getfield 15, 3) := by decide +kernel
theorem dX1_readOne_54 : decode cX1_readOne 54 = .ok (.bipush 24, 2) := by decide +kernel
theorem dX1_readOne_56 : decode cX1_readOne 56 = .ok (.if_icmp .lt 13, 3) := by decide +kernel
theorem dX1_readOne_59 : decode cX1_readOne 59 = .ok (.aload_n 0, 1) := by decide +kernel
theorem dX1_readOne_60 : decode cX1_readOne 60 = .ok (.getfield 25, 3) := by decide +kernel
theorem dX1_readOne_63 : decode cX1_readOne 63 = .ok (.bipush 6, 2) := by decide +kernel
theorem dX1_readOne_65 : decode cX1_readOne 65 = .ok (.invokevirtual 59, 3) := by decide +kernel
theorem dX1_readOne_68 : decode cX1_readOne 68 = .ok (.ireturn, 1) := by decide +kernel
theorem dX1_readOne_69 : decode cX1_readOne 69 = .ok (.iload_n 1, 1) := by decide +kernel
theorem dX1_readOne_70 : decode cX1_readOne 70 = .ok (.bipush 6, 2) := by decide +kernel
theorem dX1_readOne_72 : decode cX1_readOne 72 = .ok (.if_icmp .lt 13, 3) := by decide +kernel
theorem dX1_readOne_75 : decode cX1_readOne 75 = .ok (.aload_n 0, 1) := by decide +kernel
theorem dX1_readOne_76 : decode cX1_readOne 76 = .ok (.getfield 25, 3) := by decide +kernel
theorem dX1_readOne_79 : decode cX1_readOne 79 = .ok (.bipush 7, 2) := by decide +kernel
theorem dX1_readOne_81 : decode cX1_readOne 81 = .ok (.invokevirtual 59, 3) := by decide +kernel
theorem dX1_readOne_84 : decode cX1_readOne 84 = .ok (.ireturn, 1) := by decide +kernel
theorem dX1_readOne_85 : decode cX1_readOne 85 = .ok (.aload_n 0, 1) := by decide +kernel
theorem dX1_readOne_86 : decode cX1_readOne 86 = .ok (.getfield 25, 3) := by decide +kernel
theorem dX1_readOne_89 : decode cX1_readOne 89 = .ok (.invokevirtual 82, 3) := by decide +kernel
theorem dX1_readOne_92 : decode cX1_readOne 92 = .ok (.iload_n 2, 1) := by decide +kernel
theorem dX1_readOne_93 : decode cX1_readOne 93 = .ok (.iconst (-1), 1) := by decide +kernel
theorem dX1_readOne_94 : decode cX1_readOne 94 = .ok (.if_icmp .eq 9, 3) := by decide +kernel
theorem dX1_readOne_97 : decode cX1_readOne 97 = .ok (.aload_n 0, 1) := by decide +kernel
theorem dX1_readOne_98 : decode cX1_readOne 98 = .ok (.iload_n 2, 1) := by decide +kernel
theorem dX1_readOne_99 : decode cX1_readOne 99 = .ok (.invokevirtual 104, 3) := by decide +kernel
theorem dX1_readOne_102 : decode cX1_readOne 102 = .ok (.ireturn, 1) := by decide +kernel
theorem dX1_readOne_103 : decode cX1_readOne 103 = .ok (.iload_n 3, 1) := by decide +kernel
theorem dX1_readOne_104 : decode cX1_readOne 104 = .ok (.ifCond .ne 31, 3) := by decide +kernel
theorem dX1_readOne_107 : decode cX1_readOne 107 = .ok (.aload_n 0, 1) := by decide +kernel
theorem dX1_readOne_108 : decode cX1_readOne 108 = .ok (.iload_n 1, 1) := by decide +kernel
theorem dX1_readOne_109 : decode cX1_readOne 109 = .ok (.iconst 1, 1) := by decide +kernel
theorem dX1_readOne_110 : decode cX1_readOne 110 = .ok (.iadd, 1) := by decide +kernel
theorem dX1_readOne_111 : decode cX1_readOne 111 = .ok (.invokevirtual 66, 3) := by decide +kernel
theorem dX1_readOne_114 : decode cX1_readOne 114 = .ok (.ifCond .eq 19, 3) := by decide +kernel
theorem dX1_readOne_117 : decode cX1_readOne 117 = .ok (.aload_n 0, 1) := by decide +kernel
theorem dX1_readOne_118 : decode cX1_readOne 118 = .ok (.getfield 25, 3) := by decide +kernel
theorem dX1_readOne_121 : decode cX1_readOne 121 = .ok (.bipush 41, 2) := by decide +kernel
theorem dX1_readOne_123 : decode cX1_readOne 123 = .ok (.invokevirtual 85, 3) := by decide +kernel
theorem dX1_readOne_126 : decode cX1_readOne 126 = .ok (.ifCond .eq 7, 3) := by decide +kernel
theorem dX1_readOne_129 : decode cX1_readOne 129 = .ok (.iconst 1, 1) := by decide +kernel
theorem dX1_readOne_130 : decode cX1_readOne 130 = .ok (.goto 4, 3) := by decide +kernel
theorem dX1_readOne_133 : decode cX1_readOne 133 = .ok (.iconst 0, 1) := by decide +kernel
theorem dX1_readOne_134 : decode cX1_readOne 134 = .ok (.ireturn, 1) := by decide +kernel
theorem dX1_readOne_135 : decode cX1_readOne 135 = .ok (.aload_n 0, 1) := by decide +kernel
theorem dX1_readOne_136 : decode cX1_readOne 136 = .ok (.iload_n 1, 1) := by decide +kernel
theorem dX1_readOne_137 : decode cX1_readOne 137 = .ok (.iconst 1, 1) := by decide +kernel
theorem dX1_readOne_138 : decode cX1_readOne 138 = .ok (.iadd, 1) := by decide +kernel
theorem dX1_readOne_139 : decode cX1_readOne 139 = .ok (.invokevirtual 89, 3) := by decide +kernel
theorem dX1_readOne_142 : decode cX1_readOne 142 = .ok (.istore 4, 2) := by decide +kernel
theorem dX1_readOne_144 : decode cX1_readOne 144 = .ok (.aload_n 0, 1) := by decide +kernel
theorem dX1_readOne_145 : decode cX1_readOne 145 = .ok (.iconst 1, 1) := by decide +kernel
theorem dX1_readOne_146 : decode cX1_readOne 146 = .ok (.iconst 0, 1) := by decide +kernel
theorem dX1_readOne_147 : decode cX1_readOne 147 = .ok (.iconst 0, 1) := by decide +kernel
theorem dX1_readOne_148 : decode cX1_readOne 148 = .ok (.iconst 0, 1) := by decide +kernel
theorem dX1_readOne_149 : decode cX1_readOne 149 = .ok (.invokestatic 75, 3) := by decide +kernel
theorem dX1_readOne_152 : decode cX1_readOne 152 = .ok (.invokevirtual 79, 3) := by decide +kernel
theorem dX1_readOne_155 : decode cX1_readOne 155 = .ok (.iload 4, 2) := by decide +kernel
theorem dX1_readOne_157 : decode cX1_readOne 157 = .ok (.ireturn, 1) := by decide +kernel
def fX1_readOne_69 (kX1_readEither : Nat → Int32 → mM Int32) (kX1_readOne : Nat → Int32 → mM Int32) (l0 : Nat) (l1 : Int32) (l2 : Int32) (l3 : Int32) : mM Int32 := bIf (l1 < (6 : Int32)) (bGR 1 l0 0 (fun x1 => bCallV 4 x1 (fX4_next x1) (fun _ => bIf (l2 = (-1 : Int32)) (bIf (l3 = 0) (bCallV 1 l0 (kX1_readEither l0 (l1 + (1 : Int32))) (fun x4 => bIf (x4 = 0) (bRetZ (0 : Int32)) (bGR 1 l0 0 (fun x5 => bCallV 4 x5 (fX4_takeSign x5 (41 : Int32)) (fun x6 => bIf (x6 = 0) (bRetZ (0 : Int32)) (bRetZ (1 : Int32))))))) (bCallV 1 l0 (kX1_readOne l0 (l1 + (1 : Int32))) (fun x2 => bCall (fX0_step (1 : Int32) (0 : Int32) (0 : Int32) (0 : Int32)) (fun x3 => bCallV 1 l0 (fX1_keepStep l0 x3) (fun _ => bRetZ x2))))) (bCallV 1 l0 (fX1_readCase l0 l2) (fun x7 => bRetZ x7))))) (bGR 1 l0 0 (fun x8 => bCallV 4 x8 (fX4_refuseToken x8 (7 : Int32)) (fun x9 => bRetZ x9)))
set_option maxRecDepth 20000 in
theorem rX1_readOne_69 (v : mE) (d : Nat) (kX1_readEither : Nat → Int32 → mM Int32) (khX1_readEither : ∀ (z0 : Nat) (z1 : Int32), Mt v yX1_readEither cX1_readEither 5 (some .boolean) emI (d + 7) [vR z0, vI z1] (kX1_readEither z0 z1)) (kX1_readOne : Nat → Int32 → mM Int32) (khX1_readOne : ∀ (z0 : Nat) (z1 : Int32), Mt v yX1_readOne cX1_readOne 5 (some .boolean) emI (d + 7) [vR z0, vI z1] (kX1_readOne z0 z1)) (l0 : Nat) (l1 : Int32) (l2 : Int32) (l3 : Int32) : Rz v RX1 cX1_readOne 5 (some .boolean) false emI (d + 8) 69 [(0, vR l0), (1, vI l1), (2, vI l2), (3, vI l3)] [] (fX1_readOne_69 kX1_readEither kX1_readOne l0 l1 l2 l3) := by
  unfold fX1_readOne_69
  refine rz_iload_n 70 1 dX1_readOne_69 rfl rfl ?_
  refine rz_bipush 72 dX1_readOne_70 rfl cb_6 ?_
  refine rz_icmp_lt 85 75 dX1_readOne_72 rfl rfl ?_ ?_
  · refine rz_aload_n 86 0 dX1_readOne_85 rfl rfl ?_
    refine rz_gR 89 dX1_readOne_86 rfl rfl fl_X1_25 (fun x1 => ?_)
    refine rz_callV 92 dX1_readOne_89 rfl (tX4_next v (d + 3) x1) rfl rfl rfl rfl ml_X1_82 im_X4_next se_X4_X4_next in_X4 co_X4_next rfl rfl (fun _ => ?_)
    refine rz_iload_n 93 2 dX1_readOne_92 rfl rfl ?_
    refine rz_iconst 94 dX1_readOne_93 rfl ci_m1 ?_
    refine rz_icmp_eq 103 97 dX1_readOne_94 rfl rfl ?_ ?_
    · refine rz_iload_n 104 3 dX1_readOne_103 rfl rfl ?_
      refine rz_if_ne 135 107 dX1_readOne_104 rfl rfl ?_ ?_
      · refine rz_aload_n 136 0 dX1_readOne_135 rfl rfl ?_
        refine rz_iload_n 137 1 dX1_readOne_136 rfl rfl ?_
        refine rz_iconst 138 dX1_readOne_137 rfl ci_1 ?_
        refine rz_iadd 139 dX1_readOne_138 rfl ?_
        refine rz_callV 142 dX1_readOne_139 rfl (khX1_readOne l0 (l1 + (1 : Int32))) rfl rfl rfl rfl ml_X1_89 im_X1_readOne se_X1_X1_readOne in_X1 co_X1_readOne rfl rfl (fun x2 => ?_)
        refine rz_istore (lv' := [(4, vI x2), (0, vR l0), (1, vI l1), (2, vI l2), (3, vI l3)]) 144 dX1_readOne_142 rfl rfl rfl ?_
        refine rz_aload_n 145 1 dX1_readOne_144 rfl rfl ?_
        refine rz_iconst 146 dX1_readOne_145 rfl ci_1 ?_
        refine rz_iconst 147 dX1_readOne_146 rfl ci_0 ?_
        refine rz_iconst 148 dX1_readOne_147 rfl ci_0 ?_
        refine rz_iconst 149 dX1_readOne_148 rfl ci_0 ?_
        refine rz_callS 152 dX1_readOne_149 rfl (tX0_step v (d + 7) (1 : Int32) (0 : Int32) (0 : Int32) (0 : Int32)) rfl rfl ml_X1_75 sm_X0_step in_X0 co_X0_step rfl rfl (fun x3 => ?_)
        refine rz_callV 155 dX1_readOne_152 rfl (tX1_keepStep v (d + 7) l0 x3) rfl rfl rfl rfl ml_X1_79 im_X1_keepStep se_X1_X1_keepStep in_X1 co_X1_keepStep rfl rfl (fun _ => ?_)
        refine rz_iload 157 0 dX1_readOne_155 rfl rfl ?_
        exact rz_zreturn rfl rfl dX1_readOne_157
      · refine rz_aload_n 108 0 dX1_readOne_107 rfl rfl ?_
        refine rz_iload_n 109 1 dX1_readOne_108 rfl rfl ?_
        refine rz_iconst 110 dX1_readOne_109 rfl ci_1 ?_
        refine rz_iadd 111 dX1_readOne_110 rfl ?_
        refine rz_callV 114 dX1_readOne_111 rfl (khX1_readEither l0 (l1 + (1 : Int32))) rfl rfl rfl rfl ml_X1_66 im_X1_readEither se_X1_X1_readEither in_X1 co_X1_readEither rfl rfl (fun x4 => ?_)
        refine rz_if_eq 133 117 dX1_readOne_114 rfl rfl ?_ ?_
        · refine rz_iconst 134 dX1_readOne_133 rfl ci_0 ?_
          exact rz_zreturn rfl rfl dX1_readOne_134
        · refine rz_aload_n 118 0 dX1_readOne_117 rfl rfl ?_
          refine rz_gR 121 dX1_readOne_118 rfl rfl fl_X1_25 (fun x5 => ?_)
          refine rz_bipush 123 dX1_readOne_121 rfl cb_41 ?_
          refine rz_callV 126 dX1_readOne_123 rfl (tX4_takeSign v (d + 2) x5 (41 : Int32)) rfl rfl rfl rfl ml_X1_85 im_X4_takeSign se_X4_X4_takeSign in_X4 co_X4_takeSign rfl rfl (fun x6 => ?_)
          refine rz_if_eq 133 129 dX1_readOne_126 rfl rfl ?_ ?_
          · refine rz_iconst 134 dX1_readOne_133 rfl ci_0 ?_
            exact rz_zreturn rfl rfl dX1_readOne_134
          · refine rz_iconst 130 dX1_readOne_129 rfl ci_1 ?_
            refine rz_goto 134 dX1_readOne_130 rfl ?_
            exact rz_zreturn rfl rfl dX1_readOne_134
    · refine rz_aload_n 98 0 dX1_readOne_97 rfl rfl ?_
      refine rz_iload_n 99 2 dX1_readOne_98 rfl rfl ?_
      refine rz_callV 102 dX1_readOne_99 rfl (tX1_readCase v (d + 1) l0 l2) rfl rfl rfl rfl ml_X1_104 im_X1_readCase se_X1_X1_readCase in_X1 co_X1_readCase rfl rfl (fun x7 => ?_)
      exact rz_zreturn rfl rfl dX1_readOne_102
  · refine rz_aload_n 76 0 dX1_readOne_75 rfl rfl ?_
    refine rz_gR 79 dX1_readOne_76 rfl rfl fl_X1_25 (fun x8 => ?_)
    refine rz_bipush 81 dX1_readOne_79 rfl cb_7 ?_
    refine rz_callV 84 dX1_readOne_81 rfl (tX4_refuseToken v (d + 7) x8 (7 : Int32)) rfl rfl rfl rfl ml_X1_59 im_X4_refuseToken se_X4_X4_refuseToken in_X4 co_X4_refuseToken rfl rfl (fun x9 => ?_)
    exact rz_zreturn rfl rfl dX1_readOne_84
def fX1_readOne_45 (kX1_readEither : Nat → Int32 → mM Int32) (kX1_readOne : Nat → Int32 → mM Int32) (l0 : Nat) (l1 : Int32) (l2 : Int32) (l3 : Int32) : mM Int32 := bIf (l2 = (-1 : Int32)) (fX1_readOne_69 kX1_readEither kX1_readOne l0 l1 l2 l3) (bGI 1 l0 2 (fun x1 => bIf (x1 < (24 : Int32)) (fX1_readOne_69 kX1_readEither kX1_readOne l0 l1 l2 l3) (bGR 1 l0 0 (fun x2 => bCallV 4 x2 (fX4_refuseToken x2 (6 : Int32)) (fun x3 => bRetZ x3)))))
set_option maxRecDepth 20000 in
theorem rX1_readOne_45 (v : mE) (d : Nat) (kX1_readEither : Nat → Int32 → mM Int32) (khX1_readEither : ∀ (z0 : Nat) (z1 : Int32), Mt v yX1_readEither cX1_readEither 5 (some .boolean) emI (d + 7) [vR z0, vI z1] (kX1_readEither z0 z1)) (kX1_readOne : Nat → Int32 → mM Int32) (khX1_readOne : ∀ (z0 : Nat) (z1 : Int32), Mt v yX1_readOne cX1_readOne 5 (some .boolean) emI (d + 7) [vR z0, vI z1] (kX1_readOne z0 z1)) (l0 : Nat) (l1 : Int32) (l2 : Int32) (l3 : Int32) : Rz v RX1 cX1_readOne 5 (some .boolean) false emI (d + 8) 45 [(0, vR l0), (1, vI l1), (2, vI l2), (3, vI l3)] [] (fX1_readOne_45 kX1_readEither kX1_readOne l0 l1 l2 l3) := by
  unfold fX1_readOne_45
  refine rz_iload_n 46 2 dX1_readOne_45 rfl rfl ?_
  refine rz_iconst 47 dX1_readOne_46 rfl ci_m1 ?_
  refine rz_icmp_eq 69 50 dX1_readOne_47 rfl rfl ?_ ?_
  · exact rz_sub [0, 1, 2, 3] rfl (rX1_readOne_69 v d kX1_readEither khX1_readEither kX1_readOne khX1_readOne l0 l1 l2 l3)
  · refine rz_aload_n 51 0 dX1_readOne_50 rfl rfl ?_
    refine rz_gI 54 dX1_readOne_51 rfl rfl fl_X1_15 (fun x1 => ?_)
    refine rz_bipush 56 dX1_readOne_54 rfl cb_24 ?_
    refine rz_icmp_lt 69 59 dX1_readOne_56 rfl rfl ?_ ?_
    · exact rz_sub [0, 1, 2, 3] rfl (rX1_readOne_69 v d kX1_readEither khX1_readEither kX1_readOne khX1_readOne l0 l1 l2 l3)
    · refine rz_aload_n 60 0 dX1_readOne_59 rfl rfl ?_
      refine rz_gR 63 dX1_readOne_60 rfl rfl fl_X1_25 (fun x2 => ?_)
      refine rz_bipush 65 dX1_readOne_63 rfl cb_6 ?_
      refine rz_callV 68 dX1_readOne_65 rfl (tX4_refuseToken v (d + 7) x2 (6 : Int32)) rfl rfl rfl rfl ml_X1_59 im_X4_refuseToken se_X4_X4_refuseToken in_X4 co_X4_refuseToken rfl rfl (fun x3 => ?_)
      exact rz_zreturn rfl rfl dX1_readOne_68
def fX1_readOne (kX1_readEither : Nat → Int32 → mM Int32) (kX1_readOne : Nat → Int32 → mM Int32) (l0 : Nat) (l1 : Int32) : mM Int32 := bCallV 1 l0 (fX1_factHere l0) (fun x1 => bGR 1 l0 0 (fun x2 => bCallV 4 x2 (fX4_isWord x2 4) (fun x3 => bIf (x1 = (-1 : Int32)) (bIf (x3 = 0) (bGR 1 l0 0 (fun x4 => bCallV 4 x4 (fX4_isSign x4 (40 : Int32)) (fun x5 => bIf (x5 = 0) (bGR 1 l0 0 (fun x6 => bCallV 4 x6 (fX4_refuseToken x6 (2 : Int32)) (fun x7 => bRetZ x7))) (fX1_readOne_45 kX1_readEither kX1_readOne l0 l1 x1 x3)))) (fX1_readOne_45 kX1_readEither kX1_readOne l0 l1 x1 x3)) (fX1_readOne_45 kX1_readEither kX1_readOne l0 l1 x1 x3))))
set_option maxRecDepth 20000 in
theorem rX1_readOne (v : mE) (d : Nat) (kX1_readEither : Nat → Int32 → mM Int32) (khX1_readEither : ∀ (z0 : Nat) (z1 : Int32), Mt v yX1_readEither cX1_readEither 5 (some .boolean) emI (d + 7) [vR z0, vI z1] (kX1_readEither z0 z1)) (kX1_readOne : Nat → Int32 → mM Int32) (khX1_readOne : ∀ (z0 : Nat) (z1 : Int32), Mt v yX1_readOne cX1_readOne 5 (some .boolean) emI (d + 7) [vR z0, vI z1] (kX1_readOne z0 z1)) (l0 : Nat) (l1 : Int32) : Rz v RX1 cX1_readOne 5 (some .boolean) false emI (d + 8) 0 [(0, vR l0), (1, vI l1)] [] (fX1_readOne kX1_readEither kX1_readOne l0 l1) := by
  unfold fX1_readOne
  refine rz_aload_n 1 0 dX1_readOne_0 rfl rfl ?_
  refine rz_callV 4 dX1_readOne_1 rfl (tX1_factHere v (d + 2) l0) rfl rfl rfl rfl ml_X1_96 im_X1_factHere se_X1_X1_factHere in_X1 co_X1_factHere rfl rfl (fun x1 => ?_)
  refine rz_istore_n (lv' := [(2, vI x1), (0, vR l0), (1, vI l1)]) 5 dX1_readOne_4 rfl rfl rfl ?_
  refine rz_aload_n 6 1 dX1_readOne_5 rfl rfl ?_
  refine rz_gR 9 dX1_readOne_6 rfl rfl fl_X1_25 (fun x2 => ?_)
  refine rz_ldcS 11 4 dX1_readOne_9 rfl (by decide) rfl rfl ?_
  refine rz_callV 14 dX1_readOne_11 rfl (tX4_isWord v (d + 3) x2 4) rfl rfl rfl rfl ml_X1_55 im_X4_isWord se_X4_X4_isWord in_X4 co_X4_isWord rfl rfl (fun x3 => ?_)
  refine rz_istore_n (lv' := [(3, vI x3), (2, vI x1), (0, vR l0), (1, vI l1)]) 15 dX1_readOne_14 rfl rfl rfl ?_
  refine rz_iload_n 16 1 dX1_readOne_15 rfl rfl ?_
  refine rz_iconst 17 dX1_readOne_16 rfl ci_m1 ?_
  refine rz_icmp_ne 45 20 dX1_readOne_17 rfl rfl ?_ ?_
  · exact rz_sub [2, 3, 1, 0] rfl (rX1_readOne_45 v d kX1_readEither khX1_readEither kX1_readOne khX1_readOne l0 l1 x1 x3)
  · refine rz_iload_n 21 0 dX1_readOne_20 rfl rfl ?_
    refine rz_if_ne 45 24 dX1_readOne_21 rfl rfl ?_ ?_
    · exact rz_sub [2, 3, 1, 0] rfl (rX1_readOne_45 v d kX1_readEither khX1_readEither kX1_readOne khX1_readOne l0 l1 x1 x3)
    · refine rz_aload_n 25 2 dX1_readOne_24 rfl rfl ?_
      refine rz_gR 28 dX1_readOne_25 rfl rfl fl_X1_25 (fun x4 => ?_)
      refine rz_bipush 30 dX1_readOne_28 rfl cb_40 ?_
      refine rz_callV 33 dX1_readOne_30 rfl (tX4_isSign v (d + 7) x4 (40 : Int32)) rfl rfl rfl rfl ml_X1_101 im_X4_isSign se_X4_X4_isSign in_X4 co_X4_isSign rfl rfl (fun x5 => ?_)
      refine rz_if_ne 45 36 dX1_readOne_33 rfl rfl ?_ ?_
      · exact rz_sub [2, 3, 1, 0] rfl (rX1_readOne_45 v d kX1_readEither khX1_readEither kX1_readOne khX1_readOne l0 l1 x1 x3)
      · refine rz_aload_n 37 2 dX1_readOne_36 rfl rfl ?_
        refine rz_gR 40 dX1_readOne_37 rfl rfl fl_X1_25 (fun x6 => ?_)
        refine rz_iconst 41 dX1_readOne_40 rfl ci_2 ?_
        refine rz_callV 44 dX1_readOne_41 rfl (tX4_refuseToken v (d + 7) x6 (2 : Int32)) rfl rfl rfl rfl ml_X1_59 im_X4_refuseToken se_X4_X4_refuseToken in_X4 co_X4_refuseToken rfl rfl (fun x7 => ?_)
        exact rz_zreturn rfl rfl dX1_readOne_44
theorem dX1_readEither_0 : decode cX1_readEither 0 = .ok (.aload_n 0, 1) := by decide +kernel
theorem dX1_readEither_1 : decode cX1_readEither 1 = .ok (.iload_n 1, 1) := by decide +kernel
theorem dX1_readEither_2 : decode cX1_readEither 2 = .ok (.invokevirtual 89, 3) := by decide +kernel
theorem dX1_readEither_5 : decode cX1_readEither 5 = .ok (.istore_n 2, 1) := by decide +kernel
theorem dX1_readEither_6 : decode cX1_readEither 6 = .ok (.iconst 0, 1) := by decide +kernel
theorem dX1_readEither_7 : decode cX1_readEither 7 = .ok (.istore_n 3, 1) := by decide +kernel
theorem dX1_readEither_8 : decode cX1_readEither 8 = .ok (.iconst 0, 1) := by decide +kernel
theorem dX1_readEither_9 : decode cX1_readEither 9 = .ok (.istore 4, 2) := by decide +kernel
theorem dX1_readEither_11 : decode cX1_readEither 11 = .ok (.iload 4, 2) := by decide +kernel
theorem dX1_readEither_13 : decode cX1_readEither 13 = .ok (.sipush 300, 3) := by decide +kernel
theorem dX1_readEither_16 : decode cX1_readEither 16 = .ok (.if_icmp .ge 94, 3) := by decide +kernel
theorem dX1_readEither_19 : decode cX1_readEither 19 = .ok (.iload_n 2, 1) := by decide +kernel
theorem dX1_readEither_20 : decode cX1_readEither 20 = .ok (.ifCond .eq 90, 3) := by decide +kernel
theorem dX1_readEither_23 : decode cX1_readEither 23 = .ok (.aload_n 0, 1) := by decide +kernel
theorem dX1_readEither_24 : decode cX1_readEither 24 = .ok (.getfield 25, 3) := by decide +kernel
theorem dX1_readEither_27 : decode cX1_readEither 27 = .ok (.ldc 92, 2) := by decide +kernel
theorem dX1_readEither_29 : decode cX1_readEither 29 = .ok (.invokevirtual 55, 3) := by decide +kernel
theorem dX1_readEither_32 : decode cX1_readEither 32 = .ok (.ifCond .eq 30, 3) := by decide +kernel
theorem dX1_readEither_35 : decode cX1_readEither 35 = .ok (.aload_n 0, 1) := by decide +kernel
theorem dX1_readEither_36 : decode cX1_readEither 36 = .ok (.getfield 25, 3) := by decide +kernel
theorem dX1_readEither_39 : decode cX1_readEither 39 = .ok (.invokevirtual 82, 3) := by decide +kernel
theorem dX1_readEither_42 : decode cX1_readEither 42 = .ok (.aload_n 0, 1) := by decide +kernel
theorem dX1_readEither_43 : decode cX1_readEither 43 = .ok (.iload_n 1, 1) := by decide +kernel
theorem dX1_readEither_44 : decode cX1_readEither 44 = .ok (.invokevirtual 89, 3) := by decide +kernel
theorem dX1_readEither_47 : decode cX1_readEither 47 = .ok (.istore_n 2, 1) := by decide +kernel
theorem dX1_readEither_48 : decode cX1_readEither 48 = .ok (.aload_n 0, 1) := by decide +kernel
theorem dX1_readEither_49 : decode cX1_readEither 49 = .ok (.iconst 2, 1) := by decide +kernel
theorem dX1_readEither_50 : decode cX1_readEither 50 = .ok (.iconst 0, 1) := by decide +kernel
theorem dX1_readEither_51 : decode cX1_readEither 51 = .ok (.iconst 0, 1) := by decide +kernel
theorem dX1_readEither_52 : decode cX1_readEither 52 = .ok (.iconst 0, 1) := by decide +kernel
theorem dX1_readEither_53 : decode cX1_readEither 53 = .ok (.invokestatic 75, 3) := by decide +kernel
theorem dX1_readEither_56 : decode cX1_readEither 56 = .ok (.invokevirtual 79, 3) := by decide +kernel
theorem dX1_readEither_59 : decode cX1_readEither 59 = .ok (.goto 45, 3) := by decide +kernel
theorem dX1_readEither_62 : decode cX1_readEither 62 = .ok (.aload_n 0, 1) := by decide +kernel
theorem dX1_readEither_63 : decode cX1_readEither 63 = .ok (.getfield 25, 3) := by decide +kernel
theorem dX1_readEither_66 : decode cX1_readEither 66 = .ok (.ldc 94, 2) := by decide +kernel
theorem dX1_readEither_68 : decode cX1_readEither 68 = .ok (.invokevirtual 55, 3) := by decide +kernel
theorem dX1_readEither_71 : decode cX1_readEither 71 = .ok (.ifCond .eq 39, 3) := by decide +kernel
theorem dX1_readEither_74 : decode cX1_readEither 74 = .ok (.iload_n 3, 1) := by decide +kernel
theorem dX1_readEither_75 : decode cX1_readEither 75 = .ok (.ifCond .eq 14, 3) := by decide +kernel
theorem dX1_readEither_78 : decode cX1_readEither 78 = .ok (.aload_n 0, 1) := by decide +kernel
theorem dX1_readEither_79 : decode cX1_readEither 79 = .ok (.iconst 3, 1) := by decide +kernel
theorem dX1_readEither_80 : decode cX1_readEither 80 = .ok (.iconst 0, 1) := by decide +kernel
theorem dX1_readEither_81 : decode cX1_readEither 81 = .ok (.iconst 0, 1) := by decide +kernel
theorem dX1_readEither_82 : decode cX1_readEither 82 = .ok (.iconst 0, 1) := by decide +kernel
theorem dX1_readEither_83 : decode cX1_readEither 83 = .ok (.invokestatic 75, 3) := by decide +kernel
theorem dX1_readEither_86 : decode cX1_readEither 86 = .ok (.invokevirtual 79, 3) := by decide +kernel
theorem dX1_readEither_89 : decode cX1_readEither 89 = .ok (.iconst 1, 1) := by decide +kernel
theorem dX1_readEither_90 : decode cX1_readEither 90 = .ok (.istore_n 3, 1) := by decide +kernel
theorem dX1_readEither_91 : decode cX1_readEither 91 = .ok (.aload_n 0, 1) := by decide +kernel
theorem dX1_readEither_92 : decode cX1_readEither 92 = .ok (.getfield 25, 3) := by decide +kernel
theorem dX1_readEither_95 : decode cX1_readEither 95 = .ok (.invokevirtual 82, 3) := by decide +kernel
theorem dX1_readEither_98 : decode cX1_readEither 98 = .ok (.aload_n 0, 1) := by decide +kernel
theorem dX1_readEither_99 : decode cX1_readEither 99 = .ok (.iload_n 1, 1) := by decide +kernel
theorem dX1_readEither_100 : decode cX1_readEither 100 = .ok (.invokevirtual 89, 3) := by decide +kernel
theorem dX1_readEither_103 : decode cX1_readEither 103 = .ok (.istore_n 2, 1) := by decide +kernel
theorem dX1_readEither_104 : decode cX1_readEither 104 = .ok (.iinc 4 1, 3) := by decide +kernel
theorem dX1_readEither_107 : decode cX1_readEither 107 = .ok (.goto (-96), 3) := by decide +kernel
theorem dX1_readEither_110 : decode cX1_readEither 110 = .ok (.iload_n 3, 1) := by decide +kernel
theorem dX1_readEither_111 : decode cX1_readEither 111 = .ok (.ifCond .eq 14, 3) := by decide +kernel
theorem dX1_readEither_114 : decode cX1_readEither 114 = .ok (.aload_n 0, 1) := by decide +kernel
theorem dX1_readEither_115 : decode cX1_readEither 115 = .ok (.iconst 3, 1) := by decide +kernel
theorem dX1_readEither_116 : decode cX1_readEither 116 = .ok (.iconst 0, 1) := by decide +kernel
theorem dX1_readEither_117 : decode cX1_readEither 117 = .ok (.iconst 0, 1) := by decide +kernel
theorem dX1_readEither_118 : decode cX1_readEither 118 = .ok (.iconst 0, 1) := by decide +kernel
theorem dX1_readEither_119 : decode cX1_readEither 119 = .ok (.invokestatic 75, 3) := by decide +kernel
theorem dX1_readEither_122 : decode cX1_readEither 122 = .ok (.invokevirtual 79, 3) := by decide +kernel
theorem dX1_readEither_125 : decode cX1_readEither 125 = .ok (.iload_n 2, 1) := by decide +kernel
theorem dX1_readEither_126 : decode cX1_readEither 126 = .ok (.ireturn, 1) := by decide +kernel
def fX1_readEither_110 (kX1_readOne : Nat → Int32 → mM Int32) (l0 : Nat) (l2 : Int32) (l3 : Int32) : mM Int32 := bIf (l3 = 0) (bRetZ l2) (bCall (fX0_step (3 : Int32) (0 : Int32) (0 : Int32) (0 : Int32)) (fun x1 => bCallV 1 l0 (fX1_keepStep l0 x1) (fun _ => bRetZ l2)))
set_option maxRecDepth 20000 in
theorem rX1_readEither_110 (v : mE) (d : Nat) (kX1_readOne : Nat → Int32 → mM Int32) (khX1_readOne : ∀ (z0 : Nat) (z1 : Int32), Mt v yX1_readOne cX1_readOne 5 (some .boolean) emI (d + 7) [vR z0, vI z1] (kX1_readOne z0 z1)) (l0 : Nat) (l2 : Int32) (l3 : Int32) : Rz v RX1 cX1_readEither 5 (some .boolean) false emI (d + 8) 110 [(0, vR l0), (2, vI l2), (3, vI l3)] [] (fX1_readEither_110 kX1_readOne l0 l2 l3) := by
  unfold fX1_readEither_110
  refine rz_iload_n 111 2 dX1_readEither_110 rfl rfl ?_
  refine rz_if_eq 125 114 dX1_readEither_111 rfl rfl ?_ ?_
  · refine rz_iload_n 126 1 dX1_readEither_125 rfl rfl ?_
    exact rz_zreturn rfl rfl dX1_readEither_126
  · refine rz_aload_n 115 0 dX1_readEither_114 rfl rfl ?_
    refine rz_iconst 116 dX1_readEither_115 rfl ci_3 ?_
    refine rz_iconst 117 dX1_readEither_116 rfl ci_0 ?_
    refine rz_iconst 118 dX1_readEither_117 rfl ci_0 ?_
    refine rz_iconst 119 dX1_readEither_118 rfl ci_0 ?_
    refine rz_callS 122 dX1_readEither_119 rfl (tX0_step v (d + 7) (3 : Int32) (0 : Int32) (0 : Int32) (0 : Int32)) rfl rfl ml_X1_75 sm_X0_step in_X0 co_X0_step rfl rfl (fun x1 => ?_)
    refine rz_callV 125 dX1_readEither_122 rfl (tX1_keepStep v (d + 7) l0 x1) rfl rfl rfl rfl ml_X1_79 im_X1_keepStep se_X1_X1_keepStep in_X1 co_X1_keepStep rfl rfl (fun _ => ?_)
    refine rz_iload_n 126 1 dX1_readEither_125 rfl rfl ?_
    exact rz_zreturn rfl rfl dX1_readEither_126
def fX1_readEither_89 (kX1_readOne : Nat → Int32 → mM Int32) (r11 : Nat → Int32 → Int32 → Int32 → Int32 → mM Int32) (l0 : Nat) (l1 : Int32) (l4 : Int32) : mM Int32 := bGR 1 l0 0 (fun x1 => bCallV 4 x1 (fX4_next x1) (fun _ => bCallV 1 l0 (kX1_readOne l0 l1) (fun x2 => r11 l0 l1 x2 (1 : Int32) (l4 + 1))))
set_option maxRecDepth 20000 in
theorem rX1_readEither_89 (v : mE) (d : Nat) (kX1_readOne : Nat → Int32 → mM Int32) (khX1_readOne : ∀ (z0 : Nat) (z1 : Int32), Mt v yX1_readOne cX1_readOne 5 (some .boolean) emI (d + 7) [vR z0, vI z1] (kX1_readOne z0 z1)) (r11 : Nat → Int32 → Int32 → Int32 → Int32 → mM Int32) (h11 : ∀ (y0 : Nat) (y1 : Int32) (y2 : Int32) (y3 : Int32) (y4 : Int32), Rz v RX1 cX1_readEither 5 (some .boolean) false emI (d + 8) 11 [(0, vR y0), (1, vI y1), (2, vI y2), (3, vI y3), (4, vI y4)] [] (r11 y0 y1 y2 y3 y4)) (l0 : Nat) (l1 : Int32) (l4 : Int32) : Rz v RX1 cX1_readEither 5 (some .boolean) false emI (d + 8) 89 [(0, vR l0), (1, vI l1), (4, vI l4)] [] (fX1_readEither_89 kX1_readOne r11 l0 l1 l4) := by
  unfold fX1_readEither_89
  refine rz_iconst 90 dX1_readEither_89 rfl ci_1 ?_
  refine rz_istore_n (lv' := [(3, vI (1 : Int32)), (0, vR l0), (1, vI l1), (4, vI l4)]) 91 dX1_readEither_90 rfl rfl rfl ?_
  refine rz_aload_n 92 1 dX1_readEither_91 rfl rfl ?_
  refine rz_gR 95 dX1_readEither_92 rfl rfl fl_X1_25 (fun x1 => ?_)
  refine rz_callV 98 dX1_readEither_95 rfl (tX4_next v (d + 3) x1) rfl rfl rfl rfl ml_X1_82 im_X4_next se_X4_X4_next in_X4 co_X4_next rfl rfl (fun _ => ?_)
  refine rz_aload_n 99 1 dX1_readEither_98 rfl rfl ?_
  refine rz_iload_n 100 2 dX1_readEither_99 rfl rfl ?_
  refine rz_callV 103 dX1_readEither_100 rfl (khX1_readOne l0 l1) rfl rfl rfl rfl ml_X1_89 im_X1_readOne se_X1_X1_readOne in_X1 co_X1_readOne rfl rfl (fun x2 => ?_)
  refine rz_istore_n (lv' := [(2, vI x2), (3, vI (1 : Int32)), (0, vR l0), (1, vI l1), (4, vI l4)]) 104 dX1_readEither_103 rfl rfl rfl ?_
  refine rz_iinc (lv' := [(4, vI (l4 + 1)), (2, vI x2), (3, vI (1 : Int32)), (0, vR l0), (1, vI l1)]) 107 4 dX1_readEither_104 rfl rfl (cn_1 _) rfl rfl ?_
  refine rz_goto 11 dX1_readEither_107 rfl ?_
  exact rz_sub [3, 4, 1, 2, 0] rfl (h11 l0 l1 x2 (1 : Int32) (l4 + 1))
def fX1_readEither_11 (kX1_readOne : Nat → Int32 → mM Int32) : Nat → Nat → Int32 → Int32 → Int32 → Int32 → mM Int32
  | 0 => fun _ _ _ _ _ => fun _ => none
  | n + 1 => fun l0 l1 l2 l3 l4 => let r11 := fX1_readEither_11 kX1_readOne n; bIf ((300 : Int32) ≤ l4) (fX1_readEither_110 kX1_readOne l0 l2 l3) (bIf (l2 = 0) (fX1_readEither_110 kX1_readOne l0 l2 l3) (bGR 1 l0 0 (fun x1 => bCallV 4 x1 (fX4_isWord x1 2) (fun x2 => bIf (x2 = 0) (bGR 1 l0 0 (fun x3 => bCallV 4 x3 (fX4_isWord x3 3) (fun x4 => bIf (x4 = 0) (fX1_readEither_110 kX1_readOne l0 l2 l3) (bIf (l3 = 0) (fX1_readEither_89 kX1_readOne r11 l0 l1 l4) (bCall (fX0_step (3 : Int32) (0 : Int32) (0 : Int32) (0 : Int32)) (fun x5 => bCallV 1 l0 (fX1_keepStep l0 x5) (fun _ => fX1_readEither_89 kX1_readOne r11 l0 l1 l4))))))) (bGR 1 l0 0 (fun x6 => bCallV 4 x6 (fX4_next x6) (fun _ => bCallV 1 l0 (kX1_readOne l0 l1) (fun x7 => bCall (fX0_step (2 : Int32) (0 : Int32) (0 : Int32) (0 : Int32)) (fun x8 => bCallV 1 l0 (fX1_keepStep l0 x8) (fun _ => r11 l0 l1 x7 l3 (l4 + 1)))))))))))
theorem qX1_readEither_11 (kX1_readOne : Nat → Int32 → mM Int32) (n : Nat) (l0 : Nat) (l1 : Int32) (l2 : Int32) (l3 : Int32) (l4 : Int32) : fX1_readEither_11 kX1_readOne (n + 1) l0 l1 l2 l3 l4 = bIf ((300 : Int32) ≤ l4) (fX1_readEither_110 kX1_readOne l0 l2 l3) (bIf (l2 = 0) (fX1_readEither_110 kX1_readOne l0 l2 l3) (bGR 1 l0 0 (fun x1 => bCallV 4 x1 (fX4_isWord x1 2) (fun x2 => bIf (x2 = 0) (bGR 1 l0 0 (fun x3 => bCallV 4 x3 (fX4_isWord x3 3) (fun x4 => bIf (x4 = 0) (fX1_readEither_110 kX1_readOne l0 l2 l3) (bIf (l3 = 0) (fX1_readEither_89 kX1_readOne (fX1_readEither_11 kX1_readOne n) l0 l1 l4) (bCall (fX0_step (3 : Int32) (0 : Int32) (0 : Int32) (0 : Int32)) (fun x5 => bCallV 1 l0 (fX1_keepStep l0 x5) (fun _ => fX1_readEither_89 kX1_readOne (fX1_readEither_11 kX1_readOne n) l0 l1 l4))))))) (bGR 1 l0 0 (fun x6 => bCallV 4 x6 (fX4_next x6) (fun _ => bCallV 1 l0 (kX1_readOne l0 l1) (fun x7 => bCall (fX0_step (2 : Int32) (0 : Int32) (0 : Int32) (0 : Int32)) (fun x8 => bCallV 1 l0 (fX1_keepStep l0 x8) (fun _ => (fX1_readEither_11 kX1_readOne n) l0 l1 x7 l3 (l4 + 1))))))))))) := rfl
set_option maxRecDepth 20000 in
theorem rX1_readEither_11 (v : mE) (d : Nat) (kX1_readOne : Nat → Int32 → mM Int32) (khX1_readOne : ∀ (z0 : Nat) (z1 : Int32), Mt v yX1_readOne cX1_readOne 5 (some .boolean) emI (d + 7) [vR z0, vI z1] (kX1_readOne z0 z1)) : ∀ (n : Nat) (l0 : Nat) (l1 : Int32) (l2 : Int32) (l3 : Int32) (l4 : Int32), Rz v RX1 cX1_readEither 5 (some .boolean) false emI (d + 8) 11 [(0, vR l0), (1, vI l1), (2, vI l2), (3, vI l3), (4, vI l4)] [] (fX1_readEither_11 kX1_readOne n l0 l1 l2 l3 l4)
  | 0, _, _, _, _, _ => fun _ _ _ hm => by cases hm
  | n + 1, l0, l1, l2, l3, l4 => by
    have h11 := rX1_readEither_11 v d kX1_readOne khX1_readOne n
    unfold fX1_readEither_11
    generalize fX1_readEither_11 kX1_readOne n = r11 at h11 ⊢
    refine rz_iload 13 4 dX1_readEither_11 rfl rfl ?_
    refine rz_sipush 16 dX1_readEither_13 rfl cs_300 ?_
    refine rz_icmp_ge 110 19 dX1_readEither_16 rfl rfl ?_ ?_
    · exact rz_sub [0, 2, 3] rfl (rX1_readEither_110 v d kX1_readOne khX1_readOne l0 l2 l3)
    · refine rz_iload_n 20 2 dX1_readEither_19 rfl rfl ?_
      refine rz_if_eq 110 23 dX1_readEither_20 rfl rfl ?_ ?_
      · exact rz_sub [0, 2, 3] rfl (rX1_readEither_110 v d kX1_readOne khX1_readOne l0 l2 l3)
      · refine rz_aload_n 24 0 dX1_readEither_23 rfl rfl ?_
        refine rz_gR 27 dX1_readEither_24 rfl rfl fl_X1_25 (fun x1 => ?_)
        refine rz_ldcS 29 2 dX1_readEither_27 rfl (by decide) rfl rfl ?_
        refine rz_callV 32 dX1_readEither_29 rfl (tX4_isWord v (d + 3) x1 2) rfl rfl rfl rfl ml_X1_55 im_X4_isWord se_X4_X4_isWord in_X4 co_X4_isWord rfl rfl (fun x2 => ?_)
        refine rz_if_eq 62 35 dX1_readEither_32 rfl rfl ?_ ?_
        · refine rz_aload_n 63 0 dX1_readEither_62 rfl rfl ?_
          refine rz_gR 66 dX1_readEither_63 rfl rfl fl_X1_25 (fun x3 => ?_)
          refine rz_ldcS 68 3 dX1_readEither_66 rfl (by decide) rfl rfl ?_
          refine rz_callV 71 dX1_readEither_68 rfl (tX4_isWord v (d + 3) x3 3) rfl rfl rfl rfl ml_X1_55 im_X4_isWord se_X4_X4_isWord in_X4 co_X4_isWord rfl rfl (fun x4 => ?_)
          refine rz_if_eq 110 74 dX1_readEither_71 rfl rfl ?_ ?_
          · exact rz_sub [0, 2, 3] rfl (rX1_readEither_110 v d kX1_readOne khX1_readOne l0 l2 l3)
          · refine rz_iload_n 75 3 dX1_readEither_74 rfl rfl ?_
            refine rz_if_eq 89 78 dX1_readEither_75 rfl rfl ?_ ?_
            · exact rz_sub [0, 1, 4] rfl (rX1_readEither_89 v d kX1_readOne khX1_readOne r11 h11 l0 l1 l4)
            · refine rz_aload_n 79 0 dX1_readEither_78 rfl rfl ?_
              refine rz_iconst 80 dX1_readEither_79 rfl ci_3 ?_
              refine rz_iconst 81 dX1_readEither_80 rfl ci_0 ?_
              refine rz_iconst 82 dX1_readEither_81 rfl ci_0 ?_
              refine rz_iconst 83 dX1_readEither_82 rfl ci_0 ?_
              refine rz_callS 86 dX1_readEither_83 rfl (tX0_step v (d + 7) (3 : Int32) (0 : Int32) (0 : Int32) (0 : Int32)) rfl rfl ml_X1_75 sm_X0_step in_X0 co_X0_step rfl rfl (fun x5 => ?_)
              refine rz_callV 89 dX1_readEither_86 rfl (tX1_keepStep v (d + 7) l0 x5) rfl rfl rfl rfl ml_X1_79 im_X1_keepStep se_X1_X1_keepStep in_X1 co_X1_keepStep rfl rfl (fun _ => ?_)
              exact rz_sub [0, 1, 4] rfl (rX1_readEither_89 v d kX1_readOne khX1_readOne r11 h11 l0 l1 l4)
        · refine rz_aload_n 36 0 dX1_readEither_35 rfl rfl ?_
          refine rz_gR 39 dX1_readEither_36 rfl rfl fl_X1_25 (fun x6 => ?_)
          refine rz_callV 42 dX1_readEither_39 rfl (tX4_next v (d + 3) x6) rfl rfl rfl rfl ml_X1_82 im_X4_next se_X4_X4_next in_X4 co_X4_next rfl rfl (fun _ => ?_)
          refine rz_aload_n 43 0 dX1_readEither_42 rfl rfl ?_
          refine rz_iload_n 44 1 dX1_readEither_43 rfl rfl ?_
          refine rz_callV 47 dX1_readEither_44 rfl (khX1_readOne l0 l1) rfl rfl rfl rfl ml_X1_89 im_X1_readOne se_X1_X1_readOne in_X1 co_X1_readOne rfl rfl (fun x7 => ?_)
          refine rz_istore_n (lv' := [(2, vI x7), (0, vR l0), (1, vI l1), (3, vI l3), (4, vI l4)]) 48 dX1_readEither_47 rfl rfl rfl ?_
          refine rz_aload_n 49 1 dX1_readEither_48 rfl rfl ?_
          refine rz_iconst 50 dX1_readEither_49 rfl ci_2 ?_
          refine rz_iconst 51 dX1_readEither_50 rfl ci_0 ?_
          refine rz_iconst 52 dX1_readEither_51 rfl ci_0 ?_
          refine rz_iconst 53 dX1_readEither_52 rfl ci_0 ?_
          refine rz_callS 56 dX1_readEither_53 rfl (tX0_step v (d + 7) (2 : Int32) (0 : Int32) (0 : Int32) (0 : Int32)) rfl rfl ml_X1_75 sm_X0_step in_X0 co_X0_step rfl rfl (fun x8 => ?_)
          refine rz_callV 59 dX1_readEither_56 rfl (tX1_keepStep v (d + 7) l0 x8) rfl rfl rfl rfl ml_X1_79 im_X1_keepStep se_X1_X1_keepStep in_X1 co_X1_keepStep rfl rfl (fun _ => ?_)
          refine rz_goto 104 dX1_readEither_59 rfl ?_
          refine rz_iinc (lv' := [(4, vI (l4 + 1)), (2, vI x7), (0, vR l0), (1, vI l1), (3, vI l3)]) 107 4 dX1_readEither_104 rfl rfl (cn_1 _) rfl rfl ?_
          refine rz_goto 11 dX1_readEither_107 rfl ?_
          exact rz_sub [2, 3, 1, 4, 0] rfl (h11 l0 l1 x7 l3 (l4 + 1))
def fX1_readEither (kX1_readOne : Nat → Int32 → mM Int32) (l0 : Nat) (l1 : Int32) : mM Int32 := bCallV 1 l0 (kX1_readOne l0 l1) (fun x1 => fX1_readEither_11 kX1_readOne fu l0 l1 x1 (0 : Int32) (0 : Int32))
set_option maxRecDepth 20000 in
theorem rX1_readEither (v : mE) (d : Nat) (kX1_readOne : Nat → Int32 → mM Int32) (khX1_readOne : ∀ (z0 : Nat) (z1 : Int32), Mt v yX1_readOne cX1_readOne 5 (some .boolean) emI (d + 7) [vR z0, vI z1] (kX1_readOne z0 z1)) (l0 : Nat) (l1 : Int32) : Rz v RX1 cX1_readEither 5 (some .boolean) false emI (d + 8) 0 [(0, vR l0), (1, vI l1)] [] (fX1_readEither kX1_readOne l0 l1) := by
  unfold fX1_readEither
  refine rz_aload_n 1 0 dX1_readEither_0 rfl rfl ?_
  refine rz_iload_n 2 1 dX1_readEither_1 rfl rfl ?_
  refine rz_callV 5 dX1_readEither_2 rfl (khX1_readOne l0 l1) rfl rfl rfl rfl ml_X1_89 im_X1_readOne se_X1_X1_readOne in_X1 co_X1_readOne rfl rfl (fun x1 => ?_)
  refine rz_istore_n (lv' := [(2, vI x1), (0, vR l0), (1, vI l1)]) 6 dX1_readEither_5 rfl rfl rfl ?_
  refine rz_iconst 7 dX1_readEither_6 rfl ci_0 ?_
  refine rz_istore_n (lv' := [(3, vI (0 : Int32)), (2, vI x1), (0, vR l0), (1, vI l1)]) 8 dX1_readEither_7 rfl rfl rfl ?_
  refine rz_iconst 9 dX1_readEither_8 rfl ci_0 ?_
  refine rz_istore (lv' := [(4, vI (0 : Int32)), (3, vI (0 : Int32)), (2, vI x1), (0, vR l0), (1, vI l1)]) 11 dX1_readEither_9 rfl rfl rfl ?_
  exact rz_sub [3, 4, 2, 1, 0] rfl (rX1_readEither_11 v d kX1_readOne khX1_readOne fu l0 l1 x1 (0 : Int32) (0 : Int32))
def gX1 : Nat → (Nat → Int32 → mM Int32) × (Nat → Int32 → mM Int32)
  | 0 => ((fun _ _ => fun _ => none), (fun _ _ => fun _ => none))
  | n + 1 => (fX1_readEither (gX1 n).2, fX1_readOne (gX1 n).1 (gX1 n).2)
theorem gX1_ok (v : mE) (d : Nat) : ∀ n : Nat, (∀ (z0 : Nat) (z1 : Int32), Mt v yX1_readEither cX1_readEither 5 (some .boolean) emI (d + n + 7) [vR z0, vI z1] ((gX1 n).1 z0 z1)) ∧ (∀ (z0 : Nat) (z1 : Int32), Mt v yX1_readOne cX1_readOne 5 (some .boolean) emI (d + n + 7) [vR z0, vI z1] ((gX1 n).2 z0 z1))
  | 0 => ⟨(fun _ _ => (fun _ _ _ hm => by cases hm)), (fun _ _ => (fun _ _ _ hm => by cases hm))⟩
  | n + 1 => by
    obtain ⟨khX1_readEither, khX1_readOne⟩ := gX1_ok v d n
    exact ⟨(fun z0 z1 => mt_of rfl rfl (fun h => by cases h) rfl rfl (rX1_readEither v (d + n) _ khX1_readOne z0 z1)), (fun z0 z1 => mt_of rfl rfl (fun h => by cases h) rfl rfl (rX1_readOne v (d + n) _ khX1_readEither _ khX1_readOne z0 z1))⟩
def wX1_readEither (l0 : Nat) (l1 : Int32) : mM Int32 := (gX1 24).1 l0 l1
theorem uX1_readEither (v : mE) (d : Nat) (l0 : Nat) (l1 : Int32) : Mt v yX1_readEither cX1_readEither 5 (some .boolean) emI (d + 32) [vR l0, vI l1] (wX1_readEither l0 l1) := ((gX1_ok v (d + 1) 24).1 l0 l1)
def wX1_readOne (l0 : Nat) (l1 : Int32) : mM Int32 := (gX1 24).2 l0 l1
theorem uX1_readOne (v : mE) (d : Nat) (l0 : Nat) (l1 : Int32) : Mt v yX1_readOne cX1_readOne 5 (some .boolean) emI (d + 32) [vR l0, vI l1] (wX1_readOne l0 l1) := ((gX1_ok v (d + 1) 24).2 l0 l1)
theorem dX1_whomHere_0 : decode cX1_whomHere 0 = .ok (.aload_n 0, 1) := by decide +kernel
theorem dX1_whomHere_1 : decode cX1_whomHere 1 = .ok (.getfield 25, 3) := by decide +kernel
theorem dX1_whomHere_4 : decode cX1_whomHere 4 = .ok (.ldc 133, 2) := by decide +kernel
theorem dX1_whomHere_6 : decode cX1_whomHere 6 = .ok (.invokevirtual 55, 3) := by decide +kernel
theorem dX1_whomHere_9 : decode cX1_whomHere 9 = .ok (.ifCond .eq 5, 3) := by decide +kernel
theorem dX1_whomHere_12 : decode cX1_whomHere 12 = .ok (.iconst 0, 1) := by decide +kernel
theorem dX1_whomHere_13 : decode cX1_whomHere 13 = .ok (.ireturn, 1) := by decide +kernel
theorem dX1_whomHere_14 : decode cX1_whomHere 14 = .ok (.aload_n 0, 1) := by decide +kernel
theorem dX1_whomHere_15 : decode cX1_whomHere 15 = .ok (.getfield 25, 3) := by decide +kernel
theorem dX1_whomHere_18 : decode cX1_whomHere 18 = .ok (.ldc 135, 2) := by decide +kernel
theorem dX1_whomHere_20 : decode cX1_whomHere 20 = .ok (.invokevirtual 55, 3) := by decide +kernel
theorem dX1_whomHere_23 : decode cX1_whomHere 23 = .ok (.ifCond .eq 5, 3) := by decide +kernel
theorem dX1_whomHere_26 : decode cX1_whomHere 26 = .ok (.iconst 1, 1) := by decide +kernel
theorem dX1_whomHere_27 : decode cX1_whomHere 27 = .ok (.ireturn, 1) := by decide +kernel
theorem dX1_whomHere_28 : decode cX1_whomHere 28 = .ok (.aload_n 0, 1) := by decide +kernel
theorem dX1_whomHere_29 : decode cX1_whomHere 29 = .ok (.getfield 25, 3) := by decide +kernel
theorem dX1_whomHere_32 : decode cX1_whomHere 32 = .ok (.ldc 137, 2) := by decide +kernel
theorem dX1_whomHere_34 : decode cX1_whomHere 34 = .ok (.invokevirtual 55, 3) := by decide +kernel
theorem dX1_whomHere_37 : decode cX1_whomHere 37 = .ok (.ifCond .eq 5, 3) := by decide +kernel
theorem dX1_whomHere_40 : decode cX1_whomHere 40 = .ok (.iconst 2, 1) := by decide +kernel
theorem dX1_whomHere_41 : decode cX1_whomHere 41 = .ok (.ireturn, 1) := by decide +kernel
theorem dX1_whomHere_42 : decode cX1_whomHere 42 = .ok (.aload_n 0, 1) := by decide +kernel
theorem dX1_whomHere_43 : decode cX1_whomHere 43 = .ok (.getfield 25, 3) := by decide +kernel
theorem dX1_whomHere_46 : decode cX1_whomHere 46 = .ok (.ldc 139, 2) := by decide +kernel
theorem dX1_whomHere_48 : decode cX1_whomHere 48 = .ok (.invokevirtual 55, 3) := by decide +kernel
theorem dX1_whomHere_51 : decode cX1_whomHere 51 = .ok (.ifCond .eq 5, 3) := by decide +kernel
theorem dX1_whomHere_54 : decode cX1_whomHere 54 = .ok (.iconst 3, 1) := by decide +kernel
theorem dX1_whomHere_55 : decode cX1_whomHere 55 = .ok (.ireturn, 1) := by decide +kernel
theorem dX1_whomHere_56 : decode cX1_whomHere 56 = .ok (.aload_n 0, 1) := by decide +kernel
theorem dX1_whomHere_57 : decode cX1_whomHere 57 = .ok (.getfield 25, 3) := by decide +kernel
theorem dX1_whomHere_60 : decode cX1_whomHere 60 = .ok (.ldc 141, 2) := by decide +kernel
theorem dX1_whomHere_62 : decode cX1_whomHere 62 = .ok (.invokevirtual 55, 3) := by decide +kernel
theorem dX1_whomHere_65 : decode cX1_whomHere 65 = .ok (.ifCond .eq 7, 3) := by decide +kernel
theorem dX1_whomHere_68 : decode cX1_whomHere 68 = .ok (.iconst 4, 1) := by decide +kernel
theorem dX1_whomHere_69 : decode cX1_whomHere 69 = .ok (.goto 4, 3) := by decide +kernel
theorem dX1_whomHere_72 : decode cX1_whomHere 72 = .ok (.iconst (-1), 1) := by decide +kernel
theorem dX1_whomHere_73 : decode cX1_whomHere 73 = .ok (.ireturn, 1) := by decide +kernel
def fX1_whomHere (l0 : Nat) : mM Int32 := bGR 1 l0 0 (fun x1 => bCallV 4 x1 (fX4_isWord x1 13) (fun x2 => bIf (x2 = 0) (bGR 1 l0 0 (fun x3 => bCallV 4 x3 (fX4_isWord x3 14) (fun x4 => bIf (x4 = 0) (bGR 1 l0 0 (fun x5 => bCallV 4 x5 (fX4_isWord x5 15) (fun x6 => bIf (x6 = 0) (bGR 1 l0 0 (fun x7 => bCallV 4 x7 (fX4_isWord x7 16) (fun x8 => bIf (x8 = 0) (bGR 1 l0 0 (fun x9 => bCallV 4 x9 (fX4_isWord x9 17) (fun x10 => bIf (x10 = 0) (bRet (-1 : Int32)) (bRet (4 : Int32))))) (bRet (3 : Int32))))) (bRet (2 : Int32))))) (bRet (1 : Int32))))) (bRet (0 : Int32))))
set_option maxRecDepth 20000 in
theorem rX1_whomHere (v : mE) (d : Nat) (l0 : Nat) : Rz v RX1 cX1_whomHere 1 (some .int) false emI (d + 5) 0 [(0, vR l0)] [] (fX1_whomHere l0) := by
  unfold fX1_whomHere
  refine rz_aload_n 1 0 dX1_whomHere_0 rfl rfl ?_
  refine rz_gR 4 dX1_whomHere_1 rfl rfl fl_X1_25 (fun x1 => ?_)
  refine rz_ldcS 6 13 dX1_whomHere_4 rfl (by decide) rfl rfl ?_
  refine rz_callV 9 dX1_whomHere_6 rfl (tX4_isWord v (d + 0) x1 13) rfl rfl rfl rfl ml_X1_55 im_X4_isWord se_X4_X4_isWord in_X4 co_X4_isWord rfl rfl (fun x2 => ?_)
  refine rz_if_eq 14 12 dX1_whomHere_9 rfl rfl ?_ ?_
  · refine rz_aload_n 15 0 dX1_whomHere_14 rfl rfl ?_
    refine rz_gR 18 dX1_whomHere_15 rfl rfl fl_X1_25 (fun x3 => ?_)
    refine rz_ldcS 20 14 dX1_whomHere_18 rfl (by decide) rfl rfl ?_
    refine rz_callV 23 dX1_whomHere_20 rfl (tX4_isWord v (d + 0) x3 14) rfl rfl rfl rfl ml_X1_55 im_X4_isWord se_X4_X4_isWord in_X4 co_X4_isWord rfl rfl (fun x4 => ?_)
    refine rz_if_eq 28 26 dX1_whomHere_23 rfl rfl ?_ ?_
    · refine rz_aload_n 29 0 dX1_whomHere_28 rfl rfl ?_
      refine rz_gR 32 dX1_whomHere_29 rfl rfl fl_X1_25 (fun x5 => ?_)
      refine rz_ldcS 34 15 dX1_whomHere_32 rfl (by decide) rfl rfl ?_
      refine rz_callV 37 dX1_whomHere_34 rfl (tX4_isWord v (d + 0) x5 15) rfl rfl rfl rfl ml_X1_55 im_X4_isWord se_X4_X4_isWord in_X4 co_X4_isWord rfl rfl (fun x6 => ?_)
      refine rz_if_eq 42 40 dX1_whomHere_37 rfl rfl ?_ ?_
      · refine rz_aload_n 43 0 dX1_whomHere_42 rfl rfl ?_
        refine rz_gR 46 dX1_whomHere_43 rfl rfl fl_X1_25 (fun x7 => ?_)
        refine rz_ldcS 48 16 dX1_whomHere_46 rfl (by decide) rfl rfl ?_
        refine rz_callV 51 dX1_whomHere_48 rfl (tX4_isWord v (d + 0) x7 16) rfl rfl rfl rfl ml_X1_55 im_X4_isWord se_X4_X4_isWord in_X4 co_X4_isWord rfl rfl (fun x8 => ?_)
        refine rz_if_eq 56 54 dX1_whomHere_51 rfl rfl ?_ ?_
        · refine rz_aload_n 57 0 dX1_whomHere_56 rfl rfl ?_
          refine rz_gR 60 dX1_whomHere_57 rfl rfl fl_X1_25 (fun x9 => ?_)
          refine rz_ldcS 62 17 dX1_whomHere_60 rfl (by decide) rfl rfl ?_
          refine rz_callV 65 dX1_whomHere_62 rfl (tX4_isWord v (d + 0) x9 17) rfl rfl rfl rfl ml_X1_55 im_X4_isWord se_X4_X4_isWord in_X4 co_X4_isWord rfl rfl (fun x10 => ?_)
          refine rz_if_eq 72 68 dX1_whomHere_65 rfl rfl ?_ ?_
          · refine rz_iconst 73 dX1_whomHere_72 rfl ci_m1 ?_
            exact rz_ireturn rfl rfl dX1_whomHere_73
          · refine rz_iconst 69 dX1_whomHere_68 rfl ci_4 ?_
            refine rz_goto 73 dX1_whomHere_69 rfl ?_
            exact rz_ireturn rfl rfl dX1_whomHere_73
        · refine rz_iconst 55 dX1_whomHere_54 rfl ci_3 ?_
          exact rz_ireturn rfl rfl dX1_whomHere_55
      · refine rz_iconst 41 dX1_whomHere_40 rfl ci_2 ?_
        exact rz_ireturn rfl rfl dX1_whomHere_41
    · refine rz_iconst 27 dX1_whomHere_26 rfl ci_1 ?_
      exact rz_ireturn rfl rfl dX1_whomHere_27
  · refine rz_iconst 13 dX1_whomHere_12 rfl ci_0 ?_
    exact rz_ireturn rfl rfl dX1_whomHere_13
theorem tX1_whomHere (v : mE) (d : Nat) (l0 : Nat) : Mt v yX1_whomHere cX1_whomHere 1 (some .int) emI (d + 5) [vR l0] (fX1_whomHere l0) := mt_of rfl rfl (fun h => by cases h) rfl rfl (rX1_whomHere v d l0)
theorem dX1_readRule_0 : decode cX1_readRule 0 = .ok (.aload_n 0, 1) := by decide +kernel
theorem dX1_readRule_1 : decode cX1_readRule 1 = .ok (.getfield 25, 3) := by decide +kernel
theorem dX1_readRule_4 : decode cX1_readRule 4 = .ok (.ldc 53, 2) := by decide +kernel
theorem dX1_readRule_6 : decode cX1_readRule 6 = .ok (.invokevirtual 55, 3) := by decide +kernel
theorem dX1_readRule_9 : decode cX1_readRule 9 = .ok (.ifCond .eq 22, 3) := by decide +kernel
theorem dX1_readRule_12 : decode cX1_readRule 12 = .ok (.aload_n 0, 1) := by decide +kernel
theorem dX1_readRule_13 : decode cX1_readRule 13 = .ok (.getfield 9, 3) := by decide +kernel
theorem dX1_readRule_16 : decode cX1_readRule 16 = .ok (.bipush 12, 2) := by decide +kernel
theorem dX1_readRule_18 : decode cX1_readRule 18 = .ok (.if_icmp .lt 13, 3) := by decide +kernel
theorem dX1_readRule_21 : decode cX1_readRule 21 = .ok (.aload_n 0, 1) := by decide +kernel
theorem dX1_readRule_22 : decode cX1_readRule 22 = .ok (.getfield 25, 3) := by decide +kernel
theorem dX1_readRule_25 : decode cX1_readRule 25 = .ok (.bipush 6, 2) := by decide +kernel
theorem dX1_readRule_27 : decode cX1_readRule 27 = .ok (.invokevirtual 59, 3) := by decide +kernel
theorem dX1_readRule_30 : decode cX1_readRule 30 = .ok (.ireturn, 1) := by decide +kernel
theorem dX1_readRule_31 : decode cX1_readRule 31 = .ok (.aload_n 0, 1) := by decide +kernel
theorem dX1_readRule_32 : decode cX1_readRule 32 = .ok (.getfield 25, 3) := by decide +kernel
theorem dX1_readRule_35 : decode cX1_readRule 35 = .ok (.ldc 53, 2) := by decide +kernel
theorem dX1_readRule_37 : decode cX1_readRule 37 = .ok (.invokevirtual 63, 3) := by decide +kernel
theorem dX1_readRule_40 : decode cX1_readRule 40 = .ok (.ifCond .eq 23, 3) := by decide +kernel
theorem dX1_readRule_43 : decode cX1_readRule 43 = .ok (.aload_n 0, 1) := by decide +kernel
theorem dX1_readRule_44 : decode cX1_readRule 44 = .ok (.iconst 0, 1) := by decide +kernel
theorem dX1_readRule_45 : decode cX1_readRule 45 = .ok (.invokevirtual 66, 3) := by decide +kernel
theorem dX1_readRule_48 : decode cX1_readRule 48 = .ok (.ifCond .eq 15, 3) := by decide +kernel
theorem dX1_readRule_51 : decode cX1_readRule 51 = .ok (.aload_n 0, 1) := by decide +kernel
theorem dX1_readRule_52 : decode cX1_readRule 52 = .ok (.getfield 25, 3) := by decide +kernel
theorem dX1_readRule_55 : decode cX1_readRule 55 = .ok (.ldc 69, 2) := by decide +kernel
theorem dX1_readRule_57 : decode cX1_readRule 57 = .ok (.invokevirtual 63, 3) := by decide +kernel
theorem dX1_readRule_60 : decode cX1_readRule 60 = .ok (.ifCond .ne 5, 3) := by decide +kernel
theorem dX1_readRule_63 : decode cX1_readRule 63 = .ok (.iconst 0, 1) := by decide +kernel
theorem dX1_readRule_64 : decode cX1_readRule 64 = .ok (.ireturn, 1) := by decide +kernel
theorem dX1_readRule_65 : decode cX1_readRule 65 = .ok (.aload_n 0, 1) := by decide +kernel
theorem dX1_readRule_66 : decode cX1_readRule 66 = .ok (.invokevirtual 71, 3) := by decide +kernel
theorem dX1_readRule_69 : decode cX1_readRule 69 = .ok (.istore_n 1, 1) := by decide +kernel
theorem dX1_readRule_70 : decode cX1_readRule 70 = .ok (.iload_n 1, 1) := by decide +kernel
theorem dX1_readRule_71 : decode cX1_readRule 71 = .ok (.iconst (-1), 1) := by decide +kernel
theorem dX1_readRule_72 : decode cX1_readRule 72 = .ok (.if_icmp .ne 12, 3) := by decide +kernel
theorem dX1_readRule_75 : decode cX1_readRule 75 = .ok (.aload_n 0, 1) := by decide +kernel
theorem dX1_readRule_76 : decode cX1_readRule 76 = .ok (.getfield 25, 3) := by decide +kernel
theorem dX1_readRule_79 : decode cX1_readRule 79 = .ok (.iconst 2, 1) := by decide +kernel
theorem dX1_readRule_80 : decode cX1_readRule 80 = .ok (.invokevirtual 59, 3) := by decide +kernel
theorem dX1_readRule_83 : decode cX1_readRule 83 = .ok (.ireturn, 1) := by decide +kernel
theorem dX1_readRule_84 : decode cX1_readRule 84 = .ok (.aload_n 0, 1) := by decide +kernel
theorem dX1_readRule_85 : decode cX1_readRule 85 = .ok (.iconst 4, 1) := by decide +kernel
theorem dX1_readRule_86 : decode cX1_readRule 86 = .ok (.iload_n 1, 1) := by decide +kernel
theorem dX1_readRule_87 : decode cX1_readRule 87 = .ok (.iconst 0, 1) := by decide +kernel
theorem dX1_readRule_88 : decode cX1_readRule 88 = .ok (.iconst 0, 1) := by decide +kernel
theorem dX1_readRule_89 : decode cX1_readRule 89 = .ok (.invokestatic 75, 3) := by decide +kernel
theorem dX1_readRule_92 : decode cX1_readRule 92 = .ok (.invokevirtual 79, 3) := by decide +kernel
theorem dX1_readRule_95 : decode cX1_readRule 95 = .ok (.aload_n 0, 1) := by decide +kernel
theorem dX1_readRule_96 : decode cX1_readRule 96 = .ok (.dup, 1) := by decide +kernel
theorem dX1_readRule_97 : decode cX1_readRule 97 = .ok (.getfield 9, 3) := by decide +kernel
theorem dX1_readRule_100 : decode cX1_readRule 100 = .ok (.iconst 1, 1) := by decide +kernel
theorem dX1_readRule_101 : decode cX1_readRule 101 = .ok (.iadd, 1) := by decide +kernel
theorem dX1_readRule_102 : decode cX1_readRule 102 = .ok (.putfield 9, 3) := by decide +kernel
theorem dX1_readRule_105 : decode cX1_readRule 105 = .ok (.aload_n 0, 1) := by decide +kernel
theorem dX1_readRule_106 : decode cX1_readRule 106 = .ok (.getfield 25, 3) := by decide +kernel
theorem dX1_readRule_109 : decode cX1_readRule 109 = .ok (.invokevirtual 82, 3) := by decide +kernel
theorem dX1_readRule_112 : decode cX1_readRule 112 = .ok (.aload_n 0, 1) := by decide +kernel
theorem dX1_readRule_113 : decode cX1_readRule 113 = .ok (.getfield 25, 3) := by decide +kernel
theorem dX1_readRule_116 : decode cX1_readRule 116 = .ok (.bipush 59, 2) := by decide +kernel
theorem dX1_readRule_118 : decode cX1_readRule 118 = .ok (.invokevirtual 85, 3) := by decide +kernel
theorem dX1_readRule_121 : decode cX1_readRule 121 = .ok (.ireturn, 1) := by decide +kernel
def fX1_readRule_31 (l0 : Nat) : mM Int32 := bGR 1 l0 0 (fun x1 => bCallV 4 x1 (fX4_takeWord x1 0) (fun x2 => bIf (x2 = 0) (bRetZ (0 : Int32)) (bCallV 1 l0 (wX1_readEither l0 (0 : Int32)) (fun x3 => bIf (x3 = 0) (bRetZ (0 : Int32)) (bGR 1 l0 0 (fun x4 => bCallV 4 x4 (fX4_takeWord x4 1) (fun x5 => bIf (x5 = 0) (bRetZ (0 : Int32)) (bCallV 1 l0 (fX1_whomHere l0) (fun x6 => bIf (x6 = (-1 : Int32)) (bGR 1 l0 0 (fun x12 => bCallV 4 x12 (fX4_refuseToken x12 (2 : Int32)) (fun x13 => bRetZ x13))) (bCall (fX0_step (4 : Int32) x6 (0 : Int32) (0 : Int32)) (fun x7 => bCallV 1 l0 (fX1_keepStep l0 x7) (fun _ => bGI 1 l0 1 (fun x8 => bPI 1 l0 1 (x8 + (1 : Int32)) (bGR 1 l0 0 (fun x9 => bCallV 4 x9 (fX4_next x9) (fun _ => bGR 1 l0 0 (fun x10 => bCallV 4 x10 (fX4_takeSign x10 (59 : Int32)) (fun x11 => bRetZ x11))))))))))))))))))
set_option maxRecDepth 20000 in
theorem rX1_readRule_31 (v : mE) (d : Nat) (l0 : Nat) : Rz v RX1 cX1_readRule 2 (some .boolean) false emI (d + 33) 31 [(0, vR l0)] [] (fX1_readRule_31 l0) := by
  unfold fX1_readRule_31
  refine rz_aload_n 32 0 dX1_readRule_31 rfl rfl ?_
  refine rz_gR 35 dX1_readRule_32 rfl rfl fl_X1_25 (fun x1 => ?_)
  refine rz_ldcS 37 0 dX1_readRule_35 rfl (by decide) rfl rfl ?_
  refine rz_callV 40 dX1_readRule_37 rfl (tX4_takeWord v (d + 27) x1 0) rfl rfl rfl rfl ml_X1_63 im_X4_takeWord se_X4_X4_takeWord in_X4 co_X4_takeWord rfl rfl (fun x2 => ?_)
  refine rz_if_eq 63 43 dX1_readRule_40 rfl rfl ?_ ?_
  · refine rz_iconst 64 dX1_readRule_63 rfl ci_0 ?_
    exact rz_zreturn rfl rfl dX1_readRule_64
  · refine rz_aload_n 44 0 dX1_readRule_43 rfl rfl ?_
    refine rz_iconst 45 dX1_readRule_44 rfl ci_0 ?_
    refine rz_callV 48 dX1_readRule_45 rfl (uX1_readEither v (d + 0) l0 (0 : Int32)) rfl rfl rfl rfl ml_X1_66 im_X1_readEither se_X1_X1_readEither in_X1 co_X1_readEither rfl rfl (fun x3 => ?_)
    refine rz_if_eq 63 51 dX1_readRule_48 rfl rfl ?_ ?_
    · refine rz_iconst 64 dX1_readRule_63 rfl ci_0 ?_
      exact rz_zreturn rfl rfl dX1_readRule_64
    · refine rz_aload_n 52 0 dX1_readRule_51 rfl rfl ?_
      refine rz_gR 55 dX1_readRule_52 rfl rfl fl_X1_25 (fun x4 => ?_)
      refine rz_ldcS 57 1 dX1_readRule_55 rfl (by decide) rfl rfl ?_
      refine rz_callV 60 dX1_readRule_57 rfl (tX4_takeWord v (d + 27) x4 1) rfl rfl rfl rfl ml_X1_63 im_X4_takeWord se_X4_X4_takeWord in_X4 co_X4_takeWord rfl rfl (fun x5 => ?_)
      refine rz_if_ne 65 63 dX1_readRule_60 rfl rfl ?_ ?_
      · refine rz_aload_n 66 0 dX1_readRule_65 rfl rfl ?_
        refine rz_callV 69 dX1_readRule_66 rfl (tX1_whomHere v (d + 27) l0) rfl rfl rfl rfl ml_X1_71 im_X1_whomHere se_X1_X1_whomHere in_X1 co_X1_whomHere rfl rfl (fun x6 => ?_)
        refine rz_istore_n (lv' := [(1, vI x6), (0, vR l0)]) 70 dX1_readRule_69 rfl rfl rfl ?_
        refine rz_iload_n 71 0 dX1_readRule_70 rfl rfl ?_
        refine rz_iconst 72 dX1_readRule_71 rfl ci_m1 ?_
        refine rz_icmp_ne 84 75 dX1_readRule_72 rfl rfl ?_ ?_
        · refine rz_aload_n 85 1 dX1_readRule_84 rfl rfl ?_
          refine rz_iconst 86 dX1_readRule_85 rfl ci_4 ?_
          refine rz_iload_n 87 0 dX1_readRule_86 rfl rfl ?_
          refine rz_iconst 88 dX1_readRule_87 rfl ci_0 ?_
          refine rz_iconst 89 dX1_readRule_88 rfl ci_0 ?_
          refine rz_callS 92 dX1_readRule_89 rfl (tX0_step v (d + 32) (4 : Int32) x6 (0 : Int32) (0 : Int32)) rfl rfl ml_X1_75 sm_X0_step in_X0 co_X0_step rfl rfl (fun x7 => ?_)
          refine rz_callV 95 dX1_readRule_92 rfl (tX1_keepStep v (d + 32) l0 x7) rfl rfl rfl rfl ml_X1_79 im_X1_keepStep se_X1_X1_keepStep in_X1 co_X1_keepStep rfl rfl (fun _ => ?_)
          refine rz_aload_n 96 1 dX1_readRule_95 rfl rfl ?_
          refine rz_dup 97 dX1_readRule_96 rfl rfl ?_
          refine rz_gI 100 dX1_readRule_97 rfl rfl fl_X1_9 (fun x8 => ?_)
          refine rz_iconst 101 dX1_readRule_100 rfl ci_1 ?_
          refine rz_iadd 102 dX1_readRule_101 rfl ?_
          refine rz_pI 105 dX1_readRule_102 rfl rfl rfl rfl fl_X1_9 ?_
          refine rz_aload_n 106 1 dX1_readRule_105 rfl rfl ?_
          refine rz_gR 109 dX1_readRule_106 rfl rfl fl_X1_25 (fun x9 => ?_)
          refine rz_callV 112 dX1_readRule_109 rfl (tX4_next v (d + 28) x9) rfl rfl rfl rfl ml_X1_82 im_X4_next se_X4_X4_next in_X4 co_X4_next rfl rfl (fun _ => ?_)
          refine rz_aload_n 113 1 dX1_readRule_112 rfl rfl ?_
          refine rz_gR 116 dX1_readRule_113 rfl rfl fl_X1_25 (fun x10 => ?_)
          refine rz_bipush 118 dX1_readRule_116 rfl cb_59 ?_
          refine rz_callV 121 dX1_readRule_118 rfl (tX4_takeSign v (d + 27) x10 (59 : Int32)) rfl rfl rfl rfl ml_X1_85 im_X4_takeSign se_X4_X4_takeSign in_X4 co_X4_takeSign rfl rfl (fun x11 => ?_)
          exact rz_zreturn rfl rfl dX1_readRule_121
        · refine rz_aload_n 76 1 dX1_readRule_75 rfl rfl ?_
          refine rz_gR 79 dX1_readRule_76 rfl rfl fl_X1_25 (fun x12 => ?_)
          refine rz_iconst 80 dX1_readRule_79 rfl ci_2 ?_
          refine rz_callV 83 dX1_readRule_80 rfl (tX4_refuseToken v (d + 32) x12 (2 : Int32)) rfl rfl rfl rfl ml_X1_59 im_X4_refuseToken se_X4_X4_refuseToken in_X4 co_X4_refuseToken rfl rfl (fun x13 => ?_)
          exact rz_zreturn rfl rfl dX1_readRule_83
      · refine rz_iconst 64 dX1_readRule_63 rfl ci_0 ?_
        exact rz_zreturn rfl rfl dX1_readRule_64
def fX1_readRule (l0 : Nat) : mM Int32 := bGR 1 l0 0 (fun x1 => bCallV 4 x1 (fX4_isWord x1 0) (fun x2 => bIf (x2 = 0) (fX1_readRule_31 l0) (bGI 1 l0 1 (fun x3 => bIf (x3 < (12 : Int32)) (fX1_readRule_31 l0) (bGR 1 l0 0 (fun x4 => bCallV 4 x4 (fX4_refuseToken x4 (6 : Int32)) (fun x5 => bRetZ x5)))))))
set_option maxRecDepth 20000 in
theorem rX1_readRule (v : mE) (d : Nat) (l0 : Nat) : Rz v RX1 cX1_readRule 2 (some .boolean) false emI (d + 33) 0 [(0, vR l0)] [] (fX1_readRule l0) := by
  unfold fX1_readRule
  refine rz_aload_n 1 0 dX1_readRule_0 rfl rfl ?_
  refine rz_gR 4 dX1_readRule_1 rfl rfl fl_X1_25 (fun x1 => ?_)
  refine rz_ldcS 6 0 dX1_readRule_4 rfl (by decide) rfl rfl ?_
  refine rz_callV 9 dX1_readRule_6 rfl (tX4_isWord v (d + 28) x1 0) rfl rfl rfl rfl ml_X1_55 im_X4_isWord se_X4_X4_isWord in_X4 co_X4_isWord rfl rfl (fun x2 => ?_)
  refine rz_if_eq 31 12 dX1_readRule_9 rfl rfl ?_ ?_
  · exact rz_sub [0] rfl (rX1_readRule_31 v d l0)
  · refine rz_aload_n 13 0 dX1_readRule_12 rfl rfl ?_
    refine rz_gI 16 dX1_readRule_13 rfl rfl fl_X1_9 (fun x3 => ?_)
    refine rz_bipush 18 dX1_readRule_16 rfl cb_12 ?_
    refine rz_icmp_lt 31 21 dX1_readRule_18 rfl rfl ?_ ?_
    · exact rz_sub [0] rfl (rX1_readRule_31 v d l0)
    · refine rz_aload_n 22 0 dX1_readRule_21 rfl rfl ?_
      refine rz_gR 25 dX1_readRule_22 rfl rfl fl_X1_25 (fun x4 => ?_)
      refine rz_bipush 27 dX1_readRule_25 rfl cb_6 ?_
      refine rz_callV 30 dX1_readRule_27 rfl (tX4_refuseToken v (d + 32) x4 (6 : Int32)) rfl rfl rfl rfl ml_X1_59 im_X4_refuseToken se_X4_X4_refuseToken in_X4 co_X4_refuseToken rfl rfl (fun x5 => ?_)
      exact rz_zreturn rfl rfl dX1_readRule_30
theorem tX1_readRule (v : mE) (d : Nat) (l0 : Nat) : Mt v yX1_readRule cX1_readRule 2 (some .boolean) emI (d + 33) [vR l0] (fX1_readRule l0) := mt_of rfl rfl (fun h => by cases h) rfl rfl (rX1_readRule v d l0)
theorem dX1_readLaw_0 : decode cX1_readLaw 0 = .ok (.aload_n 0, 1) := by decide +kernel
theorem dX1_readLaw_1 : decode cX1_readLaw 1 = .ok (.iconst 0, 1) := by decide +kernel
theorem dX1_readLaw_2 : decode cX1_readLaw 2 = .ok (.putfield 9, 3) := by decide +kernel
theorem dX1_readLaw_5 : decode cX1_readLaw 5 = .ok (.aload_n 0, 1) := by decide +kernel
theorem dX1_readLaw_6 : decode cX1_readLaw 6 = .ok (.iconst 0, 1) := by decide +kernel
theorem dX1_readLaw_7 : decode cX1_readLaw 7 = .ok (.putfield 15, 3) := by decide +kernel
theorem dX1_readLaw_10 : decode cX1_readLaw 10 = .ok (.aload_n 0, 1) := by decide +kernel
theorem dX1_readLaw_11 : decode cX1_readLaw 11 = .ok (.iconst 0, 1) := by decide +kernel
theorem dX1_readLaw_12 : decode cX1_readLaw 12 = .ok (.putfield 18, 3) := by decide +kernel
theorem dX1_readLaw_15 : decode cX1_readLaw 15 = .ok (.aload_n 0, 1) := by decide +kernel
theorem dX1_readLaw_16 : decode cX1_readLaw 16 = .ok (.getfield 25, 3) := by decide +kernel
theorem dX1_readLaw_19 : decode cX1_readLaw 19 = .ok (.iload_n 1, 1) := by decide +kernel
theorem dX1_readLaw_20 : decode cX1_readLaw 20 = .ok (.invokevirtual 29, 3) := by decide +kernel
theorem dX1_readLaw_23 : decode cX1_readLaw 23 = .ok (.iconst 1, 1) := by decide +kernel
theorem dX1_readLaw_24 : decode cX1_readLaw 24 = .ok (.istore_n 2, 1) := by decide +kernel
theorem dX1_readLaw_25 : decode cX1_readLaw 25 = .ok (.iconst 0, 1) := by decide +kernel
theorem dX1_readLaw_26 : decode cX1_readLaw 26 = .ok (.istore_n 3, 1) := by decide +kernel
theorem dX1_readLaw_27 : decode cX1_readLaw 27 = .ok (.iload_n 3, 1) := by decide +kernel
theorem dX1_readLaw_28 : decode cX1_readLaw 28 = .ok (.sipush 300, 3) := by decide +kernel
theorem dX1_readLaw_31 : decode cX1_readLaw 31 = .ok (.if_icmp .ge 28, 3) := by decide +kernel
theorem dX1_readLaw_34 : decode cX1_readLaw 34 = .ok (.iload_n 2, 1) := by decide +kernel
theorem dX1_readLaw_35 : decode cX1_readLaw 35 = .ok (.ifCond .eq 24, 3) := by decide +kernel
theorem dX1_readLaw_38 : decode cX1_readLaw 38 = .ok (.aload_n 0, 1) := by decide +kernel
theorem dX1_readLaw_39 : decode cX1_readLaw 39 = .ok (.getfield 25, 3) := by decide +kernel
theorem dX1_readLaw_42 : decode cX1_readLaw 42 = .ok (.getfield 35, 3) := by decide +kernel
theorem dX1_readLaw_45 : decode cX1_readLaw 45 = .ok (.ifCond .eq 14, 3) := by decide +kernel
theorem dX1_readLaw_48 : decode cX1_readLaw 48 = .ok (.aload_n 0, 1) := by decide +kernel
theorem dX1_readLaw_49 : decode cX1_readLaw 49 = .ok (.invokevirtual 38, 3) := by decide +kernel
theorem dX1_readLaw_52 : decode cX1_readLaw 52 = .ok (.istore_n 2, 1) := by decide +kernel
theorem dX1_readLaw_53 : decode cX1_readLaw 53 = .ok (.iinc 3 1, 3) := by decide +kernel
theorem dX1_readLaw_56 : decode cX1_readLaw 56 = .ok (.goto (-29), 3) := by decide +kernel
theorem dX1_readLaw_59 : decode cX1_readLaw 59 = .ok (.iload_n 2, 1) := by decide +kernel
theorem dX1_readLaw_60 : decode cX1_readLaw 60 = .ok (.ireturn, 1) := by decide +kernel
def fX1_readLaw_27 : Nat → Nat → Int32 → Int32 → mM Int32
  | 0 => fun _ _ _ => fun _ => none
  | n + 1 => fun l0 l2 l3 => let r27 := fX1_readLaw_27 n; bIf ((300 : Int32) ≤ l3) (bRetZ l2) (bIf (l2 = 0) (bRetZ l2) (bGR 1 l0 0 (fun x1 => bGI 4 x1 2 (fun x2 => bIf (x2 = 0) (bRetZ l2) (bCallV 1 l0 (fX1_readRule l0) (fun x3 => r27 l0 x3 (l3 + 1)))))))
theorem qX1_readLaw_27  (n : Nat) (l0 : Nat) (l2 : Int32) (l3 : Int32) : fX1_readLaw_27 (n + 1) l0 l2 l3 = bIf ((300 : Int32) ≤ l3) (bRetZ l2) (bIf (l2 = 0) (bRetZ l2) (bGR 1 l0 0 (fun x1 => bGI 4 x1 2 (fun x2 => bIf (x2 = 0) (bRetZ l2) (bCallV 1 l0 (fX1_readRule l0) (fun x3 => (fX1_readLaw_27 n) l0 x3 (l3 + 1))))))) := rfl
set_option maxRecDepth 20000 in
theorem rX1_readLaw_27 (v : mE) (d : Nat) : ∀ (n : Nat) (l0 : Nat) (l2 : Int32) (l3 : Int32), Rz v RX1 cX1_readLaw 4 (some .boolean) false emI (d + 34) 27 [(0, vR l0), (2, vI l2), (3, vI l3)] [] (fX1_readLaw_27 n l0 l2 l3)
  | 0, _, _, _ => fun _ _ _ hm => by cases hm
  | n + 1, l0, l2, l3 => by
    have h27 := rX1_readLaw_27 v d n
    unfold fX1_readLaw_27
    generalize fX1_readLaw_27 n = r27 at h27 ⊢
    refine rz_iload_n 28 2 dX1_readLaw_27 rfl rfl ?_
    refine rz_sipush 31 dX1_readLaw_28 rfl cs_300 ?_
    refine rz_icmp_ge 59 34 dX1_readLaw_31 rfl rfl ?_ ?_
    · refine rz_iload_n 60 1 dX1_readLaw_59 rfl rfl ?_
      exact rz_zreturn rfl rfl dX1_readLaw_60
    · refine rz_iload_n 35 1 dX1_readLaw_34 rfl rfl ?_
      refine rz_if_eq 59 38 dX1_readLaw_35 rfl rfl ?_ ?_
      · refine rz_iload_n 60 1 dX1_readLaw_59 rfl rfl ?_
        exact rz_zreturn rfl rfl dX1_readLaw_60
      · refine rz_aload_n 39 0 dX1_readLaw_38 rfl rfl ?_
        refine rz_gR 42 dX1_readLaw_39 rfl rfl fl_X1_25 (fun x1 => ?_)
        refine rz_gI 45 dX1_readLaw_42 rfl rfl fl_X1_35 (fun x2 => ?_)
        refine rz_if_eq 59 48 dX1_readLaw_45 rfl rfl ?_ ?_
        · refine rz_iload_n 60 1 dX1_readLaw_59 rfl rfl ?_
          exact rz_zreturn rfl rfl dX1_readLaw_60
        · refine rz_aload_n 49 0 dX1_readLaw_48 rfl rfl ?_
          refine rz_callV 52 dX1_readLaw_49 rfl (tX1_readRule v (d + 0) l0) rfl rfl rfl rfl ml_X1_38 im_X1_readRule se_X1_X1_readRule in_X1 co_X1_readRule rfl rfl (fun x3 => ?_)
          refine rz_istore_n (lv' := [(2, vI x3), (0, vR l0), (3, vI l3)]) 53 dX1_readLaw_52 rfl rfl rfl ?_
          refine rz_iinc (lv' := [(3, vI (l3 + 1)), (2, vI x3), (0, vR l0)]) 56 2 dX1_readLaw_53 rfl rfl (cn_1 _) rfl rfl ?_
          refine rz_goto 27 dX1_readLaw_56 rfl ?_
          exact rz_sub [2, 1, 0] rfl (h27 l0 x3 (l3 + 1))
def fX1_readLaw (l0 : Nat) (l1 : Int32) : mM Int32 := bPI 1 l0 1 (0 : Int32) (bPI 1 l0 2 (0 : Int32) (bPI 1 l0 3 (0 : Int32) (bGR 1 l0 0 (fun x1 => bCallV 4 x1 (fX4_open x1 l1) (fun _ => fX1_readLaw_27 fu l0 (1 : Int32) (0 : Int32))))))
set_option maxRecDepth 20000 in
theorem rX1_readLaw (v : mE) (d : Nat) (l0 : Nat) (l1 : Int32) : Rz v RX1 cX1_readLaw 4 (some .boolean) false emI (d + 34) 0 [(0, vR l0), (1, vI l1)] [] (fX1_readLaw l0 l1) := by
  unfold fX1_readLaw
  refine rz_aload_n 1 0 dX1_readLaw_0 rfl rfl ?_
  refine rz_iconst 2 dX1_readLaw_1 rfl ci_0 ?_
  refine rz_pI 5 dX1_readLaw_2 rfl rfl rfl rfl fl_X1_9 ?_
  refine rz_aload_n 6 0 dX1_readLaw_5 rfl rfl ?_
  refine rz_iconst 7 dX1_readLaw_6 rfl ci_0 ?_
  refine rz_pI 10 dX1_readLaw_7 rfl rfl rfl rfl fl_X1_15 ?_
  refine rz_aload_n 11 0 dX1_readLaw_10 rfl rfl ?_
  refine rz_iconst 12 dX1_readLaw_11 rfl ci_0 ?_
  refine rz_pI 15 dX1_readLaw_12 rfl rfl rfl rfl fl_X1_18 ?_
  refine rz_aload_n 16 0 dX1_readLaw_15 rfl rfl ?_
  refine rz_gR 19 dX1_readLaw_16 rfl rfl fl_X1_25 (fun x1 => ?_)
  refine rz_iload_n 20 1 dX1_readLaw_19 rfl rfl ?_
  refine rz_callV 23 dX1_readLaw_20 rfl (tX4_open v (d + 28) x1 l1) rfl rfl rfl rfl ml_X1_29 im_X4_open se_X4_X4_open in_X4 co_X4_open rfl rfl (fun _ => ?_)
  refine rz_iconst 24 dX1_readLaw_23 rfl ci_1 ?_
  refine rz_istore_n (lv' := [(2, vI (1 : Int32)), (0, vR l0), (1, vI l1)]) 25 dX1_readLaw_24 rfl rfl rfl ?_
  refine rz_iconst 26 dX1_readLaw_25 rfl ci_0 ?_
  refine rz_istore_n (lv' := [(3, vI (0 : Int32)), (2, vI (1 : Int32)), (0, vR l0), (1, vI l1)]) 27 dX1_readLaw_26 rfl rfl rfl ?_
  exact rz_sub [2, 1, 0] rfl (rX1_readLaw_27 v d fu l0 (1 : Int32) (0 : Int32))
theorem tX1_readLaw (v : mE) (d : Nat) (l0 : Nat) (l1 : Int32) : Mt v yX1_readLaw cX1_readLaw 4 (some .boolean) emI (d + 34) [vR l0, vI l1] (fX1_readLaw l0 l1) := mt_of rfl rfl (fun h => by cases h) rfl rfl (rX1_readLaw v d l0 l1)
theorem dX1_made_0 : decode cX1_made 0 = .ok (.new 42, 3) := by decide +kernel
theorem dX1_made_3 : decode cX1_made 3 = .ok (.dup, 1) := by decide +kernel
theorem dX1_made_4 : decode cX1_made 4 = .ok (.aload_n 0, 1) := by decide +kernel
theorem dX1_made_5 : decode cX1_made 5 = .ok (.getfield 21, 3) := by decide +kernel
theorem dX1_made_8 : decode cX1_made 8 = .ok (.aload_n 0, 1) := by decide +kernel
theorem dX1_made_9 : decode cX1_made 9 = .ok (.getfield 18, 3) := by decide +kernel
theorem dX1_made_12 : decode cX1_made 12 = .ok (.invokestatic 44, 3) := by decide +kernel
theorem dX1_made_15 : decode cX1_made 15 = .ok (.aload_n 0, 1) := by decide +kernel
theorem dX1_made_16 : decode cX1_made 16 = .ok (.getfield 9, 3) := by decide +kernel
theorem dX1_made_19 : decode cX1_made 19 = .ok (.invokespecial 50, 3) := by decide +kernel
theorem dX1_made_22 : decode cX1_made 22 = .ok (.areturn, 1) := by decide +kernel
def fX1_made (l0 : Nat) : mM Nat := bNew 0 (fun x1 => bGR 1 l0 4 (fun x2 => bGI 1 l0 3 (fun x3 => bCall (fJ7_copyOf_59c91 x2 x3) (fun x4 => bGI 1 l0 1 (fun x5 => bCallV 0 x1 (fX0_init x1 x4 x5) (fun _ => bRet x1))))))
set_option maxRecDepth 20000 in
theorem rX1_made (v : mE) (d : Nat) (l0 : Nat) : Rz v RX1 cX1_made 1 (some (.object "WellHeirs$Law")) false emR (d + 2) 0 [(0, vR l0)] [] (fX1_made l0) := by
  unfold fX1_made
  refine rz_new 3 dX1_made_0 rfl rfl cl_X1_42 it_X0 in_X0 (fun x1 => ?_)
  refine rz_dup 4 dX1_made_3 rfl rfl ?_
  refine rz_aload_n 5 0 dX1_made_4 rfl rfl ?_
  refine rz_gR 8 dX1_made_5 rfl rfl fl_X1_21 (fun x2 => ?_)
  refine rz_aload_n 9 0 dX1_made_8 rfl rfl ?_
  refine rz_gI 12 dX1_made_9 rfl rfl fl_X1_18 (fun x3 => ?_)
  refine rz_callS 15 dX1_made_12 rfl (tJ7_copyOf_59c91 v (d + 0) x2 x3) rfl rfl ml_X1_44 sm_J7_copyOf_59c91 in_J7 co_J7_copyOf_59c91 rfl rfl (fun x4 => ?_)
  refine rz_aload_n 16 0 dX1_made_15 rfl rfl ?_
  refine rz_gI 19 dX1_made_16 rfl rfl fl_X1_9 (fun x5 => ?_)
  refine rz_callI (kc := 0) 22 dX1_made_19 rfl (tX0_init v (d + 0) x1 x4 x5) rfl rfl rfl rfl ml_X1_50 im_X0_init in_X0 co_X0_init rfl rfl (fun _ => ?_)
  exact rz_areturn rfl (by first | exact Or.inl ⟨_, rfl⟩ | exact Or.inr ⟨_, rfl⟩) rfl dX1_made_22
theorem tX1_made (v : mE) (d : Nat) (l0 : Nat) : Mt v yX1_made cX1_made 1 (some (.object "WellHeirs$Law")) emR (d + 2) [vR l0] (fX1_made l0) := mt_of rfl rfl (fun h => by cases h) rfl rfl (rX1_made v d l0)

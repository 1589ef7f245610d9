theorem dX8_init_0 : decode cX8_init 0 = .ok (.aload_n 0, 1) := by decide +kernel
theorem dX8_init_1 : decode cX8_init 1 = .ok (.invokespecial 1, 3) := by decide +kernel
theorem dX8_init_4 : decode cX8_init 4 = .ok (.aload_n 0, 1) := by decide +kernel
theorem dX8_init_5 : decode cX8_init 5 = .ok (.iconst 4, 1) := by decide +kernel
theorem dX8_init_6 : decode cX8_init 6 = .ok (.anewarray 9, 3) := by decide +kernel
theorem dX8_init_9 : decode cX8_init 9 = .ok (.putfield 11, 3) := by decide +kernel
theorem dX8_init_12 : decode cX8_init 12 = .ok (.aload_n 0, 1) := by decide +kernel
theorem dX8_init_13 : decode cX8_init 13 = .ok (.sipush 900, 3) := by decide +kernel
theorem dX8_init_16 : decode cX8_init 16 = .ok (.newarray .byte, 2) := by decide +kernel
theorem dX8_init_18 : decode cX8_init 18 = .ok (.putfield 15, 3) := by decide +kernel
theorem dX8_init_21 : decode cX8_init 21 = .ok (.aload_n 0, 1) := by decide +kernel
theorem dX8_init_22 : decode cX8_init 22 = .ok (.iconst 0, 1) := by decide +kernel
theorem dX8_init_23 : decode cX8_init 23 = .ok (.putfield 19, 3) := by decide +kernel
theorem dX8_init_26 : decode cX8_init 26 = .ok (.aload_n 0, 1) := by decide +kernel
theorem dX8_init_27 : decode cX8_init 27 = .ok (.new 23, 3) := by decide +kernel
theorem dX8_init_30 : decode cX8_init 30 = .ok (.dup, 1) := by decide +kernel
theorem dX8_init_31 : decode cX8_init 31 = .ok (.invokespecial 25, 3) := by decide +kernel
theorem dX8_init_34 : decode cX8_init 34 = .ok (.putfield 26, 3) := by decide +kernel
theorem dX8_init_37 : decode cX8_init 37 = .ok (.aload_n 0, 1) := by decide +kernel
theorem dX8_init_38 : decode cX8_init 38 = .ok (.new 23, 3) := by decide +kernel
theorem dX8_init_41 : decode cX8_init 41 = .ok (.dup, 1) := by decide +kernel
theorem dX8_init_42 : decode cX8_init 42 = .ok (.invokespecial 25, 3) := by decide +kernel
theorem dX8_init_45 : decode cX8_init 45 = .ok (.putfield 30, 3) := by decide +kernel
theorem dX8_init_48 : decode cX8_init 48 = .ok (.aload_n 0, 1) := by decide +kernel
theorem dX8_init_49 : decode cX8_init 49 = .ok (.iconst 3, 1) := by decide +kernel
theorem dX8_init_50 : decode cX8_init 50 = .ok (.anewarray 23, 3) := by decide +kernel
theorem dX8_init_53 : decode cX8_init 53 = .ok (.putfield 33, 3) := by decide +kernel
theorem dX8_init_56 : decode cX8_init 56 = .ok (.aload_n 0, 1) := by decide +kernel
theorem dX8_init_57 : decode cX8_init 57 = .ok (.iconst 0, 1) := by decide +kernel
theorem dX8_init_58 : decode cX8_init 58 = .ok (.putfield 37, 3) := by decide +kernel
theorem dX8_init_61 : decode cX8_init 61 = .ok (.aload_n 0, 1) := by decide +kernel
theorem dX8_init_62 : decode cX8_init 62 = .ok (.new 40, 3) := by decide +kernel
theorem dX8_init_65 : decode cX8_init 65 = .ok (.dup, 1) := by decide +kernel
theorem dX8_init_66 : decode cX8_init 66 = .ok (.invokespecial 42, 3) := by decide +kernel
theorem dX8_init_69 : decode cX8_init 69 = .ok (.putfield 43, 3) := by decide +kernel
theorem dX8_init_72 : decode cX8_init 72 = .ok (.aload_n 0, 1) := by decide +kernel
theorem dX8_init_73 : decode cX8_init 73 = .ok (.bipush 8, 2) := by decide +kernel
theorem dX8_init_75 : decode cX8_init 75 = .ok (.newarray .int, 2) := by decide +kernel
theorem dX8_init_77 : decode cX8_init 77 = .ok (.putfield 47, 3) := by decide +kernel
theorem dX8_init_80 : decode cX8_init 80 = .ok (.aload_n 0, 1) := by decide +kernel
theorem dX8_init_81 : decode cX8_init 81 = .ok (.iconst 0, 1) := by decide +kernel
theorem dX8_init_82 : decode cX8_init 82 = .ok (.putfield 51, 3) := by decide +kernel
theorem dX8_init_85 : decode cX8_init 85 = .ok (.aload_n 0, 1) := by decide +kernel
theorem dX8_init_86 : decode cX8_init 86 = .ok (.lconst 0, 1) := by decide +kernel
theorem dX8_init_87 : decode cX8_init 87 = .ok (.putfield 54, 3) := by decide +kernel
theorem dX8_init_90 : decode cX8_init 90 = .ok (.aload_n 0, 1) := by decide +kernel
theorem dX8_init_91 : decode cX8_init 91 = .ok (.lconst 1, 1) := by decide +kernel
theorem dX8_init_92 : decode cX8_init 92 = .ok (.putfield 58, 3) := by decide +kernel
theorem dX8_init_95 : decode cX8_init 95 = .ok (.aload_n 0, 1) := by decide +kernel
theorem dX8_init_96 : decode cX8_init 96 = .ok (.iconst (-1), 1) := by decide +kernel
theorem dX8_init_97 : decode cX8_init 97 = .ok (.putfield 61, 3) := by decide +kernel
theorem dX8_init_100 : decode cX8_init 100 = .ok (.aload_n 0, 1) := by decide +kernel
theorem dX8_init_101 : decode cX8_init 101 = .ok (.iconst (-1), 1) := by decide +kernel
theorem dX8_init_102 : decode cX8_init 102 = .ok (.putfield 64, 3) := by decide +kernel
theorem dX8_init_105 : decode cX8_init 105 = .ok (.iconst 0, 1) := by decide +kernel
theorem dX8_init_106 : decode cX8_init 106 = .ok (.istore_n 1, 1) := by decide +kernel
theorem dX8_init_107 : decode cX8_init 107 = .ok (.iload_n 1, 1) := by decide +kernel
theorem dX8_init_108 : decode cX8_init 108 = .ok (.iconst 4, 1) := by decide +kernel
theorem dX8_init_109 : decode cX8_init 109 = .ok (.if_icmp .ge 22, 3) := by decide +kernel
theorem dX8_init_112 : decode cX8_init 112 = .ok (.aload_n 0, 1) := by decide +kernel
theorem dX8_init_113 : decode cX8_init 113 = .ok (.getfield 11, 3) := by decide +kernel
theorem dX8_init_116 : decode cX8_init 116 = .ok (.iload_n 1, 1) := by decide +kernel
theorem dX8_init_117 : decode cX8_init 117 = .ok (.new 9, 3) := by decide +kernel
theorem dX8_init_120 : decode cX8_init 120 = .ok (.dup, 1) := by decide +kernel
theorem dX8_init_121 : decode cX8_init 121 = .ok (.invokespecial 67, 3) := by decide +kernel
theorem dX8_init_124 : decode cX8_init 124 = .ok (.aastore, 1) := by decide +kernel
theorem dX8_init_125 : decode cX8_init 125 = .ok (.iinc 1 1, 3) := by decide +kernel
theorem dX8_init_128 : decode cX8_init 128 = .ok (.goto (-21), 3) := by decide +kernel
theorem dX8_init_131 : decode cX8_init 131 = .ok (.new 68, 3) := by decide +kernel
theorem dX8_init_134 : decode cX8_init 134 = .ok (.dup, 1) := by decide +kernel
theorem dX8_init_135 : decode cX8_init 135 = .ok (.aload_n 0, 1) := by decide +kernel
theorem dX8_init_136 : decode cX8_init 136 = .ok (.getfield 15, 3) := by decide +kernel
theorem dX8_init_139 : decode cX8_init 139 = .ok (.invokespecial 70, 3) := by decide +kernel
theorem dX8_init_142 : decode cX8_init 142 = .ok (.astore_n 1, 1) := by decide +kernel
theorem dX8_init_143 : decode cX8_init 143 = .ok (.aload_n 0, 1) := by decide +kernel
theorem dX8_init_144 : decode cX8_init 144 = .ok (.new 73, 3) := by decide +kernel
theorem dX8_init_147 : decode cX8_init 147 = .ok (.dup, 1) := by decide +kernel
theorem dX8_init_148 : decode cX8_init 148 = .ok (.aload_n 1, 1) := by decide +kernel
theorem dX8_init_149 : decode cX8_init 149 = .ok (.aload_n 0, 1) := by decide +kernel
theorem dX8_init_150 : decode cX8_init 150 = .ok (.getfield 30, 3) := by decide +kernel
theorem dX8_init_153 : decode cX8_init 153 = .ok (.invokespecial 75, 3) := by decide +kernel
theorem dX8_init_156 : decode cX8_init 156 = .ok (.putfield 78, 3) := by decide +kernel
theorem dX8_init_159 : decode cX8_init 159 = .ok (.aload_n 0, 1) := by decide +kernel
theorem dX8_init_160 : decode cX8_init 160 = .ok (.new 82, 3) := by decide +kernel
theorem dX8_init_163 : decode cX8_init 163 = .ok (.dup, 1) := by decide +kernel
theorem dX8_init_164 : decode cX8_init 164 = .ok (.aload_n 1, 1) := by decide +kernel
theorem dX8_init_165 : decode cX8_init 165 = .ok (.invokespecial 84, 3) := by decide +kernel
theorem dX8_init_168 : decode cX8_init 168 = .ok (.putfield 87, 3) := by decide +kernel
theorem dX8_init_171 : decode cX8_init 171 = .ok (.return_, 1) := by decide +kernel
def fX8_init_131 (l0 : Nat) : mM Unit := bNew 4 (fun x1 => bGR 8 l0 1 (fun x2 => bCallV 4 x1 (fX4_init x1 x2) (fun _ => bNew 6 (fun x3 => bGR 8 l0 4 (fun x4 => bCallV 6 x3 (fX6_init x3 x1 x4) (fun _ => bPR 8 l0 7 x3 (bNew 1 (fun x5 => bCallV 1 x5 (fX1_init x5 x1) (fun _ => bPR 8 l0 8 x5 (bRet ()))))))))))
set_option maxRecDepth 20000 in
theorem rX8_init_131 (v : mE) (d : Nat) (l0 : Nat) : Rz v RX8 cX8_init 2 none true emU (d + 3) 131 [(0, vR l0)] [] (fX8_init_131 l0) := by
  unfold fX8_init_131
  refine rz_new 134 dX8_init_131 rfl rfl cl_X8_68 it_X4 in_X4 (fun x1 => ?_)
  refine rz_dup 135 dX8_init_134 rfl rfl ?_
  refine rz_aload_n 136 0 dX8_init_135 rfl rfl ?_
  refine rz_gR 139 dX8_init_136 rfl rfl fl_X8_15 (fun x2 => ?_)
  refine rz_callI (kc := 4) 142 dX8_init_139 rfl (tX4_init v (d + 1) x1 x2) rfl rfl rfl rfl ml_X8_70 im_X4_init in_X4 co_X4_init rfl rfl (fun _ => ?_)
  refine rz_astore_n (lv' := [(1, vR x1), (0, vR l0)]) 143 dX8_init_142 rfl rfl rfl ?_
  refine rz_aload_n 144 1 dX8_init_143 rfl rfl ?_
  refine rz_new 147 dX8_init_144 rfl rfl cl_X8_73 it_X6 in_X6 (fun x3 => ?_)
  refine rz_dup 148 dX8_init_147 rfl rfl ?_
  refine rz_aload_n 149 0 dX8_init_148 rfl rfl ?_
  refine rz_aload_n 150 1 dX8_init_149 rfl rfl ?_
  refine rz_gR 153 dX8_init_150 rfl rfl fl_X8_30 (fun x4 => ?_)
  refine rz_callI (kc := 6) 156 dX8_init_153 rfl (tX6_init v (d + 1) x3 x1 x4) rfl rfl rfl rfl ml_X8_75 im_X6_init in_X6 co_X6_init rfl rfl (fun _ => ?_)
  refine rz_pR 159 dX8_init_156 rfl rfl rfl fl_X8_78 ?_
  refine rz_aload_n 160 1 dX8_init_159 rfl rfl ?_
  refine rz_new 163 dX8_init_160 rfl rfl cl_X8_82 it_X1 in_X1 (fun x5 => ?_)
  refine rz_dup 164 dX8_init_163 rfl rfl ?_
  refine rz_aload_n 165 0 dX8_init_164 rfl rfl ?_
  refine rz_callI (kc := 1) 168 dX8_init_165 rfl (tX1_init v (d + 1) x5 x1) rfl rfl rfl rfl ml_X8_84 im_X1_init in_X1 co_X1_init rfl rfl (fun _ => ?_)
  refine rz_pR 171 dX8_init_168 rfl rfl rfl fl_X8_87 ?_
  exact rz_return rfl rfl dX8_init_171
def fX8_init_107 : Nat → Nat → Int32 → mM Unit
  | 0 => fun _ _ => fun _ => none
  | n + 1 => fun l0 l1 => let r107 := fX8_init_107 n; bIf ((4 : Int32) ≤ l1) (fX8_init_131 l0) (bGR 8 l0 0 (fun x1 => bNew 5 (fun x2 => bCallV 5 x2 (fX5_init x2) (fun _ => bSR 15 x1 l1 x2 (r107 l0 (l1 + 1))))))
theorem qX8_init_107  (n : Nat) (l0 : Nat) (l1 : Int32) : fX8_init_107 (n + 1) l0 l1 = bIf ((4 : Int32) ≤ l1) (fX8_init_131 l0) (bGR 8 l0 0 (fun x1 => bNew 5 (fun x2 => bCallV 5 x2 (fX5_init x2) (fun _ => bSR 15 x1 l1 x2 ((fX8_init_107 n) l0 (l1 + 1)))))) := rfl
set_option maxRecDepth 20000 in
theorem rX8_init_107 (v : mE) (d : Nat) : ∀ (n : Nat) (l0 : Nat) (l1 : Int32), Rz v RX8 cX8_init 2 none true emU (d + 3) 107 [(0, vR l0), (1, vI l1)] [] (fX8_init_107 n l0 l1)
  | 0, _, _ => fun _ _ _ hm => by cases hm
  | n + 1, l0, l1 => by
    have h107 := rX8_init_107 v d n
    unfold fX8_init_107
    generalize fX8_init_107 n = r107 at h107 ⊢
    refine rz_iload_n 108 1 dX8_init_107 rfl rfl ?_
    refine rz_iconst 109 dX8_init_108 rfl ci_4 ?_
    refine rz_icmp_ge 131 112 dX8_init_109 rfl rfl ?_ ?_
    · exact rz_sub [0] rfl (rX8_init_131 v d l0)
    · refine rz_aload_n 113 0 dX8_init_112 rfl rfl ?_
      refine rz_gR 116 dX8_init_113 rfl rfl fl_X8_11 (fun x1 => ?_)
      refine rz_iload_n 117 1 dX8_init_116 rfl rfl ?_
      refine rz_new 120 dX8_init_117 rfl rfl cl_X8_9 it_X5 in_X5 (fun x2 => ?_)
      refine rz_dup 121 dX8_init_120 rfl rfl ?_
      refine rz_callN (kc := 5) (host := RX8) 124 dX8_init_121 rfl (tX5_init v (d + 1) x2) rfl rfl rfl rfl nw_X8_67 im_X5_init in_X5 co_X5_init rfl rfl (fun _ => ?_)
      refine rz_aast 125 dX8_init_124 rfl (by decide) ?_
      refine rz_iinc (lv' := [(1, vI (l1 + 1)), (0, vR l0)]) 128 1 dX8_init_125 rfl rfl (cn_1 _) rfl rfl ?_
      refine rz_goto 107 dX8_init_128 rfl ?_
      exact rz_sub [1, 0] rfl (h107 l0 (l1 + 1))
def fX8_init (l0 : Nat) : mM Unit := bObj l0 (bNa 15 (4 : Int32) (fun x1 => bPR 8 l0 0 x1 (bNa 10 (900 : Int32) (fun x2 => bPR 8 l0 1 x2 (bPI 8 l0 2 (0 : Int32) (bNew 7 (fun x3 => bCallV 7 x3 (fX7_init x3) (fun _ => bPR 8 l0 3 x3 (bNew 7 (fun x4 => bCallV 7 x4 (fX7_init x4) (fun _ => bPR 8 l0 4 x4 (bNa 16 (3 : Int32) (fun x5 => bPR 8 l0 5 x5 (bPI 8 l0 6 (0 : Int32) (bNew 2 (fun x6 => bCallV 2 x6 (fX2_init x6) (fun _ => bPR 8 l0 9 x6 (bNa 11 (8 : Int32) (fun x7 => bPR 8 l0 10 x7 (bPI 8 l0 11 (0 : Int32) (bPL 8 l0 12 (0 : Int64) (bPL 8 l0 13 (1 : Int64) (bPI 8 l0 14 (-1 : Int32) (bPI 8 l0 15 (-1 : Int32) (fX8_init_107 fu l0 (0 : Int32))))))))))))))))))))))))))
set_option maxRecDepth 20000 in
theorem rX8_init (v : mE) (d : Nat) (l0 : Nat) : Rz v RX8 cX8_init 2 none true emU (d + 3) 0 [(0, vR l0)] [] (fX8_init l0) := by
  unfold fX8_init
  refine rz_aload_n 1 0 dX8_init_0 rfl rfl ?_
  refine rz_obj 4 dX8_init_1 rfl ml_X8_1 im_java_lang_Object__init____V co_java_lang_Object__init____V rfl rfl ?_
  refine rz_aload_n 5 0 dX8_init_4 rfl rfl ?_
  refine rz_iconst 6 dX8_init_5 rfl ci_4 ?_
  refine rz_newq 9 dX8_init_6 rfl (by decide) cl_X8_9 (ao_15 v) (fun x1 => ?_)
  refine rz_pR 12 dX8_init_9 rfl rfl rfl fl_X8_11 ?_
  refine rz_aload_n 13 0 dX8_init_12 rfl rfl ?_
  refine rz_sipush 16 dX8_init_13 rfl cs_900 ?_
  refine rz_newa 18 dX8_init_16 rfl (by decide) ac_byte (fun x2 => ?_)
  refine rz_pR 21 dX8_init_18 rfl rfl rfl fl_X8_15 ?_
  refine rz_aload_n 22 0 dX8_init_21 rfl rfl ?_
  refine rz_iconst 23 dX8_init_22 rfl ci_0 ?_
  refine rz_pI 26 dX8_init_23 rfl rfl rfl rfl fl_X8_19 ?_
  refine rz_aload_n 27 0 dX8_init_26 rfl rfl ?_
  refine rz_new 30 dX8_init_27 rfl rfl cl_X8_23 it_X7 in_X7 (fun x3 => ?_)
  refine rz_dup 31 dX8_init_30 rfl rfl ?_
  refine rz_callI (kc := 7) 34 dX8_init_31 rfl (tX7_init v (d + 0) x3) rfl rfl rfl rfl ml_X8_25 im_X7_init in_X7 co_X7_init rfl rfl (fun _ => ?_)
  refine rz_pR 37 dX8_init_34 rfl rfl rfl fl_X8_26 ?_
  refine rz_aload_n 38 0 dX8_init_37 rfl rfl ?_
  refine rz_new 41 dX8_init_38 rfl rfl cl_X8_23 it_X7 in_X7 (fun x4 => ?_)
  refine rz_dup 42 dX8_init_41 rfl rfl ?_
  refine rz_callI (kc := 7) 45 dX8_init_42 rfl (tX7_init v (d + 0) x4) rfl rfl rfl rfl ml_X8_25 im_X7_init in_X7 co_X7_init rfl rfl (fun _ => ?_)
  refine rz_pR 48 dX8_init_45 rfl rfl rfl fl_X8_30 ?_
  refine rz_aload_n 49 0 dX8_init_48 rfl rfl ?_
  refine rz_iconst 50 dX8_init_49 rfl ci_3 ?_
  refine rz_newq 53 dX8_init_50 rfl (by decide) cl_X8_23 (ao_16 v) (fun x5 => ?_)
  refine rz_pR 56 dX8_init_53 rfl rfl rfl fl_X8_33 ?_
  refine rz_aload_n 57 0 dX8_init_56 rfl rfl ?_
  refine rz_iconst 58 dX8_init_57 rfl ci_0 ?_
  refine rz_pI 61 dX8_init_58 rfl rfl rfl rfl fl_X8_37 ?_
  refine rz_aload_n 62 0 dX8_init_61 rfl rfl ?_
  refine rz_new 65 dX8_init_62 rfl rfl cl_X8_40 it_X2 in_X2 (fun x6 => ?_)
  refine rz_dup 66 dX8_init_65 rfl rfl ?_
  refine rz_callN (kc := 2) (host := RX8) 69 dX8_init_66 rfl (tX2_init v (d + 1) x6) rfl rfl rfl rfl nw_X8_42 im_X2_init in_X2 co_X2_init rfl rfl (fun _ => ?_)
  refine rz_pR 72 dX8_init_69 rfl rfl rfl fl_X8_43 ?_
  refine rz_aload_n 73 0 dX8_init_72 rfl rfl ?_
  refine rz_bipush 75 dX8_init_73 rfl cb_8 ?_
  refine rz_newa 77 dX8_init_75 rfl (by decide) ac_int (fun x7 => ?_)
  refine rz_pR 80 dX8_init_77 rfl rfl rfl fl_X8_47 ?_
  refine rz_aload_n 81 0 dX8_init_80 rfl rfl ?_
  refine rz_iconst 82 dX8_init_81 rfl ci_0 ?_
  refine rz_pI 85 dX8_init_82 rfl rfl rfl rfl fl_X8_51 ?_
  refine rz_aload_n 86 0 dX8_init_85 rfl rfl ?_
  refine rz_lconst 87 dX8_init_86 rfl cl_0 ?_
  refine rz_pL 90 dX8_init_87 rfl rfl rfl fl_X8_54 ?_
  refine rz_aload_n 91 0 dX8_init_90 rfl rfl ?_
  refine rz_lconst 92 dX8_init_91 rfl cl_1 ?_
  refine rz_pL 95 dX8_init_92 rfl rfl rfl fl_X8_58 ?_
  refine rz_aload_n 96 0 dX8_init_95 rfl rfl ?_
  refine rz_iconst 97 dX8_init_96 rfl ci_m1 ?_
  refine rz_pI 100 dX8_init_97 rfl rfl rfl rfl fl_X8_61 ?_
  refine rz_aload_n 101 0 dX8_init_100 rfl rfl ?_
  refine rz_iconst 102 dX8_init_101 rfl ci_m1 ?_
  refine rz_pI 105 dX8_init_102 rfl rfl rfl rfl fl_X8_64 ?_
  refine rz_iconst 106 dX8_init_105 rfl ci_0 ?_
  refine rz_istore_n (lv' := [(1, vI (0 : Int32)), (0, vR l0)]) 107 dX8_init_106 rfl rfl rfl ?_
  exact rz_sub [1, 0] rfl (rX8_init_107 v d fu l0 (0 : Int32))
theorem tX8_init (v : mE) (d : Nat) (l0 : Nat) : Mt v yX8_init cX8_init 2 none emU (d + 3) [vR l0] (fX8_init l0) := mt_of rfl rfl (fun _ => rfl) rfl rfl (rX8_init v d l0)
theorem dX8_status_0 : decode cX8_status 0 = .ok (.aload_n 0, 1) := by decide +kernel
theorem dX8_status_1 : decode cX8_status 1 = .ok (.getfield 51, 3) := by decide +kernel
theorem dX8_status_4 : decode cX8_status 4 = .ok (.ireturn, 1) := by decide +kernel
def fX8_status (l0 : Nat) : mM Int32 := bGI 8 l0 11 (fun x1 => bRet x1)
set_option maxRecDepth 20000 in
theorem rX8_status (v : mE) (d : Nat) (l0 : Nat) : Rz v RX8 cX8_status 1 (some .int) false emI (d + 0) 0 [(0, vR l0)] [] (fX8_status l0) := by
  unfold fX8_status
  refine rz_aload_n 1 0 dX8_status_0 rfl rfl ?_
  refine rz_gI 4 dX8_status_1 rfl rfl fl_X8_51 (fun x1 => ?_)
  exact rz_ireturn rfl rfl dX8_status_4
theorem tX8_status (v : mE) (d : Nat) (l0 : Nat) : Mt v yX8_status cX8_status 1 (some .int) emI (d + 0) [vR l0] (fX8_status l0) := mt_of rfl rfl (fun h => by cases h) rfl rfl (rX8_status v d l0)
theorem dX8_top_0 : decode cX8_top 0 = .ok (.aload_n 0, 1) := by decide +kernel
theorem dX8_top_1 : decode cX8_top 1 = .ok (.getfield 54, 3) := by decide +kernel
theorem dX8_top_4 : decode cX8_top 4 = .ok (.lreturn, 1) := by decide +kernel
def fX8_top (l0 : Nat) : mM Int64 := bGL 8 l0 12 (fun x1 => bRet x1)
set_option maxRecDepth 20000 in
theorem rX8_top (v : mE) (d : Nat) (l0 : Nat) : Rz v RX8 cX8_top 1 (some .long) false emL (d + 0) 0 [(0, vR l0)] [] (fX8_top l0) := by
  unfold fX8_top
  refine rz_aload_n 1 0 dX8_top_0 rfl rfl ?_
  refine rz_gL 4 dX8_top_1 rfl rfl fl_X8_54 (fun x1 => ?_)
  exact rz_lreturn rfl rfl dX8_top_4
theorem tX8_top (v : mE) (d : Nat) (l0 : Nat) : Mt v yX8_top cX8_top 1 (some .long) emL (d + 0) [vR l0] (fX8_top l0) := mt_of rfl rfl (fun h => by cases h) rfl rfl (rX8_top v d l0)
theorem dX8_bottom_0 : decode cX8_bottom 0 = .ok (.aload_n 0, 1) := by decide +kernel
theorem dX8_bottom_1 : decode cX8_bottom 1 = .ok (.getfield 58, 3) := by decide +kernel
theorem dX8_bottom_4 : decode cX8_bottom 4 = .ok (.lreturn, 1) := by decide +kernel
def fX8_bottom (l0 : Nat) : mM Int64 := bGL 8 l0 13 (fun x1 => bRet x1)
set_option maxRecDepth 20000 in
theorem rX8_bottom (v : mE) (d : Nat) (l0 : Nat) : Rz v RX8 cX8_bottom 1 (some .long) false emL (d + 0) 0 [(0, vR l0)] [] (fX8_bottom l0) := by
  unfold fX8_bottom
  refine rz_aload_n 1 0 dX8_bottom_0 rfl rfl ?_
  refine rz_gL 4 dX8_bottom_1 rfl rfl fl_X8_58 (fun x1 => ?_)
  exact rz_lreturn rfl rfl dX8_bottom_4
theorem tX8_bottom (v : mE) (d : Nat) (l0 : Nat) : Mt v yX8_bottom cX8_bottom 1 (some .long) emL (d + 0) [vR l0] (fX8_bottom l0) := mt_of rfl rfl (fun h => by cases h) rfl rfl (rX8_bottom v d l0)
theorem dX8_isTray_0 : decode cX8_isTray 0 = .ok (.iload_n 1, 1) := by decide +kernel
theorem dX8_isTray_1 : decode cX8_isTray 1 = .ok (.ifCond .lt 12, 3) := by decide +kernel
theorem dX8_isTray_4 : decode cX8_isTray 4 = .ok (.iload_n 1, 1) := by decide +kernel
theorem dX8_isTray_5 : decode cX8_isTray 5 = .ok (.iconst 4, 1) := by decide +kernel
theorem dX8_isTray_6 : decode cX8_isTray 6 = .ok (.if_icmp .ge 7, 3) := by decide +kernel
theorem dX8_isTray_9 : decode cX8_isTray 9 = .ok (.iconst 1, 1) := by decide +kernel
theorem dX8_isTray_10 : decode cX8_isTray 10 = .ok (.goto 4, 3) := by decide +kernel
theorem dX8_isTray_13 : decode cX8_isTray 13 = .ok (.iconst 0, 1) := by decide +kernel
theorem dX8_isTray_14 : decode cX8_isTray 14 = .ok (.ireturn, 1) := by decide +kernel
def fX8_isTray (l0 : Nat) (l1 : Int32) : mM Int32 := bIf (l1 < 0) (bRetZ (0 : Int32)) (bIf ((4 : Int32) ≤ l1) (bRetZ (0 : Int32)) (bRetZ (1 : Int32)))
set_option maxRecDepth 20000 in
theorem rX8_isTray (v : mE) (d : Nat) (l0 : Nat) (l1 : Int32) : Rz v RX8 cX8_isTray 2 (some .boolean) false emI (d + 0) 0 [(0, vR l0), (1, vI l1)] [] (fX8_isTray l0 l1) := by
  unfold fX8_isTray
  refine rz_iload_n 1 1 dX8_isTray_0 rfl rfl ?_
  refine rz_if_lt 13 4 dX8_isTray_1 rfl rfl ?_ ?_
  · refine rz_iconst 14 dX8_isTray_13 rfl ci_0 ?_
    exact rz_zreturn rfl rfl dX8_isTray_14
  · refine rz_iload_n 5 1 dX8_isTray_4 rfl rfl ?_
    refine rz_iconst 6 dX8_isTray_5 rfl ci_4 ?_
    refine rz_icmp_ge 13 9 dX8_isTray_6 rfl rfl ?_ ?_
    · refine rz_iconst 14 dX8_isTray_13 rfl ci_0 ?_
      exact rz_zreturn rfl rfl dX8_isTray_14
    · refine rz_iconst 10 dX8_isTray_9 rfl ci_1 ?_
      refine rz_goto 14 dX8_isTray_10 rfl ?_
      exact rz_zreturn rfl rfl dX8_isTray_14
theorem tX8_isTray (v : mE) (d : Nat) (l0 : Nat) (l1 : Int32) : Mt v yX8_isTray cX8_isTray 2 (some .boolean) emI (d + 0) [vR l0, vI l1] (fX8_isTray l0 l1) := mt_of rfl rfl (fun h => by cases h) rfl rfl (rX8_isTray v d l0 l1)
theorem dX8_refuse_0 : decode cX8_refuse 0 = .ok (.aload_n 0, 1) := by decide +kernel
theorem dX8_refuse_1 : decode cX8_refuse 1 = .ok (.iload_n 1, 1) := by decide +kernel
theorem dX8_refuse_2 : decode cX8_refuse 2 = .ok (.putfield 51, 3) := by decide +kernel
theorem dX8_refuse_5 : decode cX8_refuse 5 = .ok (.iconst 0, 1) := by decide +kernel
theorem dX8_refuse_6 : decode cX8_refuse 6 = .ok (.ireturn, 1) := by decide +kernel
def fX8_refuse (l0 : Nat) (l1 : Int32) : mM Int32 := bPI 8 l0 11 l1 (bRetZ (0 : Int32))
set_option maxRecDepth 20000 in
theorem rX8_refuse (v : mE) (d : Nat) (l0 : Nat) (l1 : Int32) : Rz v RX8 cX8_refuse 2 (some .boolean) false emI (d + 0) 0 [(0, vR l0), (1, vI l1)] [] (fX8_refuse l0 l1) := by
  unfold fX8_refuse
  refine rz_aload_n 1 0 dX8_refuse_0 rfl rfl ?_
  refine rz_iload_n 2 1 dX8_refuse_1 rfl rfl ?_
  refine rz_pI 5 dX8_refuse_2 rfl rfl rfl rfl fl_X8_51 ?_
  refine rz_iconst 6 dX8_refuse_5 rfl ci_0 ?_
  exact rz_zreturn rfl rfl dX8_refuse_6
theorem tX8_refuse (v : mE) (d : Nat) (l0 : Nat) (l1 : Int32) : Mt v yX8_refuse cX8_refuse 2 (some .boolean) emI (d + 0) [vR l0, vI l1] (fX8_refuse l0 l1) := mt_of rfl rfl (fun h => by cases h) rfl rfl (rX8_refuse v d l0 l1)
theorem dX8_accept_0 : decode cX8_accept 0 = .ok (.aload_n 0, 1) := by decide +kernel
theorem dX8_accept_1 : decode cX8_accept 1 = .ok (.iconst 0, 1) := by decide +kernel
theorem dX8_accept_2 : decode cX8_accept 2 = .ok (.putfield 51, 3) := by decide +kernel
theorem dX8_accept_5 : decode cX8_accept 5 = .ok (.iconst 1, 1) := by decide +kernel
theorem dX8_accept_6 : decode cX8_accept 6 = .ok (.ireturn, 1) := by decide +kernel
def fX8_accept (l0 : Nat) : mM Int32 := bPI 8 l0 11 (0 : Int32) (bRetZ (1 : Int32))
set_option maxRecDepth 20000 in
theorem rX8_accept (v : mE) (d : Nat) (l0 : Nat) : Rz v RX8 cX8_accept 1 (some .boolean) false emI (d + 0) 0 [(0, vR l0)] [] (fX8_accept l0) := by
  unfold fX8_accept
  refine rz_aload_n 1 0 dX8_accept_0 rfl rfl ?_
  refine rz_iconst 2 dX8_accept_1 rfl ci_0 ?_
  refine rz_pI 5 dX8_accept_2 rfl rfl rfl rfl fl_X8_51 ?_
  refine rz_iconst 6 dX8_accept_5 rfl ci_1 ?_
  exact rz_zreturn rfl rfl dX8_accept_6
theorem tX8_accept (v : mE) (d : Nat) (l0 : Nat) : Mt v yX8_accept cX8_accept 1 (some .boolean) emI (d + 0) [vR l0] (fX8_accept l0) := mt_of rfl rfl (fun h => by cases h) rfl rfl (rX8_accept v d l0)
theorem dX8_tray_0 : decode cX8_tray 0 = .ok (.aload_n 0, 1) := by decide +kernel
theorem dX8_tray_1 : decode cX8_tray 1 = .ok (.iload_n 1, 1) := by decide +kernel
theorem dX8_tray_2 : decode cX8_tray 2 = .ok (.invokevirtual 91, 3) := by decide +kernel
theorem dX8_tray_5 : decode cX8_tray 5 = .ok (.ifCond .eq 12, 3) := by decide +kernel
theorem dX8_tray_8 : decode cX8_tray 8 = .ok (.iload_n 2, 1) := by decide +kernel
theorem dX8_tray_9 : decode cX8_tray 9 = .ok (.ifCond .lt 8, 3) := by decide +kernel
theorem dX8_tray_12 : decode cX8_tray 12 = .ok (.iload_n 2, 1) := by decide +kernel
theorem dX8_tray_13 : decode cX8_tray 13 = .ok (.iconst 4, 1) := by decide +kernel
theorem dX8_tray_14 : decode cX8_tray 14 = .ok (.if_icmp .lt 9, 3) := by decide +kernel
theorem dX8_tray_17 : decode cX8_tray 17 = .ok (.aload_n 0, 1) := by decide +kernel
theorem dX8_tray_18 : decode cX8_tray 18 = .ok (.iconst 1, 1) := by decide +kernel
theorem dX8_tray_19 : decode cX8_tray 19 = .ok (.invokevirtual 95, 3) := by decide +kernel
theorem dX8_tray_22 : decode cX8_tray 22 = .ok (.ireturn, 1) := by decide +kernel
theorem dX8_tray_23 : decode cX8_tray 23 = .ok (.iload_n 3, 1) := by decide +kernel
theorem dX8_tray_24 : decode cX8_tray 24 = .ok (.bipush 60, 2) := by decide +kernel
theorem dX8_tray_26 : decode cX8_tray 26 = .ok (.if_icmp .le 9, 3) := by decide +kernel
theorem dX8_tray_29 : decode cX8_tray 29 = .ok (.aload_n 0, 1) := by decide +kernel
theorem dX8_tray_30 : decode cX8_tray 30 = .ok (.iconst 5, 1) := by decide +kernel
theorem dX8_tray_31 : decode cX8_tray 31 = .ok (.invokevirtual 95, 3) := by decide +kernel
theorem dX8_tray_34 : decode cX8_tray 34 = .ok (.ireturn, 1) := by decide +kernel
theorem dX8_tray_35 : decode cX8_tray 35 = .ok (.iload_n 3, 1) := by decide +kernel
theorem dX8_tray_36 : decode cX8_tray 36 = .ok (.ifCond .ge 10, 3) := by decide +kernel
theorem dX8_tray_39 : decode cX8_tray 39 = .ok (.aload_n 0, 1) := by decide +kernel
theorem dX8_tray_40 : decode cX8_tray 40 = .ok (.bipush 6, 2) := by decide +kernel
theorem dX8_tray_42 : decode cX8_tray 42 = .ok (.invokevirtual 95, 3) := by decide +kernel
theorem dX8_tray_45 : decode cX8_tray 45 = .ok (.ireturn, 1) := by decide +kernel
theorem dX8_tray_46 : decode cX8_tray 46 = .ok (.aload_n 0, 1) := by decide +kernel
theorem dX8_tray_47 : decode cX8_tray 47 = .ok (.getfield 11, 3) := by decide +kernel
theorem dX8_tray_50 : decode cX8_tray 50 = .ok (.iload_n 1, 1) := by decide +kernel
theorem dX8_tray_51 : decode cX8_tray 51 = .ok (.aaload, 1) := by decide +kernel
theorem dX8_tray_52 : decode cX8_tray 52 = .ok (.iload_n 2, 1) := by decide +kernel
theorem dX8_tray_53 : decode cX8_tray 53 = .ok (.iload_n 3, 1) := by decide +kernel
theorem dX8_tray_54 : decode cX8_tray 54 = .ok (.invokevirtual 98, 3) := by decide +kernel
theorem dX8_tray_57 : decode cX8_tray 57 = .ok (.aload_n 0, 1) := by decide +kernel
theorem dX8_tray_58 : decode cX8_tray 58 = .ok (.invokevirtual 102, 3) := by decide +kernel
theorem dX8_tray_61 : decode cX8_tray 61 = .ok (.ireturn, 1) := by decide +kernel
def fX8_tray_17 (l0 : Nat) : mM Int32 := bCallV 8 l0 (fX8_refuse l0 (1 : Int32)) (fun x1 => bRetZ x1)
set_option maxRecDepth 20000 in
theorem rX8_tray_17 (v : mE) (d : Nat) (l0 : Nat) : Rz v RX8 cX8_tray 4 (some .boolean) false emI (d + 2) 17 [(0, vR l0)] [] (fX8_tray_17 l0) := by
  unfold fX8_tray_17
  refine rz_aload_n 18 0 dX8_tray_17 rfl rfl ?_
  refine rz_iconst 19 dX8_tray_18 rfl ci_1 ?_
  refine rz_callV 22 dX8_tray_19 rfl (tX8_refuse v (d + 1) l0 (1 : Int32)) rfl rfl rfl rfl ml_X8_95 im_X8_refuse se_X8_X8_refuse in_X8 co_X8_refuse rfl rfl (fun x1 => ?_)
  exact rz_zreturn rfl rfl dX8_tray_22
def fX8_tray (l0 : Nat) (l1 : Int32) (l2 : Int32) (l3 : Int32) : mM Int32 := bCallV 8 l0 (fX8_isTray l0 l1) (fun x1 => bIf (x1 = 0) (fX8_tray_17 l0) (bIf (l2 < 0) (fX8_tray_17 l0) (bIf (l2 < (4 : Int32)) (bIf (l3 ≤ (60 : Int32)) (bIf (0 ≤ l3) (bGR 8 l0 0 (fun x2 => bAR 15 x2 l1 (fun x3 => bCallV 5 x3 (fX5_lay x3 l2 l3) (fun _ => bCallV 8 l0 (fX8_accept l0) (fun x4 => bRetZ x4))))) (bCallV 8 l0 (fX8_refuse l0 (6 : Int32)) (fun x5 => bRetZ x5))) (bCallV 8 l0 (fX8_refuse l0 (5 : Int32)) (fun x6 => bRetZ x6))) (fX8_tray_17 l0))))
set_option maxRecDepth 20000 in
theorem rX8_tray (v : mE) (d : Nat) (l0 : Nat) (l1 : Int32) (l2 : Int32) (l3 : Int32) : Rz v RX8 cX8_tray 4 (some .boolean) false emI (d + 2) 0 [(0, vR l0), (1, vI l1), (2, vI l2), (3, vI l3)] [] (fX8_tray l0 l1 l2 l3) := by
  unfold fX8_tray
  refine rz_aload_n 1 0 dX8_tray_0 rfl rfl ?_
  refine rz_iload_n 2 1 dX8_tray_1 rfl rfl ?_
  refine rz_callV 5 dX8_tray_2 rfl (tX8_isTray v (d + 1) l0 l1) rfl rfl rfl rfl ml_X8_91 im_X8_isTray se_X8_X8_isTray in_X8 co_X8_isTray rfl rfl (fun x1 => ?_)
  refine rz_if_eq 17 8 dX8_tray_5 rfl rfl ?_ ?_
  · exact rz_sub [0] rfl (rX8_tray_17 v d l0)
  · refine rz_iload_n 9 2 dX8_tray_8 rfl rfl ?_
    refine rz_if_lt 17 12 dX8_tray_9 rfl rfl ?_ ?_
    · exact rz_sub [0] rfl (rX8_tray_17 v d l0)
    · refine rz_iload_n 13 2 dX8_tray_12 rfl rfl ?_
      refine rz_iconst 14 dX8_tray_13 rfl ci_4 ?_
      refine rz_icmp_lt 23 17 dX8_tray_14 rfl rfl ?_ ?_
      · refine rz_iload_n 24 3 dX8_tray_23 rfl rfl ?_
        refine rz_bipush 26 dX8_tray_24 rfl cb_60 ?_
        refine rz_icmp_le 35 29 dX8_tray_26 rfl rfl ?_ ?_
        · refine rz_iload_n 36 3 dX8_tray_35 rfl rfl ?_
          refine rz_if_ge 46 39 dX8_tray_36 rfl rfl ?_ ?_
          · refine rz_aload_n 47 0 dX8_tray_46 rfl rfl ?_
            refine rz_gR 50 dX8_tray_47 rfl rfl fl_X8_11 (fun x2 => ?_)
            refine rz_iload_n 51 1 dX8_tray_50 rfl rfl ?_
            refine rz_aald 52 dX8_tray_51 rfl (by decide) (fun x3 => ?_)
            refine rz_iload_n 53 2 dX8_tray_52 rfl rfl ?_
            refine rz_iload_n 54 3 dX8_tray_53 rfl rfl ?_
            refine rz_callV 57 dX8_tray_54 rfl (tX5_lay v (d + 0) x3 l2 l3) rfl rfl rfl rfl ml_X8_98 im_X5_lay se_X5_X5_lay in_X5 co_X5_lay rfl rfl (fun _ => ?_)
            refine rz_aload_n 58 0 dX8_tray_57 rfl rfl ?_
            refine rz_callV 61 dX8_tray_58 rfl (tX8_accept v (d + 1) l0) rfl rfl rfl rfl ml_X8_102 im_X8_accept se_X8_X8_accept in_X8 co_X8_accept rfl rfl (fun x4 => ?_)
            exact rz_zreturn rfl rfl dX8_tray_61
          · refine rz_aload_n 40 0 dX8_tray_39 rfl rfl ?_
            refine rz_bipush 42 dX8_tray_40 rfl cb_6 ?_
            refine rz_callV 45 dX8_tray_42 rfl (tX8_refuse v (d + 1) l0 (6 : Int32)) rfl rfl rfl rfl ml_X8_95 im_X8_refuse se_X8_X8_refuse in_X8 co_X8_refuse rfl rfl (fun x5 => ?_)
            exact rz_zreturn rfl rfl dX8_tray_45
        · refine rz_aload_n 30 0 dX8_tray_29 rfl rfl ?_
          refine rz_iconst 31 dX8_tray_30 rfl ci_5 ?_
          refine rz_callV 34 dX8_tray_31 rfl (tX8_refuse v (d + 1) l0 (5 : Int32)) rfl rfl rfl rfl ml_X8_95 im_X8_refuse se_X8_X8_refuse in_X8 co_X8_refuse rfl rfl (fun x6 => ?_)
          exact rz_zreturn rfl rfl dX8_tray_34
      · exact rz_sub [0] rfl (rX8_tray_17 v d l0)
theorem tX8_tray (v : mE) (d : Nat) (l0 : Nat) (l1 : Int32) (l2 : Int32) (l3 : Int32) : Mt v yX8_tray cX8_tray 4 (some .boolean) emI (d + 2) [vR l0, vI l1, vI l2, vI l3] (fX8_tray l0 l1 l2 l3) := mt_of rfl rfl (fun h => by cases h) rfl rfl (rX8_tray v d l0 l1 l2 l3)
theorem dX8_placeStatus_0 : decode cX8_placeStatus 0 = .ok (.aload_n 0, 1) := by decide +kernel
theorem dX8_placeStatus_1 : decode cX8_placeStatus 1 = .ok (.iload_n 1, 1) := by decide +kernel
theorem dX8_placeStatus_2 : decode cX8_placeStatus 2 = .ok (.invokevirtual 91, 3) := by decide +kernel
theorem dX8_placeStatus_5 : decode cX8_placeStatus 5 = .ok (.ifCond .ne 5, 3) := by decide +kernel
theorem dX8_placeStatus_8 : decode cX8_placeStatus 8 = .ok (.iconst 1, 1) := by decide +kernel
theorem dX8_placeStatus_9 : decode cX8_placeStatus 9 = .ok (.ireturn, 1) := by decide +kernel
theorem dX8_placeStatus_10 : decode cX8_placeStatus 10 = .ok (.aload_n 0, 1) := by decide +kernel
theorem dX8_placeStatus_11 : decode cX8_placeStatus 11 = .ok (.getfield 11, 3) := by decide +kernel
theorem dX8_placeStatus_14 : decode cX8_placeStatus 14 = .ok (.iload_n 1, 1) := by decide +kernel
theorem dX8_placeStatus_15 : decode cX8_placeStatus 15 = .ok (.aaload, 1) := by decide +kernel
theorem dX8_placeStatus_16 : decode cX8_placeStatus 16 = .ok (.invokevirtual 132, 3) := by decide +kernel
theorem dX8_placeStatus_19 : decode cX8_placeStatus 19 = .ok (.ifCond .eq 5, 3) := by decide +kernel
theorem dX8_placeStatus_22 : decode cX8_placeStatus 22 = .ok (.iconst 3, 1) := by decide +kernel
theorem dX8_placeStatus_23 : decode cX8_placeStatus 23 = .ok (.ireturn, 1) := by decide +kernel
theorem dX8_placeStatus_24 : decode cX8_placeStatus 24 = .ok (.iload_n 2, 1) := by decide +kernel
theorem dX8_placeStatus_25 : decode cX8_placeStatus 25 = .ok (.ifCond .lt 16, 3) := by decide +kernel
theorem dX8_placeStatus_28 : decode cX8_placeStatus 28 = .ok (.iload_n 2, 1) := by decide +kernel
theorem dX8_placeStatus_29 : decode cX8_placeStatus 29 = .ok (.aload_n 0, 1) := by decide +kernel
theorem dX8_placeStatus_30 : decode cX8_placeStatus 30 = .ok (.getfield 11, 3) := by decide +kernel
theorem dX8_placeStatus_33 : decode cX8_placeStatus 33 = .ok (.iload_n 1, 1) := by decide +kernel
theorem dX8_placeStatus_34 : decode cX8_placeStatus 34 = .ok (.aaload, 1) := by decide +kernel
theorem dX8_placeStatus_35 : decode cX8_placeStatus 35 = .ok (.getfield 135, 3) := by decide +kernel
theorem dX8_placeStatus_38 : decode cX8_placeStatus 38 = .ok (.if_icmp .lt 7, 3) := by decide +kernel
theorem dX8_placeStatus_41 : decode cX8_placeStatus 41 = .ok (.iconst 4, 1) := by decide +kernel
theorem dX8_placeStatus_42 : decode cX8_placeStatus 42 = .ok (.goto 4, 3) := by decide +kernel
theorem dX8_placeStatus_45 : decode cX8_placeStatus 45 = .ok (.iconst 0, 1) := by decide +kernel
theorem dX8_placeStatus_46 : decode cX8_placeStatus 46 = .ok (.ireturn, 1) := by decide +kernel
def fX8_placeStatus (l0 : Nat) (l1 : Int32) (l2 : Int32) : mM Int32 := bCallV 8 l0 (fX8_isTray l0 l1) (fun x1 => bIf (x1 = 0) (bRet (1 : Int32)) (bGR 8 l0 0 (fun x2 => bAR 15 x2 l1 (fun x3 => bCallV 5 x3 (fX5_isMissing x3) (fun x4 => bIf (x4 = 0) (bIf (l2 < 0) (bRet (4 : Int32)) (bGR 8 l0 0 (fun x5 => bAR 15 x5 l1 (fun x6 => bGI 5 x6 2 (fun x7 => bIf (l2 < x7) (bRet (0 : Int32)) (bRet (4 : Int32))))))) (bRet (3 : Int32)))))))
set_option maxRecDepth 20000 in
theorem rX8_placeStatus (v : mE) (d : Nat) (l0 : Nat) (l1 : Int32) (l2 : Int32) : Rz v RX8 cX8_placeStatus 3 (some .int) false emI (d + 1) 0 [(0, vR l0), (1, vI l1), (2, vI l2)] [] (fX8_placeStatus l0 l1 l2) := by
  unfold fX8_placeStatus
  refine rz_aload_n 1 0 dX8_placeStatus_0 rfl rfl ?_
  refine rz_iload_n 2 1 dX8_placeStatus_1 rfl rfl ?_
  refine rz_callV 5 dX8_placeStatus_2 rfl (tX8_isTray v (d + 0) l0 l1) rfl rfl rfl rfl ml_X8_91 im_X8_isTray se_X8_X8_isTray in_X8 co_X8_isTray rfl rfl (fun x1 => ?_)
  refine rz_if_ne 10 8 dX8_placeStatus_5 rfl rfl ?_ ?_
  · refine rz_aload_n 11 0 dX8_placeStatus_10 rfl rfl ?_
    refine rz_gR 14 dX8_placeStatus_11 rfl rfl fl_X8_11 (fun x2 => ?_)
    refine rz_iload_n 15 1 dX8_placeStatus_14 rfl rfl ?_
    refine rz_aald 16 dX8_placeStatus_15 rfl (by decide) (fun x3 => ?_)
    refine rz_callV 19 dX8_placeStatus_16 rfl (tX5_isMissing v (d + 0) x3) rfl rfl rfl rfl ml_X8_132 im_X5_isMissing se_X5_X5_isMissing in_X5 co_X5_isMissing rfl rfl (fun x4 => ?_)
    refine rz_if_eq 24 22 dX8_placeStatus_19 rfl rfl ?_ ?_
    · refine rz_iload_n 25 2 dX8_placeStatus_24 rfl rfl ?_
      refine rz_if_lt 41 28 dX8_placeStatus_25 rfl rfl ?_ ?_
      · refine rz_iconst 42 dX8_placeStatus_41 rfl ci_4 ?_
        refine rz_goto 46 dX8_placeStatus_42 rfl ?_
        exact rz_ireturn rfl rfl dX8_placeStatus_46
      · refine rz_iload_n 29 2 dX8_placeStatus_28 rfl rfl ?_
        refine rz_aload_n 30 0 dX8_placeStatus_29 rfl rfl ?_
        refine rz_gR 33 dX8_placeStatus_30 rfl rfl fl_X8_11 (fun x5 => ?_)
        refine rz_iload_n 34 1 dX8_placeStatus_33 rfl rfl ?_
        refine rz_aald 35 dX8_placeStatus_34 rfl (by decide) (fun x6 => ?_)
        refine rz_gI 38 dX8_placeStatus_35 rfl rfl fl_X8_135 (fun x7 => ?_)
        refine rz_icmp_lt 45 41 dX8_placeStatus_38 rfl rfl ?_ ?_
        · refine rz_iconst 46 dX8_placeStatus_45 rfl ci_0 ?_
          exact rz_ireturn rfl rfl dX8_placeStatus_46
        · refine rz_iconst 42 dX8_placeStatus_41 rfl ci_4 ?_
          refine rz_goto 46 dX8_placeStatus_42 rfl ?_
          exact rz_ireturn rfl rfl dX8_placeStatus_46
    · refine rz_iconst 23 dX8_placeStatus_22 rfl ci_3 ?_
      exact rz_ireturn rfl rfl dX8_placeStatus_23
  · refine rz_iconst 9 dX8_placeStatus_8 rfl ci_1 ?_
    exact rz_ireturn rfl rfl dX8_placeStatus_9
theorem tX8_placeStatus (v : mE) (d : Nat) (l0 : Nat) (l1 : Int32) (l2 : Int32) : Mt v yX8_placeStatus cX8_placeStatus 3 (some .int) emI (d + 1) [vR l0, vI l1, vI l2] (fX8_placeStatus l0 l1 l2) := mt_of rfl rfl (fun h => by cases h) rfl rfl (rX8_placeStatus v d l0 l1 l2)
theorem dX8_write_0 : decode cX8_write 0 = .ok (.aload_n 0, 1) := by decide +kernel
theorem dX8_write_1 : decode cX8_write 1 = .ok (.iload_n 1, 1) := by decide +kernel
theorem dX8_write_2 : decode cX8_write 2 = .ok (.iload_n 2, 1) := by decide +kernel
theorem dX8_write_3 : decode cX8_write 3 = .ok (.invokevirtual 106, 3) := by decide +kernel
theorem dX8_write_6 : decode cX8_write 6 = .ok (.istore 5, 2) := by decide +kernel
theorem dX8_write_8 : decode cX8_write 8 = .ok (.iload 5, 2) := by decide +kernel
theorem dX8_write_10 : decode cX8_write 10 = .ok (.ifCond .eq 10, 3) := by decide +kernel
theorem dX8_write_13 : decode cX8_write 13 = .ok (.aload_n 0, 1) := by decide +kernel
theorem dX8_write_14 : decode cX8_write 14 = .ok (.iload 5, 2) := by decide +kernel
theorem dX8_write_16 : decode cX8_write 16 = .ok (.invokevirtual 95, 3) := by decide +kernel
theorem dX8_write_19 : decode cX8_write 19 = .ok (.ireturn, 1) := by decide +kernel
theorem dX8_write_20 : decode cX8_write 20 = .ok (.aload_n 0, 1) := by decide +kernel
theorem dX8_write_21 : decode cX8_write 21 = .ok (.getfield 11, 3) := by decide +kernel
theorem dX8_write_24 : decode cX8_write 24 = .ok (.iload_n 1, 1) := by decide +kernel
theorem dX8_write_25 : decode cX8_write 25 = .ok (.aaload, 1) := by decide +kernel
theorem dX8_write_26 : decode cX8_write 26 = .ok (.iload_n 2, 1) := by decide +kernel
theorem dX8_write_27 : decode cX8_write 27 = .ok (.lload_n 3, 1) := by decide +kernel
theorem dX8_write_28 : decode cX8_write 28 = .ok (.invokevirtual 110, 3) := by decide +kernel
theorem dX8_write_31 : decode cX8_write 31 = .ok (.aload_n 0, 1) := by decide +kernel
theorem dX8_write_32 : decode cX8_write 32 = .ok (.invokevirtual 102, 3) := by decide +kernel
theorem dX8_write_35 : decode cX8_write 35 = .ok (.ireturn, 1) := by decide +kernel
def fX8_write (l0 : Nat) (l1 : Int32) (l2 : Int32) (l3 : Int64) : mM Int32 := bCallV 8 l0 (fX8_placeStatus l0 l1 l2) (fun x1 => bIf (x1 = 0) (bGR 8 l0 0 (fun x2 => bAR 15 x2 l1 (fun x3 => bCallV 5 x3 (fX5_put x3 l2 l3) (fun _ => bCallV 8 l0 (fX8_accept l0) (fun x4 => bRetZ x4))))) (bCallV 8 l0 (fX8_refuse l0 x1) (fun x5 => bRetZ x5)))
set_option maxRecDepth 20000 in
theorem rX8_write (v : mE) (d : Nat) (l0 : Nat) (l1 : Int32) (l2 : Int32) (l3 : Int64) : Rz v RX8 cX8_write 6 (some .boolean) false emI (d + 2) 0 [(0, vR l0), (1, vI l1), (2, vI l2), (3, vL l3)] [] (fX8_write l0 l1 l2 l3) := by
  unfold fX8_write
  refine rz_aload_n 1 0 dX8_write_0 rfl rfl ?_
  refine rz_iload_n 2 1 dX8_write_1 rfl rfl ?_
  refine rz_iload_n 3 2 dX8_write_2 rfl rfl ?_
  refine rz_callV 6 dX8_write_3 rfl (tX8_placeStatus v (d + 0) l0 l1 l2) rfl rfl rfl rfl ml_X8_106 im_X8_placeStatus se_X8_X8_placeStatus in_X8 co_X8_placeStatus rfl rfl (fun x1 => ?_)
  refine rz_istore (lv' := [(5, vI x1), (0, vR l0), (1, vI l1), (2, vI l2), (3, vL l3)]) 8 dX8_write_6 rfl rfl rfl ?_
  refine rz_iload 10 0 dX8_write_8 rfl rfl ?_
  refine rz_if_eq 20 13 dX8_write_10 rfl rfl ?_ ?_
  · refine rz_aload_n 21 1 dX8_write_20 rfl rfl ?_
    refine rz_gR 24 dX8_write_21 rfl rfl fl_X8_11 (fun x2 => ?_)
    refine rz_iload_n 25 2 dX8_write_24 rfl rfl ?_
    refine rz_aald 26 dX8_write_25 rfl (by decide) (fun x3 => ?_)
    refine rz_iload_n 27 3 dX8_write_26 rfl rfl ?_
    refine rz_lload_n 28 4 dX8_write_27 rfl rfl ?_
    refine rz_callV 31 dX8_write_28 rfl (tX5_put v (d + 1) x3 l2 l3) rfl rfl rfl rfl ml_X8_110 im_X5_put se_X5_X5_put in_X5 co_X5_put rfl rfl (fun _ => ?_)
    refine rz_aload_n 32 1 dX8_write_31 rfl rfl ?_
    refine rz_callV 35 dX8_write_32 rfl (tX8_accept v (d + 1) l0) rfl rfl rfl rfl ml_X8_102 im_X8_accept se_X8_X8_accept in_X8 co_X8_accept rfl rfl (fun x4 => ?_)
    exact rz_zreturn rfl rfl dX8_write_35
  · refine rz_aload_n 14 1 dX8_write_13 rfl rfl ?_
    refine rz_iload 16 0 dX8_write_14 rfl rfl ?_
    refine rz_callV 19 dX8_write_16 rfl (tX8_refuse v (d + 1) l0 x1) rfl rfl rfl rfl ml_X8_95 im_X8_refuse se_X8_X8_refuse in_X8 co_X8_refuse rfl rfl (fun x5 => ?_)
    exact rz_zreturn rfl rfl dX8_write_19
theorem tX8_write (v : mE) (d : Nat) (l0 : Nat) (l1 : Int32) (l2 : Int32) (l3 : Int64) : Mt v yX8_write cX8_write 6 (some .boolean) emI (d + 2) [vR l0, vI l1, vI l2, vL l3] (fX8_write l0 l1 l2 l3) := mt_of rfl rfl (fun h => by cases h) rfl rfl (rX8_write v d l0 l1 l2 l3)
theorem dX8_none_0 : decode cX8_none 0 = .ok (.aload_n 0, 1) := by decide +kernel
theorem dX8_none_1 : decode cX8_none 1 = .ok (.iload_n 1, 1) := by decide +kernel
theorem dX8_none_2 : decode cX8_none 2 = .ok (.putfield 51, 3) := by decide +kernel
theorem dX8_none_5 : decode cX8_none 5 = .ok (.iconst (-1), 1) := by decide +kernel
theorem dX8_none_6 : decode cX8_none 6 = .ok (.ireturn, 1) := by decide +kernel
def fX8_none (l0 : Nat) (l1 : Int32) : mM Int32 := bPI 8 l0 11 l1 (bRet (-1 : Int32))
set_option maxRecDepth 20000 in
theorem rX8_none (v : mE) (d : Nat) (l0 : Nat) (l1 : Int32) : Rz v RX8 cX8_none 2 (some .int) false emI (d + 0) 0 [(0, vR l0), (1, vI l1)] [] (fX8_none l0 l1) := by
  unfold fX8_none
  refine rz_aload_n 1 0 dX8_none_0 rfl rfl ?_
  refine rz_iload_n 2 1 dX8_none_1 rfl rfl ?_
  refine rz_pI 5 dX8_none_2 rfl rfl rfl rfl fl_X8_51 ?_
  refine rz_iconst 6 dX8_none_5 rfl ci_m1 ?_
  exact rz_ireturn rfl rfl dX8_none_6
theorem tX8_none (v : mE) (d : Nat) (l0 : Nat) (l1 : Int32) : Mt v yX8_none cX8_none 2 (some .int) emI (d + 0) [vR l0, vI l1] (fX8_none l0 l1) := mt_of rfl rfl (fun h => by cases h) rfl rfl (rX8_none v d l0 l1)
theorem dX8_read_0 : decode cX8_read 0 = .ok (.aload_n 0, 1) := by decide +kernel
theorem dX8_read_1 : decode cX8_read 1 = .ok (.iload_n 1, 1) := by decide +kernel
theorem dX8_read_2 : decode cX8_read 2 = .ok (.iload_n 2, 1) := by decide +kernel
theorem dX8_read_3 : decode cX8_read 3 = .ok (.invokevirtual 106, 3) := by decide +kernel
theorem dX8_read_6 : decode cX8_read 6 = .ok (.istore_n 3, 1) := by decide +kernel
theorem dX8_read_7 : decode cX8_read 7 = .ok (.iload_n 3, 1) := by decide +kernel
theorem dX8_read_8 : decode cX8_read 8 = .ok (.ifCond .eq 10, 3) := by decide +kernel
theorem dX8_read_11 : decode cX8_read 11 = .ok (.aload_n 0, 1) := by decide +kernel
theorem dX8_read_12 : decode cX8_read 12 = .ok (.iload_n 3, 1) := by decide +kernel
theorem dX8_read_13 : decode cX8_read 13 = .ok (.invokevirtual 114, 3) := by decide +kernel
theorem dX8_read_16 : decode cX8_read 16 = .ok (.i2l, 1) := by decide +kernel
theorem dX8_read_17 : decode cX8_read 17 = .ok (.lreturn, 1) := by decide +kernel
theorem dX8_read_18 : decode cX8_read 18 = .ok (.aload_n 0, 1) := by decide +kernel
theorem dX8_read_19 : decode cX8_read 19 = .ok (.iconst 0, 1) := by decide +kernel
theorem dX8_read_20 : decode cX8_read 20 = .ok (.putfield 51, 3) := by decide +kernel
theorem dX8_read_23 : decode cX8_read 23 = .ok (.aload_n 0, 1) := by decide +kernel
theorem dX8_read_24 : decode cX8_read 24 = .ok (.getfield 11, 3) := by decide +kernel
theorem dX8_read_27 : decode cX8_read 27 = .ok (.iload_n 1, 1) := by decide +kernel
theorem dX8_read_28 : decode cX8_read 28 = .ok (.aaload, 1) := by decide +kernel
theorem dX8_read_29 : decode cX8_read 29 = .ok (.getfield 118, 3) := by decide +kernel
theorem dX8_read_32 : decode cX8_read 32 = .ok (.iload_n 2, 1) := by decide +kernel
theorem dX8_read_33 : decode cX8_read 33 = .ok (.laload, 1) := by decide +kernel
theorem dX8_read_34 : decode cX8_read 34 = .ok (.lreturn, 1) := by decide +kernel
def fX8_read (l0 : Nat) (l1 : Int32) (l2 : Int32) : mM Int64 := bCallV 8 l0 (fX8_placeStatus l0 l1 l2) (fun x1 => bIf (x1 = 0) (bPI 8 l0 11 (0 : Int32) (bGR 8 l0 0 (fun x2 => bAR 15 x2 l1 (fun x3 => bGR 5 x3 0 (fun x4 => bAL x4 l2 (fun x5 => bRet x5)))))) (bCallV 8 l0 (fX8_none l0 x1) (fun x6 => bRet (Int32.toInt64 x6))))
set_option maxRecDepth 20000 in
theorem rX8_read (v : mE) (d : Nat) (l0 : Nat) (l1 : Int32) (l2 : Int32) : Rz v RX8 cX8_read 4 (some .long) false emL (d + 2) 0 [(0, vR l0), (1, vI l1), (2, vI l2)] [] (fX8_read l0 l1 l2) := by
  unfold fX8_read
  refine rz_aload_n 1 0 dX8_read_0 rfl rfl ?_
  refine rz_iload_n 2 1 dX8_read_1 rfl rfl ?_
  refine rz_iload_n 3 2 dX8_read_2 rfl rfl ?_
  refine rz_callV 6 dX8_read_3 rfl (tX8_placeStatus v (d + 0) l0 l1 l2) rfl rfl rfl rfl ml_X8_106 im_X8_placeStatus se_X8_X8_placeStatus in_X8 co_X8_placeStatus rfl rfl (fun x1 => ?_)
  refine rz_istore_n (lv' := [(3, vI x1), (0, vR l0), (1, vI l1), (2, vI l2)]) 7 dX8_read_6 rfl rfl rfl ?_
  refine rz_iload_n 8 0 dX8_read_7 rfl rfl ?_
  refine rz_if_eq 18 11 dX8_read_8 rfl rfl ?_ ?_
  · refine rz_aload_n 19 1 dX8_read_18 rfl rfl ?_
    refine rz_iconst 20 dX8_read_19 rfl ci_0 ?_
    refine rz_pI 23 dX8_read_20 rfl rfl rfl rfl fl_X8_51 ?_
    refine rz_aload_n 24 1 dX8_read_23 rfl rfl ?_
    refine rz_gR 27 dX8_read_24 rfl rfl fl_X8_11 (fun x2 => ?_)
    refine rz_iload_n 28 2 dX8_read_27 rfl rfl ?_
    refine rz_aald 29 dX8_read_28 rfl (by decide) (fun x3 => ?_)
    refine rz_gR 32 dX8_read_29 rfl rfl fl_X8_118 (fun x4 => ?_)
    refine rz_iload_n 33 3 dX8_read_32 rfl rfl ?_
    refine rz_lald 34 dX8_read_33 rfl (fun x5 => ?_)
    exact rz_lreturn rfl rfl dX8_read_34
  · refine rz_aload_n 12 1 dX8_read_11 rfl rfl ?_
    refine rz_iload_n 13 0 dX8_read_12 rfl rfl ?_
    refine rz_callV 16 dX8_read_13 rfl (tX8_none v (d + 1) l0 x1) rfl rfl rfl rfl ml_X8_114 im_X8_none se_X8_X8_none in_X8 co_X8_none rfl rfl (fun x6 => ?_)
    refine rz_i2l 17 dX8_read_16 rfl ?_
    exact rz_lreturn rfl rfl dX8_read_17
theorem tX8_read (v : mE) (d : Nat) (l0 : Nat) (l1 : Int32) (l2 : Int32) : Mt v yX8_read cX8_read 4 (some .long) emL (d + 2) [vR l0, vI l1, vI l2] (fX8_read l0 l1 l2) := mt_of rfl rfl (fun h => by cases h) rfl rfl (rX8_read v d l0 l1 l2)
theorem dX8_pourStatus_0 : decode cX8_pourStatus 0 = .ok (.aload_n 0, 1) := by decide +kernel
theorem dX8_pourStatus_1 : decode cX8_pourStatus 1 = .ok (.iload_n 1, 1) := by decide +kernel
theorem dX8_pourStatus_2 : decode cX8_pourStatus 2 = .ok (.invokevirtual 91, 3) := by decide +kernel
theorem dX8_pourStatus_5 : decode cX8_pourStatus 5 = .ok (.ifCond .eq 11, 3) := by decide +kernel
theorem dX8_pourStatus_8 : decode cX8_pourStatus 8 = .ok (.aload_n 0, 1) := by decide +kernel
theorem dX8_pourStatus_9 : decode cX8_pourStatus 9 = .ok (.iload_n 3, 1) := by decide +kernel
theorem dX8_pourStatus_10 : decode cX8_pourStatus 10 = .ok (.invokevirtual 91, 3) := by decide +kernel
theorem dX8_pourStatus_13 : decode cX8_pourStatus 13 = .ok (.ifCond .ne 5, 3) := by decide +kernel
theorem dX8_pourStatus_16 : decode cX8_pourStatus 16 = .ok (.iconst 1, 1) := by decide +kernel
theorem dX8_pourStatus_17 : decode cX8_pourStatus 17 = .ok (.ireturn, 1) := by decide +kernel
theorem dX8_pourStatus_18 : decode cX8_pourStatus 18 = .ok (.aload_n 0, 1) := by decide +kernel
theorem dX8_pourStatus_19 : decode cX8_pourStatus 19 = .ok (.getfield 11, 3) := by decide +kernel
theorem dX8_pourStatus_22 : decode cX8_pourStatus 22 = .ok (.iload_n 1, 1) := by decide +kernel
theorem dX8_pourStatus_23 : decode cX8_pourStatus 23 = .ok (.aaload, 1) := by decide +kernel
theorem dX8_pourStatus_24 : decode cX8_pourStatus 24 = .ok (.astore 6, 2) := by decide +kernel
theorem dX8_pourStatus_26 : decode cX8_pourStatus 26 = .ok (.aload_n 0, 1) := by decide +kernel
theorem dX8_pourStatus_27 : decode cX8_pourStatus 27 = .ok (.getfield 11, 3) := by decide +kernel
theorem dX8_pourStatus_30 : decode cX8_pourStatus 30 = .ok (.iload_n 3, 1) := by decide +kernel
theorem dX8_pourStatus_31 : decode cX8_pourStatus 31 = .ok (.aaload, 1) := by decide +kernel
theorem dX8_pourStatus_32 : decode cX8_pourStatus 32 = .ok (.astore 7, 2) := by decide +kernel
theorem dX8_pourStatus_34 : decode cX8_pourStatus 34 = .ok (.aload 6, 2) := by decide +kernel
theorem dX8_pourStatus_36 : decode cX8_pourStatus 36 = .ok (.invokevirtual 132, 3) := by decide +kernel
theorem dX8_pourStatus_39 : decode cX8_pourStatus 39 = .ok (.ifCond .ne 11, 3) := by decide +kernel
theorem dX8_pourStatus_42 : decode cX8_pourStatus 42 = .ok (.aload 7, 2) := by decide +kernel
theorem dX8_pourStatus_44 : decode cX8_pourStatus 44 = .ok (.invokevirtual 132, 3) := by decide +kernel
theorem dX8_pourStatus_47 : decode cX8_pourStatus 47 = .ok (.ifCond .eq 5, 3) := by decide +kernel
theorem dX8_pourStatus_50 : decode cX8_pourStatus 50 = .ok (.iconst 3, 1) := by decide +kernel
theorem dX8_pourStatus_51 : decode cX8_pourStatus 51 = .ok (.ireturn, 1) := by decide +kernel
theorem dX8_pourStatus_52 : decode cX8_pourStatus 52 = .ok (.aload 6, 2) := by decide +kernel
theorem dX8_pourStatus_54 : decode cX8_pourStatus 54 = .ok (.getfield 138, 3) := by decide +kernel
theorem dX8_pourStatus_57 : decode cX8_pourStatus 57 = .ok (.aload 7, 2) := by decide +kernel
theorem dX8_pourStatus_59 : decode cX8_pourStatus 59 = .ok (.getfield 138, 3) := by decide +kernel
theorem dX8_pourStatus_62 : decode cX8_pourStatus 62 = .ok (.if_icmp .eq 6, 3) := by decide +kernel
theorem dX8_pourStatus_65 : decode cX8_pourStatus 65 = .ok (.bipush 11, 2) := by decide +kernel
theorem dX8_pourStatus_67 : decode cX8_pourStatus 67 = .ok (.ireturn, 1) := by decide +kernel
theorem dX8_pourStatus_68 : decode cX8_pourStatus 68 = .ok (.iload 5, 2) := by decide +kernel
theorem dX8_pourStatus_70 : decode cX8_pourStatus 70 = .ok (.ifCond .ge 6, 3) := by decide +kernel
theorem dX8_pourStatus_73 : decode cX8_pourStatus 73 = .ok (.bipush 6, 2) := by decide +kernel
theorem dX8_pourStatus_75 : decode cX8_pourStatus 75 = .ok (.ireturn, 1) := by decide +kernel
theorem dX8_pourStatus_76 : decode cX8_pourStatus 76 = .ok (.aload 6, 2) := by decide +kernel
theorem dX8_pourStatus_78 : decode cX8_pourStatus 78 = .ok (.iload_n 2, 1) := by decide +kernel
theorem dX8_pourStatus_79 : decode cX8_pourStatus 79 = .ok (.iload 5, 2) := by decide +kernel
theorem dX8_pourStatus_81 : decode cX8_pourStatus 81 = .ok (.invokevirtual 141, 3) := by decide +kernel
theorem dX8_pourStatus_84 : decode cX8_pourStatus 84 = .ok (.ifCond .eq 19, 3) := by decide +kernel
theorem dX8_pourStatus_87 : decode cX8_pourStatus 87 = .ok (.aload 7, 2) := by decide +kernel
theorem dX8_pourStatus_89 : decode cX8_pourStatus 89 = .ok (.iload 4, 2) := by decide +kernel
theorem dX8_pourStatus_91 : decode cX8_pourStatus 91 = .ok (.iload 5, 2) := by decide +kernel
theorem dX8_pourStatus_93 : decode cX8_pourStatus 93 = .ok (.invokevirtual 141, 3) := by decide +kernel
theorem dX8_pourStatus_96 : decode cX8_pourStatus 96 = .ok (.ifCond .eq 7, 3) := by decide +kernel
theorem dX8_pourStatus_99 : decode cX8_pourStatus 99 = .ok (.iconst 0, 1) := by decide +kernel
theorem dX8_pourStatus_100 : decode cX8_pourStatus 100 = .ok (.goto 4, 3) := by decide +kernel
theorem dX8_pourStatus_103 : decode cX8_pourStatus 103 = .ok (.iconst 4, 1) := by decide +kernel
theorem dX8_pourStatus_104 : decode cX8_pourStatus 104 = .ok (.ireturn, 1) := by decide +kernel
def fX8_pourStatus (l0 : Nat) (l1 : Int32) (l2 : Int32) (l3 : Int32) (l4 : Int32) (l5 : Int32) : mM Int32 := bCallV 8 l0 (fX8_isTray l0 l1) (fun x1 => bIf (x1 = 0) (bRet (1 : Int32)) (bCallV 8 l0 (fX8_isTray l0 l3) (fun x2 => bIf (x2 = 0) (bRet (1 : Int32)) (bGR 8 l0 0 (fun x3 => bAR 15 x3 l1 (fun x4 => bGR 8 l0 0 (fun x5 => bAR 15 x5 l3 (fun x6 => bCallV 5 x4 (fX5_isMissing x4) (fun x7 => bIf (x7 = 0) (bCallV 5 x6 (fX5_isMissing x6) (fun x8 => bIf (x8 = 0) (bGI 5 x4 1 (fun x9 => bGI 5 x6 1 (fun x10 => bIf (x9 = x10) (bIf (0 ≤ l5) (bCallV 5 x4 (fX5_has x4 l2 l5) (fun x11 => bIf (x11 = 0) (bRet (4 : Int32)) (bCallV 5 x6 (fX5_has x6 l4 l5) (fun x12 => bIf (x12 = 0) (bRet (4 : Int32)) (bRet (0 : Int32)))))) (bRet (6 : Int32))) (bRet (11 : Int32))))) (bRet (3 : Int32)))) (bRet (3 : Int32)))))))))))
set_option maxRecDepth 20000 in
theorem rX8_pourStatus (v : mE) (d : Nat) (l0 : Nat) (l1 : Int32) (l2 : Int32) (l3 : Int32) (l4 : Int32) (l5 : Int32) : Rz v RX8 cX8_pourStatus 8 (some .int) false emI (d + 1) 0 [(0, vR l0), (1, vI l1), (2, vI l2), (3, vI l3), (4, vI l4), (5, vI l5)] [] (fX8_pourStatus l0 l1 l2 l3 l4 l5) := by
  unfold fX8_pourStatus
  refine rz_aload_n 1 0 dX8_pourStatus_0 rfl rfl ?_
  refine rz_iload_n 2 1 dX8_pourStatus_1 rfl rfl ?_
  refine rz_callV 5 dX8_pourStatus_2 rfl (tX8_isTray v (d + 0) l0 l1) rfl rfl rfl rfl ml_X8_91 im_X8_isTray se_X8_X8_isTray in_X8 co_X8_isTray rfl rfl (fun x1 => ?_)
  refine rz_if_eq 16 8 dX8_pourStatus_5 rfl rfl ?_ ?_
  · refine rz_iconst 17 dX8_pourStatus_16 rfl ci_1 ?_
    exact rz_ireturn rfl rfl dX8_pourStatus_17
  · refine rz_aload_n 9 0 dX8_pourStatus_8 rfl rfl ?_
    refine rz_iload_n 10 3 dX8_pourStatus_9 rfl rfl ?_
    refine rz_callV 13 dX8_pourStatus_10 rfl (tX8_isTray v (d + 0) l0 l3) rfl rfl rfl rfl ml_X8_91 im_X8_isTray se_X8_X8_isTray in_X8 co_X8_isTray rfl rfl (fun x2 => ?_)
    refine rz_if_ne 18 16 dX8_pourStatus_13 rfl rfl ?_ ?_
    · refine rz_aload_n 19 0 dX8_pourStatus_18 rfl rfl ?_
      refine rz_gR 22 dX8_pourStatus_19 rfl rfl fl_X8_11 (fun x3 => ?_)
      refine rz_iload_n 23 1 dX8_pourStatus_22 rfl rfl ?_
      refine rz_aald 24 dX8_pourStatus_23 rfl (by decide) (fun x4 => ?_)
      refine rz_astore (lv' := [(6, vR x4), (0, vR l0), (1, vI l1), (2, vI l2), (3, vI l3), (4, vI l4), (5, vI l5)]) 26 dX8_pourStatus_24 rfl rfl rfl ?_
      refine rz_aload_n 27 1 dX8_pourStatus_26 rfl rfl ?_
      refine rz_gR 30 dX8_pourStatus_27 rfl rfl fl_X8_11 (fun x5 => ?_)
      refine rz_iload_n 31 4 dX8_pourStatus_30 rfl rfl ?_
      refine rz_aald 32 dX8_pourStatus_31 rfl (by decide) (fun x6 => ?_)
      refine rz_astore (lv' := [(7, vR x6), (6, vR x4), (0, vR l0), (1, vI l1), (2, vI l2), (3, vI l3), (4, vI l4), (5, vI l5)]) 34 dX8_pourStatus_32 rfl rfl rfl ?_
      refine rz_aload 36 1 dX8_pourStatus_34 rfl rfl ?_
      refine rz_callV 39 dX8_pourStatus_36 rfl (tX5_isMissing v (d + 0) x4) rfl rfl rfl rfl ml_X8_132 im_X5_isMissing se_X5_X5_isMissing in_X5 co_X5_isMissing rfl rfl (fun x7 => ?_)
      refine rz_if_ne 50 42 dX8_pourStatus_39 rfl rfl ?_ ?_
      · refine rz_iconst 51 dX8_pourStatus_50 rfl ci_3 ?_
        exact rz_ireturn rfl rfl dX8_pourStatus_51
      · refine rz_aload 44 0 dX8_pourStatus_42 rfl rfl ?_
        refine rz_callV 47 dX8_pourStatus_44 rfl (tX5_isMissing v (d + 0) x6) rfl rfl rfl rfl ml_X8_132 im_X5_isMissing se_X5_X5_isMissing in_X5 co_X5_isMissing rfl rfl (fun x8 => ?_)
        refine rz_if_eq 52 50 dX8_pourStatus_47 rfl rfl ?_ ?_
        · refine rz_aload 54 1 dX8_pourStatus_52 rfl rfl ?_
          refine rz_gI 57 dX8_pourStatus_54 rfl rfl fl_X8_138 (fun x9 => ?_)
          refine rz_aload 59 0 dX8_pourStatus_57 rfl rfl ?_
          refine rz_gI 62 dX8_pourStatus_59 rfl rfl fl_X8_138 (fun x10 => ?_)
          refine rz_icmp_eq 68 65 dX8_pourStatus_62 rfl rfl ?_ ?_
          · refine rz_iload 70 7 dX8_pourStatus_68 rfl rfl ?_
            refine rz_if_ge 76 73 dX8_pourStatus_70 rfl rfl ?_ ?_
            · refine rz_aload 78 1 dX8_pourStatus_76 rfl rfl ?_
              refine rz_iload_n 79 4 dX8_pourStatus_78 rfl rfl ?_
              refine rz_iload 81 7 dX8_pourStatus_79 rfl rfl ?_
              refine rz_callV 84 dX8_pourStatus_81 rfl (tX5_has v (d + 0) x4 l2 l5) rfl rfl rfl rfl ml_X8_141 im_X5_has se_X5_X5_has in_X5 co_X5_has rfl rfl (fun x11 => ?_)
              refine rz_if_eq 103 87 dX8_pourStatus_84 rfl rfl ?_ ?_
              · refine rz_iconst 104 dX8_pourStatus_103 rfl ci_4 ?_
                exact rz_ireturn rfl rfl dX8_pourStatus_104
              · refine rz_aload 89 0 dX8_pourStatus_87 rfl rfl ?_
                refine rz_iload 91 6 dX8_pourStatus_89 rfl rfl ?_
                refine rz_iload 93 7 dX8_pourStatus_91 rfl rfl ?_
                refine rz_callV 96 dX8_pourStatus_93 rfl (tX5_has v (d + 0) x6 l4 l5) rfl rfl rfl rfl ml_X8_141 im_X5_has se_X5_X5_has in_X5 co_X5_has rfl rfl (fun x12 => ?_)
                refine rz_if_eq 103 99 dX8_pourStatus_96 rfl rfl ?_ ?_
                · refine rz_iconst 104 dX8_pourStatus_103 rfl ci_4 ?_
                  exact rz_ireturn rfl rfl dX8_pourStatus_104
                · refine rz_iconst 100 dX8_pourStatus_99 rfl ci_0 ?_
                  refine rz_goto 104 dX8_pourStatus_100 rfl ?_
                  exact rz_ireturn rfl rfl dX8_pourStatus_104
            · refine rz_bipush 75 dX8_pourStatus_73 rfl cb_6 ?_
              exact rz_ireturn rfl rfl dX8_pourStatus_75
          · refine rz_bipush 67 dX8_pourStatus_65 rfl cb_11 ?_
            exact rz_ireturn rfl rfl dX8_pourStatus_67
        · refine rz_iconst 51 dX8_pourStatus_50 rfl ci_3 ?_
          exact rz_ireturn rfl rfl dX8_pourStatus_51
    · refine rz_iconst 17 dX8_pourStatus_16 rfl ci_1 ?_
      exact rz_ireturn rfl rfl dX8_pourStatus_17
theorem tX8_pourStatus (v : mE) (d : Nat) (l0 : Nat) (l1 : Int32) (l2 : Int32) (l3 : Int32) (l4 : Int32) (l5 : Int32) : Mt v yX8_pourStatus cX8_pourStatus 8 (some .int) emI (d + 1) [vR l0, vI l1, vI l2, vI l3, vI l4, vI l5] (fX8_pourStatus l0 l1 l2 l3 l4 l5) := mt_of rfl rfl (fun h => by cases h) rfl rfl (rX8_pourStatus v d l0 l1 l2 l3 l4 l5)
theorem dX8_pour_0 : decode cX8_pour 0 = .ok (.aload_n 0, 1) := by decide +kernel
theorem dX8_pour_1 : decode cX8_pour 1 = .ok (.iload_n 1, 1) := by decide +kernel
theorem dX8_pour_2 : decode cX8_pour 2 = .ok (.iload_n 2, 1) := by decide +kernel
theorem dX8_pour_3 : decode cX8_pour 3 = .ok (.iload_n 3, 1) := by decide +kernel
theorem dX8_pour_4 : decode cX8_pour 4 = .ok (.iload 4, 2) := by decide +kernel
theorem dX8_pour_6 : decode cX8_pour 6 = .ok (.iload 5, 2) := by decide +kernel
theorem dX8_pour_8 : decode cX8_pour 8 = .ok (.invokevirtual 122, 3) := by decide +kernel
theorem dX8_pour_11 : decode cX8_pour 11 = .ok (.istore 6, 2) := by decide +kernel
theorem dX8_pour_13 : decode cX8_pour 13 = .ok (.iload 6, 2) := by decide +kernel
theorem dX8_pour_15 : decode cX8_pour 15 = .ok (.ifCond .eq 10, 3) := by decide +kernel
theorem dX8_pour_18 : decode cX8_pour 18 = .ok (.aload_n 0, 1) := by decide +kernel
theorem dX8_pour_19 : decode cX8_pour 19 = .ok (.iload 6, 2) := by decide +kernel
theorem dX8_pour_21 : decode cX8_pour 21 = .ok (.invokevirtual 95, 3) := by decide +kernel
theorem dX8_pour_24 : decode cX8_pour 24 = .ok (.ireturn, 1) := by decide +kernel
theorem dX8_pour_25 : decode cX8_pour 25 = .ok (.aload_n 0, 1) := by decide +kernel
theorem dX8_pour_26 : decode cX8_pour 26 = .ok (.getfield 11, 3) := by decide +kernel
theorem dX8_pour_29 : decode cX8_pour 29 = .ok (.iload_n 1, 1) := by decide +kernel
theorem dX8_pour_30 : decode cX8_pour 30 = .ok (.aaload, 1) := by decide +kernel
theorem dX8_pour_31 : decode cX8_pour 31 = .ok (.getfield 118, 3) := by decide +kernel
theorem dX8_pour_34 : decode cX8_pour 34 = .ok (.iload_n 2, 1) := by decide +kernel
theorem dX8_pour_35 : decode cX8_pour 35 = .ok (.aload_n 0, 1) := by decide +kernel
theorem dX8_pour_36 : decode cX8_pour 36 = .ok (.getfield 11, 3) := by decide +kernel
theorem dX8_pour_39 : decode cX8_pour 39 = .ok (.iload_n 3, 1) := by decide +kernel
theorem dX8_pour_40 : decode cX8_pour 40 = .ok (.aaload, 1) := by decide +kernel
theorem dX8_pour_41 : decode cX8_pour 41 = .ok (.getfield 118, 3) := by decide +kernel
theorem dX8_pour_44 : decode cX8_pour 44 = .ok (.iload 4, 2) := by decide +kernel
theorem dX8_pour_46 : decode cX8_pour 46 = .ok (.iload 5, 2) := by decide +kernel
theorem dX8_pour_48 : decode cX8_pour 48 = .ok (.invokestatic 126, 3) := by decide +kernel
theorem dX8_pour_51 : decode cX8_pour 51 = .ok (.aload_n 0, 1) := by decide +kernel
theorem dX8_pour_52 : decode cX8_pour 52 = .ok (.invokevirtual 102, 3) := by decide +kernel
theorem dX8_pour_55 : decode cX8_pour 55 = .ok (.ireturn, 1) := by decide +kernel
def fX8_pour (l0 : Nat) (l1 : Int32) (l2 : Int32) (l3 : Int32) (l4 : Int32) (l5 : Int32) : mM Int32 := bCallV 8 l0 (fX8_pourStatus l0 l1 l2 l3 l4 l5) (fun x1 => bIf (x1 = 0) (bGR 8 l0 0 (fun x2 => bAR 15 x2 l1 (fun x3 => bGR 5 x3 0 (fun x4 => bGR 8 l0 0 (fun x5 => bAR 15 x5 l3 (fun x6 => bGR 5 x6 0 (fun x7 => bCpL x4 l2 x7 l4 l5 (bCallV 8 l0 (fX8_accept l0) (fun x8 => bRetZ x8))))))))) (bCallV 8 l0 (fX8_refuse l0 x1) (fun x9 => bRetZ x9)))
set_option maxRecDepth 20000 in
theorem rX8_pour (v : mE) (d : Nat) (l0 : Nat) (l1 : Int32) (l2 : Int32) (l3 : Int32) (l4 : Int32) (l5 : Int32) : Rz v RX8 cX8_pour 7 (some .boolean) false emI (d + 2) 0 [(0, vR l0), (1, vI l1), (2, vI l2), (3, vI l3), (4, vI l4), (5, vI l5)] [] (fX8_pour l0 l1 l2 l3 l4 l5) := by
  unfold fX8_pour
  refine rz_aload_n 1 0 dX8_pour_0 rfl rfl ?_
  refine rz_iload_n 2 1 dX8_pour_1 rfl rfl ?_
  refine rz_iload_n 3 2 dX8_pour_2 rfl rfl ?_
  refine rz_iload_n 4 3 dX8_pour_3 rfl rfl ?_
  refine rz_iload 6 4 dX8_pour_4 rfl rfl ?_
  refine rz_iload 8 5 dX8_pour_6 rfl rfl ?_
  refine rz_callV 11 dX8_pour_8 rfl (tX8_pourStatus v (d + 0) l0 l1 l2 l3 l4 l5) rfl rfl rfl rfl ml_X8_122 im_X8_pourStatus se_X8_X8_pourStatus in_X8 co_X8_pourStatus rfl rfl (fun x1 => ?_)
  refine rz_istore (lv' := [(6, vI x1), (0, vR l0), (1, vI l1), (2, vI l2), (3, vI l3), (4, vI l4), (5, vI l5)]) 13 dX8_pour_11 rfl rfl rfl ?_
  refine rz_iload 15 0 dX8_pour_13 rfl rfl ?_
  refine rz_if_eq 25 18 dX8_pour_15 rfl rfl ?_ ?_
  · refine rz_aload_n 26 1 dX8_pour_25 rfl rfl ?_
    refine rz_gR 29 dX8_pour_26 rfl rfl fl_X8_11 (fun x2 => ?_)
    refine rz_iload_n 30 2 dX8_pour_29 rfl rfl ?_
    refine rz_aald 31 dX8_pour_30 rfl (by decide) (fun x3 => ?_)
    refine rz_gR 34 dX8_pour_31 rfl rfl fl_X8_118 (fun x4 => ?_)
    refine rz_iload_n 35 3 dX8_pour_34 rfl rfl ?_
    refine rz_aload_n 36 1 dX8_pour_35 rfl rfl ?_
    refine rz_gR 39 dX8_pour_36 rfl rfl fl_X8_11 (fun x5 => ?_)
    refine rz_iload_n 40 4 dX8_pour_39 rfl rfl ?_
    refine rz_aald 41 dX8_pour_40 rfl (by decide) (fun x6 => ?_)
    refine rz_gR 44 dX8_pour_41 rfl rfl fl_X8_118 (fun x7 => ?_)
    refine rz_iload 46 5 dX8_pour_44 rfl rfl ?_
    refine rz_iload 48 6 dX8_pour_46 rfl rfl ?_
    refine rz_copyL 51 dX8_pour_48 rfl ml_X8_126 rfl rfl ?_
    refine rz_aload_n 52 1 dX8_pour_51 rfl rfl ?_
    refine rz_callV 55 dX8_pour_52 rfl (tX8_accept v (d + 1) l0) rfl rfl rfl rfl ml_X8_102 im_X8_accept se_X8_X8_accept in_X8 co_X8_accept rfl rfl (fun x8 => ?_)
    exact rz_zreturn rfl rfl dX8_pour_55
  · refine rz_aload_n 19 1 dX8_pour_18 rfl rfl ?_
    refine rz_iload 21 0 dX8_pour_19 rfl rfl ?_
    refine rz_callV 24 dX8_pour_21 rfl (tX8_refuse v (d + 1) l0 x1) rfl rfl rfl rfl ml_X8_95 im_X8_refuse se_X8_X8_refuse in_X8 co_X8_refuse rfl rfl (fun x9 => ?_)
    exact rz_zreturn rfl rfl dX8_pour_24
theorem tX8_pour (v : mE) (d : Nat) (l0 : Nat) (l1 : Int32) (l2 : Int32) (l3 : Int32) (l4 : Int32) (l5 : Int32) : Mt v yX8_pour cX8_pour 7 (some .boolean) emI (d + 2) [vR l0, vI l1, vI l2, vI l3, vI l4, vI l5] (fX8_pour l0 l1 l2 l3 l4 l5) := mt_of rfl rfl (fun h => by cases h) rfl rfl (rX8_pour v d l0 l1 l2 l3 l4 l5)
theorem dX8_putOnTape_0 : decode cX8_putOnTape 0 = .ok (.bipush 24, 2) := by decide +kernel
theorem dX8_putOnTape_2 : decode cX8_putOnTape 2 = .ok (.istore_n 2, 1) := by decide +kernel
theorem dX8_putOnTape_3 : decode cX8_putOnTape 3 = .ok (.iload_n 2, 1) := by decide +kernel
theorem dX8_putOnTape_4 : decode cX8_putOnTape 4 = .ok (.ifCond .lt 42, 3) := by decide +kernel
theorem dX8_putOnTape_7 : decode cX8_putOnTape 7 = .ok (.aload_n 0, 1) := by decide +kernel
theorem dX8_putOnTape_8 : decode cX8_putOnTape 8 = .ok (.getfield 19, 3) := by decide +kernel
theorem dX8_putOnTape_11 : decode cX8_putOnTape 11 = .ok (.sipush 900, 3) := by decide +kernel
theorem dX8_putOnTape_14 : decode cX8_putOnTape 14 = .ok (.if_icmp .ge 32, 3) := by decide +kernel
theorem dX8_putOnTape_17 : decode cX8_putOnTape 17 = .ok (.aload_n 0, 1) := by decide +kernel
theorem dX8_putOnTape_18 : decode cX8_putOnTape 18 = .ok (.getfield 15, 3) := by decide +kernel
theorem dX8_putOnTape_21 : decode cX8_putOnTape 21 = .ok (.aload_n 0, 1) := by decide +kernel
theorem dX8_putOnTape_22 : decode cX8_putOnTape 22 = .ok (.getfield 19, 3) := by decide +kernel
theorem dX8_putOnTape_25 : decode cX8_putOnTape 25 = .ok (.iload_n 1, 1) := by decide +kernel
theorem dX8_putOnTape_26 : decode cX8_putOnTape 26 = .ok (.iload_n 2, 1) := by decide +kernel
theorem dX8_putOnTape_27 : decode cX8_putOnTape 27 = .ok (.ishr, 1) := by decide +kernel
theorem dX8_putOnTape_28 : decode cX8_putOnTape 28 = .ok (.i2b, 1) := by decide +kernel
theorem dX8_putOnTape_29 : decode cX8_putOnTape 29 = .ok (.bastore, 1) := by decide +kernel
theorem dX8_putOnTape_30 : decode cX8_putOnTape 30 = .ok (.aload_n 0, 1) := by decide +kernel
theorem dX8_putOnTape_31 : decode cX8_putOnTape 31 = .ok (.dup, 1) := by decide +kernel
theorem dX8_putOnTape_32 : decode cX8_putOnTape 32 = .ok (.getfield 19, 3) := by decide +kernel
theorem dX8_putOnTape_35 : decode cX8_putOnTape 35 = .ok (.iconst 1, 1) := by decide +kernel
theorem dX8_putOnTape_36 : decode cX8_putOnTape 36 = .ok (.iadd, 1) := by decide +kernel
theorem dX8_putOnTape_37 : decode cX8_putOnTape 37 = .ok (.putfield 19, 3) := by decide +kernel
theorem dX8_putOnTape_40 : decode cX8_putOnTape 40 = .ok (.iinc 2 (-8), 3) := by decide +kernel
theorem dX8_putOnTape_43 : decode cX8_putOnTape 43 = .ok (.goto (-40), 3) := by decide +kernel
theorem dX8_putOnTape_46 : decode cX8_putOnTape 46 = .ok (.return_, 1) := by decide +kernel
def fX8_putOnTape_3 : Nat → Nat → Int32 → Int32 → mM Unit
  | 0 => fun _ _ _ => fun _ => none
  | n + 1 => fun l0 l1 l2 => let r3 := fX8_putOnTape_3 n; bIf (l2 < 0) (bRet ()) (bGI 8 l0 2 (fun x1 => bIf ((900 : Int32) ≤ x1) (bRet ()) (bGR 8 l0 1 (fun x2 => bGI 8 l0 2 (fun x3 => bSB x2 x3 ((Int32.toInt8 (l1 >>> (l2 &&& 31))).toInt32) (bGI 8 l0 2 (fun x4 => bPI 8 l0 2 (x4 + (1 : Int32)) (r3 l0 l1 (l2 + (-8))))))))))
theorem qX8_putOnTape_3  (n : Nat) (l0 : Nat) (l1 : Int32) (l2 : Int32) : fX8_putOnTape_3 (n + 1) l0 l1 l2 = bIf (l2 < 0) (bRet ()) (bGI 8 l0 2 (fun x1 => bIf ((900 : Int32) ≤ x1) (bRet ()) (bGR 8 l0 1 (fun x2 => bGI 8 l0 2 (fun x3 => bSB x2 x3 ((Int32.toInt8 (l1 >>> (l2 &&& 31))).toInt32) (bGI 8 l0 2 (fun x4 => bPI 8 l0 2 (x4 + (1 : Int32)) ((fX8_putOnTape_3 n) l0 l1 (l2 + (-8)))))))))) := rfl
set_option maxRecDepth 20000 in
theorem rX8_putOnTape_3 (v : mE) (d : Nat) : ∀ (n : Nat) (l0 : Nat) (l1 : Int32) (l2 : Int32), Rz v RX8 cX8_putOnTape 3 none false emU (d + 0) 3 [(0, vR l0), (1, vI l1), (2, vI l2)] [] (fX8_putOnTape_3 n l0 l1 l2)
  | 0, _, _, _ => fun _ _ _ hm => by cases hm
  | n + 1, l0, l1, l2 => by
    have h3 := rX8_putOnTape_3 v d n
    unfold fX8_putOnTape_3
    generalize fX8_putOnTape_3 n = r3 at h3 ⊢
    refine rz_iload_n 4 2 dX8_putOnTape_3 rfl rfl ?_
    refine rz_if_lt 46 7 dX8_putOnTape_4 rfl rfl ?_ ?_
    · exact rz_return rfl rfl dX8_putOnTape_46
    · refine rz_aload_n 8 0 dX8_putOnTape_7 rfl rfl ?_
      refine rz_gI 11 dX8_putOnTape_8 rfl rfl fl_X8_19 (fun x1 => ?_)
      refine rz_sipush 14 dX8_putOnTape_11 rfl cs_900 ?_
      refine rz_icmp_ge 46 17 dX8_putOnTape_14 rfl rfl ?_ ?_
      · exact rz_return rfl rfl dX8_putOnTape_46
      · refine rz_aload_n 18 0 dX8_putOnTape_17 rfl rfl ?_
        refine rz_gR 21 dX8_putOnTape_18 rfl rfl fl_X8_15 (fun x2 => ?_)
        refine rz_aload_n 22 0 dX8_putOnTape_21 rfl rfl ?_
        refine rz_gI 25 dX8_putOnTape_22 rfl rfl fl_X8_19 (fun x3 => ?_)
        refine rz_iload_n 26 1 dX8_putOnTape_25 rfl rfl ?_
        refine rz_iload_n 27 2 dX8_putOnTape_26 rfl rfl ?_
        refine rz_ishr 28 dX8_putOnTape_27 rfl ?_
        refine rz_i2b 29 dX8_putOnTape_28 rfl ?_
        refine rz_bast 30 dX8_putOnTape_29 rfl ?_
        refine rz_aload_n 31 0 dX8_putOnTape_30 rfl rfl ?_
        refine rz_dup 32 dX8_putOnTape_31 rfl rfl ?_
        refine rz_gI 35 dX8_putOnTape_32 rfl rfl fl_X8_19 (fun x4 => ?_)
        refine rz_iconst 36 dX8_putOnTape_35 rfl ci_1 ?_
        refine rz_iadd 37 dX8_putOnTape_36 rfl ?_
        refine rz_pI 40 dX8_putOnTape_37 rfl rfl rfl rfl fl_X8_19 ?_
        refine rz_iinc (lv' := [(2, vI (l2 + (-8))), (0, vR l0), (1, vI l1)]) 43 2 dX8_putOnTape_40 rfl rfl (cn_m8 _) rfl rfl ?_
        refine rz_goto 3 dX8_putOnTape_43 rfl ?_
        exact rz_sub [1, 2, 0] rfl (h3 l0 l1 (l2 + (-8)))
def fX8_putOnTape (l0 : Nat) (l1 : Int32) : mM Unit := fX8_putOnTape_3 fu l0 l1 (24 : Int32)
set_option maxRecDepth 20000 in
theorem rX8_putOnTape (v : mE) (d : Nat) (l0 : Nat) (l1 : Int32) : Rz v RX8 cX8_putOnTape 3 none false emU (d + 0) 0 [(0, vR l0), (1, vI l1)] [] (fX8_putOnTape l0 l1) := by
  unfold fX8_putOnTape
  refine rz_bipush 2 dX8_putOnTape_0 rfl cb_24 ?_
  refine rz_istore_n (lv' := [(2, vI (24 : Int32)), (0, vR l0), (1, vI l1)]) 3 dX8_putOnTape_2 rfl rfl rfl ?_
  exact rz_sub [1, 2, 0] rfl (rX8_putOnTape_3 v d fu l0 l1 (24 : Int32))
theorem tX8_putOnTape (v : mE) (d : Nat) (l0 : Nat) (l1 : Int32) : Mt v yX8_putOnTape cX8_putOnTape 3 none emU (d + 0) [vR l0, vI l1] (fX8_putOnTape l0 l1) := mt_of rfl rfl (fun h => by cases h) rfl rfl (rX8_putOnTape v d l0 l1)
theorem dX8_feed_0 : decode cX8_feed 0 = .ok (.aload_n 0, 1) := by decide +kernel
theorem dX8_feed_1 : decode cX8_feed 1 = .ok (.getfield 19, 3) := by decide +kernel
theorem dX8_feed_4 : decode cX8_feed 4 = .ok (.sipush 880, 3) := by decide +kernel
theorem dX8_feed_7 : decode cX8_feed 7 = .ok (.if_icmp .le 5, 3) := by decide +kernel
theorem dX8_feed_10 : decode cX8_feed 10 = .ok (.iconst (-1), 1) := by decide +kernel
theorem dX8_feed_11 : decode cX8_feed 11 = .ok (.ireturn, 1) := by decide +kernel
theorem dX8_feed_12 : decode cX8_feed 12 = .ok (.aload_n 0, 1) := by decide +kernel
theorem dX8_feed_13 : decode cX8_feed 13 = .ok (.iload_n 1, 1) := by decide +kernel
theorem dX8_feed_14 : decode cX8_feed 14 = .ok (.invokevirtual 145, 3) := by decide +kernel
theorem dX8_feed_17 : decode cX8_feed 17 = .ok (.aload_n 0, 1) := by decide +kernel
theorem dX8_feed_18 : decode cX8_feed 18 = .ok (.iload_n 2, 1) := by decide +kernel
theorem dX8_feed_19 : decode cX8_feed 19 = .ok (.invokevirtual 145, 3) := by decide +kernel
theorem dX8_feed_22 : decode cX8_feed 22 = .ok (.aload_n 0, 1) := by decide +kernel
theorem dX8_feed_23 : decode cX8_feed 23 = .ok (.iload_n 3, 1) := by decide +kernel
theorem dX8_feed_24 : decode cX8_feed 24 = .ok (.invokevirtual 145, 3) := by decide +kernel
theorem dX8_feed_27 : decode cX8_feed 27 = .ok (.aload_n 0, 1) := by decide +kernel
theorem dX8_feed_28 : decode cX8_feed 28 = .ok (.iload 4, 2) := by decide +kernel
theorem dX8_feed_30 : decode cX8_feed 30 = .ok (.invokevirtual 145, 3) := by decide +kernel
theorem dX8_feed_33 : decode cX8_feed 33 = .ok (.aload_n 0, 1) := by decide +kernel
theorem dX8_feed_34 : decode cX8_feed 34 = .ok (.iload 5, 2) := by decide +kernel
theorem dX8_feed_36 : decode cX8_feed 36 = .ok (.invokevirtual 145, 3) := by decide +kernel
theorem dX8_feed_39 : decode cX8_feed 39 = .ok (.aload_n 0, 1) := by decide +kernel
theorem dX8_feed_40 : decode cX8_feed 40 = .ok (.getfield 19, 3) := by decide +kernel
theorem dX8_feed_43 : decode cX8_feed 43 = .ok (.ireturn, 1) := by decide +kernel
def fX8_feed (l0 : Nat) (l1 : Int32) (l2 : Int32) (l3 : Int32) (l4 : Int32) (l5 : Int32) : mM Int32 := bGI 8 l0 2 (fun x1 => bIf (x1 ≤ (880 : Int32)) (bCallV 8 l0 (fX8_putOnTape l0 l1) (fun _ => bCallV 8 l0 (fX8_putOnTape l0 l2) (fun _ => bCallV 8 l0 (fX8_putOnTape l0 l3) (fun _ => bCallV 8 l0 (fX8_putOnTape l0 l4) (fun _ => bCallV 8 l0 (fX8_putOnTape l0 l5) (fun _ => bGI 8 l0 2 (fun x2 => bRet x2))))))) (bRet (-1 : Int32)))
set_option maxRecDepth 20000 in
theorem rX8_feed (v : mE) (d : Nat) (l0 : Nat) (l1 : Int32) (l2 : Int32) (l3 : Int32) (l4 : Int32) (l5 : Int32) : Rz v RX8 cX8_feed 6 (some .int) false emI (d + 1) 0 [(0, vR l0), (1, vI l1), (2, vI l2), (3, vI l3), (4, vI l4), (5, vI l5)] [] (fX8_feed l0 l1 l2 l3 l4 l5) := by
  unfold fX8_feed
  refine rz_aload_n 1 0 dX8_feed_0 rfl rfl ?_
  refine rz_gI 4 dX8_feed_1 rfl rfl fl_X8_19 (fun x1 => ?_)
  refine rz_sipush 7 dX8_feed_4 rfl cs_880 ?_
  refine rz_icmp_le 12 10 dX8_feed_7 rfl rfl ?_ ?_
  · refine rz_aload_n 13 0 dX8_feed_12 rfl rfl ?_
    refine rz_iload_n 14 1 dX8_feed_13 rfl rfl ?_
    refine rz_callV 17 dX8_feed_14 rfl (tX8_putOnTape v (d + 0) l0 l1) rfl rfl rfl rfl ml_X8_145 im_X8_putOnTape se_X8_X8_putOnTape in_X8 co_X8_putOnTape rfl rfl (fun _ => ?_)
    refine rz_aload_n 18 0 dX8_feed_17 rfl rfl ?_
    refine rz_iload_n 19 2 dX8_feed_18 rfl rfl ?_
    refine rz_callV 22 dX8_feed_19 rfl (tX8_putOnTape v (d + 0) l0 l2) rfl rfl rfl rfl ml_X8_145 im_X8_putOnTape se_X8_X8_putOnTape in_X8 co_X8_putOnTape rfl rfl (fun _ => ?_)
    refine rz_aload_n 23 0 dX8_feed_22 rfl rfl ?_
    refine rz_iload_n 24 3 dX8_feed_23 rfl rfl ?_
    refine rz_callV 27 dX8_feed_24 rfl (tX8_putOnTape v (d + 0) l0 l3) rfl rfl rfl rfl ml_X8_145 im_X8_putOnTape se_X8_X8_putOnTape in_X8 co_X8_putOnTape rfl rfl (fun _ => ?_)
    refine rz_aload_n 28 0 dX8_feed_27 rfl rfl ?_
    refine rz_iload 30 4 dX8_feed_28 rfl rfl ?_
    refine rz_callV 33 dX8_feed_30 rfl (tX8_putOnTape v (d + 0) l0 l4) rfl rfl rfl rfl ml_X8_145 im_X8_putOnTape se_X8_X8_putOnTape in_X8 co_X8_putOnTape rfl rfl (fun _ => ?_)
    refine rz_aload_n 34 0 dX8_feed_33 rfl rfl ?_
    refine rz_iload 36 5 dX8_feed_34 rfl rfl ?_
    refine rz_callV 39 dX8_feed_36 rfl (tX8_putOnTape v (d + 0) l0 l5) rfl rfl rfl rfl ml_X8_145 im_X8_putOnTape se_X8_X8_putOnTape in_X8 co_X8_putOnTape rfl rfl (fun _ => ?_)
    refine rz_aload_n 40 0 dX8_feed_39 rfl rfl ?_
    refine rz_gI 43 dX8_feed_40 rfl rfl fl_X8_19 (fun x2 => ?_)
    exact rz_ireturn rfl rfl dX8_feed_43
  · refine rz_iconst 11 dX8_feed_10 rfl ci_m1 ?_
    exact rz_ireturn rfl rfl dX8_feed_11
theorem tX8_feed (v : mE) (d : Nat) (l0 : Nat) (l1 : Int32) (l2 : Int32) (l3 : Int32) (l4 : Int32) (l5 : Int32) : Mt v yX8_feed cX8_feed 6 (some .int) emI (d + 1) [vR l0, vI l1, vI l2, vI l3, vI l4, vI l5] (fX8_feed l0 l1 l2 l3 l4 l5) := mt_of rfl rfl (fun h => by cases h) rfl rfl (rX8_feed v d l0 l1 l2 l3 l4 l5)
theorem dX8_noteFault_0 : decode cX8_noteFault 0 = .ok (.aload_n 0, 1) := by decide +kernel
theorem dX8_noteFault_1 : decode cX8_noteFault 1 = .ok (.aload_n 1, 1) := by decide +kernel
theorem dX8_noteFault_2 : decode cX8_noteFault 2 = .ok (.getfield 184, 3) := by decide +kernel
theorem dX8_noteFault_5 : decode cX8_noteFault 5 = .ok (.putfield 61, 3) := by decide +kernel
theorem dX8_noteFault_8 : decode cX8_noteFault 8 = .ok (.aload_n 0, 1) := by decide +kernel
theorem dX8_noteFault_9 : decode cX8_noteFault 9 = .ok (.aload_n 1, 1) := by decide +kernel
theorem dX8_noteFault_10 : decode cX8_noteFault 10 = .ok (.getfield 187, 3) := by decide +kernel
theorem dX8_noteFault_13 : decode cX8_noteFault 13 = .ok (.putfield 64, 3) := by decide +kernel
theorem dX8_noteFault_16 : decode cX8_noteFault 16 = .ok (.return_, 1) := by decide +kernel
def fX8_noteFault (l0 : Nat) (l1 : Nat) : mM Unit := bGI 4 l1 7 (fun x1 => bPI 8 l0 14 x1 (bGI 4 l1 8 (fun x2 => bPI 8 l0 15 x2 (bRet ()))))
set_option maxRecDepth 20000 in
theorem rX8_noteFault (v : mE) (d : Nat) (l0 : Nat) (l1 : Nat) : Rz v RX8 cX8_noteFault 2 none false emU (d + 0) 0 [(0, vR l0), (1, vR l1)] [] (fX8_noteFault l0 l1) := by
  unfold fX8_noteFault
  refine rz_aload_n 1 0 dX8_noteFault_0 rfl rfl ?_
  refine rz_aload_n 2 1 dX8_noteFault_1 rfl rfl ?_
  refine rz_gI 5 dX8_noteFault_2 rfl rfl fl_X8_184 (fun x1 => ?_)
  refine rz_pI 8 dX8_noteFault_5 rfl rfl rfl rfl fl_X8_61 ?_
  refine rz_aload_n 9 0 dX8_noteFault_8 rfl rfl ?_
  refine rz_aload_n 10 1 dX8_noteFault_9 rfl rfl ?_
  refine rz_gI 13 dX8_noteFault_10 rfl rfl fl_X8_187 (fun x2 => ?_)
  refine rz_pI 16 dX8_noteFault_13 rfl rfl rfl rfl fl_X8_64 ?_
  exact rz_return rfl rfl dX8_noteFault_16
theorem tX8_noteFault (v : mE) (d : Nat) (l0 : Nat) (l1 : Nat) : Mt v yX8_noteFault cX8_noteFault 2 none emU (d + 0) [vR l0, vR l1] (fX8_noteFault l0 l1) := mt_of rfl rfl (fun h => by cases h) rfl rfl (rX8_noteFault v d l0 l1)
theorem dX8_tell_0 : decode cX8_tell 0 = .ok (.aload_n 0, 1) := by decide +kernel
theorem dX8_tell_1 : decode cX8_tell 1 = .ok (.iconst 0, 1) := by decide +kernel
theorem dX8_tell_2 : decode cX8_tell 2 = .ok (.putfield 51, 3) := by decide +kernel
theorem dX8_tell_5 : decode cX8_tell 5 = .ok (.iload_n 1, 1) := by decide +kernel
theorem dX8_tell_6 : decode cX8_tell 6 = .ok (.ireturn, 1) := by decide +kernel
def fX8_tell (l0 : Nat) (l1 : Int32) : mM Int32 := bPI 8 l0 11 (0 : Int32) (bRet l1)
set_option maxRecDepth 20000 in
theorem rX8_tell (v : mE) (d : Nat) (l0 : Nat) (l1 : Int32) : Rz v RX8 cX8_tell 2 (some .int) false emI (d + 0) 0 [(0, vR l0), (1, vI l1)] [] (fX8_tell l0 l1) := by
  unfold fX8_tell
  refine rz_aload_n 1 0 dX8_tell_0 rfl rfl ?_
  refine rz_iconst 2 dX8_tell_1 rfl ci_0 ?_
  refine rz_pI 5 dX8_tell_2 rfl rfl rfl rfl fl_X8_51 ?_
  refine rz_iload_n 6 1 dX8_tell_5 rfl rfl ?_
  exact rz_ireturn rfl rfl dX8_tell_6
theorem tX8_tell (v : mE) (d : Nat) (l0 : Nat) (l1 : Int32) : Mt v yX8_tell cX8_tell 2 (some .int) emI (d + 0) [vR l0, vI l1] (fX8_tell l0 l1) := mt_of rfl rfl (fun h => by cases h) rfl rfl (rX8_tell v d l0 l1)
theorem dX8_well_0 : decode cX8_well 0 = .ok (.iload_n 1, 1) := by decide +kernel
theorem dX8_well_1 : decode cX8_well 1 = .ok (.ifCond .lt 11, 3) := by decide +kernel
theorem dX8_well_4 : decode cX8_well 4 = .ok (.iload_n 1, 1) := by decide +kernel
theorem dX8_well_5 : decode cX8_well 5 = .ok (.aload_n 0, 1) := by decide +kernel
theorem dX8_well_6 : decode cX8_well 6 = .ok (.getfield 19, 3) := by decide +kernel
theorem dX8_well_9 : decode cX8_well 9 = .ok (.if_icmp .le 9, 3) := by decide +kernel
theorem dX8_well_12 : decode cX8_well 12 = .ok (.aload_n 0, 1) := by decide +kernel
theorem dX8_well_13 : decode cX8_well 13 = .ok (.iconst 5, 1) := by decide +kernel
theorem dX8_well_14 : decode cX8_well 14 = .ok (.invokevirtual 114, 3) := by decide +kernel
theorem dX8_well_17 : decode cX8_well 17 = .ok (.ireturn, 1) := by decide +kernel
theorem dX8_well_18 : decode cX8_well 18 = .ok (.aload_n 0, 1) := by decide +kernel
theorem dX8_well_19 : decode cX8_well 19 = .ok (.iconst 0, 1) := by decide +kernel
theorem dX8_well_20 : decode cX8_well 20 = .ok (.putfield 19, 3) := by decide +kernel
theorem dX8_well_23 : decode cX8_well 23 = .ok (.aload_n 0, 1) := by decide +kernel
theorem dX8_well_24 : decode cX8_well 24 = .ok (.getfield 78, 3) := by decide +kernel
theorem dX8_well_27 : decode cX8_well 27 = .ok (.iload_n 1, 1) := by decide +kernel
theorem dX8_well_28 : decode cX8_well 28 = .ok (.invokevirtual 149, 3) := by decide +kernel
theorem dX8_well_31 : decode cX8_well 31 = .ok (.istore_n 2, 1) := by decide +kernel
theorem dX8_well_32 : decode cX8_well 32 = .ok (.aload_n 0, 1) := by decide +kernel
theorem dX8_well_33 : decode cX8_well 33 = .ok (.aload_n 0, 1) := by decide +kernel
theorem dX8_well_34 : decode cX8_well 34 = .ok (.getfield 78, 3) := by decide +kernel
theorem dX8_well_37 : decode cX8_well 37 = .ok (.getfield 152, 3) := by decide +kernel
theorem dX8_well_40 : decode cX8_well 40 = .ok (.invokevirtual 156, 3) := by decide +kernel
theorem dX8_well_43 : decode cX8_well 43 = .ok (.iload_n 2, 1) := by decide +kernel
theorem dX8_well_44 : decode cX8_well 44 = .ok (.ifCond .ne 10, 3) := by decide +kernel
theorem dX8_well_47 : decode cX8_well 47 = .ok (.aload_n 0, 1) := by decide +kernel
theorem dX8_well_48 : decode cX8_well 48 = .ok (.bipush 10, 2) := by decide +kernel
theorem dX8_well_50 : decode cX8_well 50 = .ok (.invokevirtual 114, 3) := by decide +kernel
theorem dX8_well_53 : decode cX8_well 53 = .ok (.ireturn, 1) := by decide +kernel
theorem dX8_well_54 : decode cX8_well 54 = .ok (.aload_n 0, 1) := by decide +kernel
theorem dX8_well_55 : decode cX8_well 55 = .ok (.getfield 26, 3) := by decide +kernel
theorem dX8_well_58 : decode cX8_well 58 = .ok (.aload_n 0, 1) := by decide +kernel
theorem dX8_well_59 : decode cX8_well 59 = .ok (.getfield 30, 3) := by decide +kernel
theorem dX8_well_62 : decode cX8_well 62 = .ok (.invokevirtual 159, 3) := by decide +kernel
theorem dX8_well_65 : decode cX8_well 65 = .ok (.aload_n 0, 1) := by decide +kernel
theorem dX8_well_66 : decode cX8_well 66 = .ok (.aload_n 0, 1) := by decide +kernel
theorem dX8_well_67 : decode cX8_well 67 = .ok (.getfield 26, 3) := by decide +kernel
theorem dX8_well_70 : decode cX8_well 70 = .ok (.getfield 163, 3) := by decide +kernel
theorem dX8_well_73 : decode cX8_well 73 = .ok (.invokevirtual 166, 3) := by decide +kernel
theorem dX8_well_76 : decode cX8_well 76 = .ok (.ireturn, 1) := by decide +kernel
def fX8_well_12 (l0 : Nat) : mM Int32 := bCallV 8 l0 (fX8_none l0 (5 : Int32)) (fun x1 => bRet x1)
set_option maxRecDepth 20000 in
theorem rX8_well_12 (v : mE) (d : Nat) (l0 : Nat) : Rz v RX8 cX8_well 3 (some .int) false emI (d + 11) 12 [(0, vR l0)] [] (fX8_well_12 l0) := by
  unfold fX8_well_12
  refine rz_aload_n 13 0 dX8_well_12 rfl rfl ?_
  refine rz_iconst 14 dX8_well_13 rfl ci_5 ?_
  refine rz_callV 17 dX8_well_14 rfl (tX8_none v (d + 10) l0 (5 : Int32)) rfl rfl rfl rfl ml_X8_114 im_X8_none se_X8_X8_none in_X8 co_X8_none rfl rfl (fun x1 => ?_)
  exact rz_ireturn rfl rfl dX8_well_17
def fX8_well (l0 : Nat) (l1 : Int32) : mM Int32 := bIf (l1 < 0) (fX8_well_12 l0) (bGI 8 l0 2 (fun x1 => bIf (l1 ≤ x1) (bPI 8 l0 2 (0 : Int32) (bGR 8 l0 7 (fun x2 => bCallV 6 x2 (fX6_readWell x2 l1) (fun x3 => bGR 8 l0 7 (fun x4 => bGR 6 x4 0 (fun x5 => bCallV 8 l0 (fX8_noteFault l0 x5) (fun _ => bIf (x3 = 0) (bCallV 8 l0 (fX8_none l0 (10 : Int32)) (fun x11 => bRet x11)) (bGR 8 l0 3 (fun x6 => bGR 8 l0 4 (fun x7 => bCallV 7 x6 (fX7_copyFrom x6 x7) (fun _ => bGR 8 l0 3 (fun x8 => bGI 7 x8 7 (fun x9 => bCallV 8 l0 (fX8_tell l0 x9) (fun x10 => bRet x10)))))))))))))) (fX8_well_12 l0)))
set_option maxRecDepth 20000 in
theorem rX8_well (v : mE) (d : Nat) (l0 : Nat) (l1 : Int32) : Rz v RX8 cX8_well 3 (some .int) false emI (d + 11) 0 [(0, vR l0), (1, vI l1)] [] (fX8_well l0 l1) := by
  unfold fX8_well
  refine rz_iload_n 1 1 dX8_well_0 rfl rfl ?_
  refine rz_if_lt 12 4 dX8_well_1 rfl rfl ?_ ?_
  · exact rz_sub [0] rfl (rX8_well_12 v d l0)
  · refine rz_iload_n 5 1 dX8_well_4 rfl rfl ?_
    refine rz_aload_n 6 0 dX8_well_5 rfl rfl ?_
    refine rz_gI 9 dX8_well_6 rfl rfl fl_X8_19 (fun x1 => ?_)
    refine rz_icmp_le 18 12 dX8_well_9 rfl rfl ?_ ?_
    · refine rz_aload_n 19 0 dX8_well_18 rfl rfl ?_
      refine rz_iconst 20 dX8_well_19 rfl ci_0 ?_
      refine rz_pI 23 dX8_well_20 rfl rfl rfl rfl fl_X8_19 ?_
      refine rz_aload_n 24 0 dX8_well_23 rfl rfl ?_
      refine rz_gR 27 dX8_well_24 rfl rfl fl_X8_78 (fun x2 => ?_)
      refine rz_iload_n 28 1 dX8_well_27 rfl rfl ?_
      refine rz_callV 31 dX8_well_28 rfl (tX6_readWell v (d + 0) x2 l1) rfl rfl rfl rfl ml_X8_149 im_X6_readWell se_X6_X6_readWell in_X6 co_X6_readWell rfl rfl (fun x3 => ?_)
      refine rz_istore_n (lv' := [(2, vI x3), (0, vR l0), (1, vI l1)]) 32 dX8_well_31 rfl rfl rfl ?_
      refine rz_aload_n 33 1 dX8_well_32 rfl rfl ?_
      refine rz_aload_n 34 1 dX8_well_33 rfl rfl ?_
      refine rz_gR 37 dX8_well_34 rfl rfl fl_X8_78 (fun x4 => ?_)
      refine rz_gR 40 dX8_well_37 rfl rfl fl_X8_152 (fun x5 => ?_)
      refine rz_callV 43 dX8_well_40 rfl (tX8_noteFault v (d + 10) l0 x5) rfl rfl rfl rfl ml_X8_156 im_X8_noteFault se_X8_X8_noteFault in_X8 co_X8_noteFault rfl rfl (fun _ => ?_)
      refine rz_iload_n 44 0 dX8_well_43 rfl rfl ?_
      refine rz_if_ne 54 47 dX8_well_44 rfl rfl ?_ ?_
      · refine rz_aload_n 55 1 dX8_well_54 rfl rfl ?_
        refine rz_gR 58 dX8_well_55 rfl rfl fl_X8_26 (fun x6 => ?_)
        refine rz_aload_n 59 1 dX8_well_58 rfl rfl ?_
        refine rz_gR 62 dX8_well_59 rfl rfl fl_X8_30 (fun x7 => ?_)
        refine rz_callV 65 dX8_well_62 rfl (tX7_copyFrom v (d + 8) x6 x7) rfl rfl rfl rfl ml_X8_159 im_X7_copyFrom se_X7_X7_copyFrom in_X7 co_X7_copyFrom rfl rfl (fun _ => ?_)
        refine rz_aload_n 66 1 dX8_well_65 rfl rfl ?_
        refine rz_aload_n 67 1 dX8_well_66 rfl rfl ?_
        refine rz_gR 70 dX8_well_67 rfl rfl fl_X8_26 (fun x8 => ?_)
        refine rz_gI 73 dX8_well_70 rfl rfl fl_X8_163 (fun x9 => ?_)
        refine rz_callV 76 dX8_well_73 rfl (tX8_tell v (d + 10) l0 x9) rfl rfl rfl rfl ml_X8_166 im_X8_tell se_X8_X8_tell in_X8 co_X8_tell rfl rfl (fun x10 => ?_)
        exact rz_ireturn rfl rfl dX8_well_76
      · refine rz_aload_n 48 1 dX8_well_47 rfl rfl ?_
        refine rz_bipush 50 dX8_well_48 rfl cb_10 ?_
        refine rz_callV 53 dX8_well_50 rfl (tX8_none v (d + 10) l0 (10 : Int32)) rfl rfl rfl rfl ml_X8_114 im_X8_none se_X8_X8_none in_X8 co_X8_none rfl rfl (fun x11 => ?_)
        exact rz_ireturn rfl rfl dX8_well_53
    · exact rz_sub [0] rfl (rX8_well_12 v d l0)
theorem tX8_well (v : mE) (d : Nat) (l0 : Nat) (l1 : Int32) : Mt v yX8_well cX8_well 3 (some .int) emI (d + 11) [vR l0, vI l1] (fX8_well l0 l1) := mt_of rfl rfl (fun h => by cases h) rfl rfl (rX8_well v d l0 l1)
theorem dX8_law_0 : decode cX8_law 0 = .ok (.iload_n 1, 1) := by decide +kernel
theorem dX8_law_1 : decode cX8_law 1 = .ok (.ifCond .lt 18, 3) := by decide +kernel
theorem dX8_law_4 : decode cX8_law 4 = .ok (.iload_n 1, 1) := by decide +kernel
theorem dX8_law_5 : decode cX8_law 5 = .ok (.aload_n 0, 1) := by decide +kernel
theorem dX8_law_6 : decode cX8_law 6 = .ok (.getfield 19, 3) := by decide +kernel
theorem dX8_law_9 : decode cX8_law 9 = .ok (.if_icmp .gt 10, 3) := by decide +kernel
theorem dX8_law_12 : decode cX8_law 12 = .ok (.iload_n 1, 1) := by decide +kernel
theorem dX8_law_13 : decode cX8_law 13 = .ok (.sipush 300, 3) := by decide +kernel
theorem dX8_law_16 : decode cX8_law 16 = .ok (.if_icmp .le 9, 3) := by decide +kernel
theorem dX8_law_19 : decode cX8_law 19 = .ok (.aload_n 0, 1) := by decide +kernel
theorem dX8_law_20 : decode cX8_law 20 = .ok (.iconst 5, 1) := by decide +kernel
theorem dX8_law_21 : decode cX8_law 21 = .ok (.invokevirtual 114, 3) := by decide +kernel
theorem dX8_law_24 : decode cX8_law 24 = .ok (.ireturn, 1) := by decide +kernel
theorem dX8_law_25 : decode cX8_law 25 = .ok (.aload_n 0, 1) := by decide +kernel
theorem dX8_law_26 : decode cX8_law 26 = .ok (.iconst 0, 1) := by decide +kernel
theorem dX8_law_27 : decode cX8_law 27 = .ok (.putfield 19, 3) := by decide +kernel
theorem dX8_law_30 : decode cX8_law 30 = .ok (.aload_n 0, 1) := by decide +kernel
theorem dX8_law_31 : decode cX8_law 31 = .ok (.getfield 87, 3) := by decide +kernel
theorem dX8_law_34 : decode cX8_law 34 = .ok (.iload_n 1, 1) := by decide +kernel
theorem dX8_law_35 : decode cX8_law 35 = .ok (.invokevirtual 169, 3) := by decide +kernel
theorem dX8_law_38 : decode cX8_law 38 = .ok (.istore_n 2, 1) := by decide +kernel
theorem dX8_law_39 : decode cX8_law 39 = .ok (.aload_n 0, 1) := by decide +kernel
theorem dX8_law_40 : decode cX8_law 40 = .ok (.aload_n 0, 1) := by decide +kernel
theorem dX8_law_41 : decode cX8_law 41 = .ok (.getfield 87, 3) := by decide +kernel
theorem dX8_law_44 : decode cX8_law 44 = .ok (.getfield 172, 3) := by decide +kernel
theorem dX8_law_47 : decode cX8_law 47 = .ok (.invokevirtual 156, 3) := by decide +kernel
theorem dX8_law_50 : decode cX8_law 50 = .ok (.iload_n 2, 1) := by decide +kernel
theorem dX8_law_51 : decode cX8_law 51 = .ok (.ifCond .ne 10, 3) := by decide +kernel
theorem dX8_law_54 : decode cX8_law 54 = .ok (.aload_n 0, 1) := by decide +kernel
theorem dX8_law_55 : decode cX8_law 55 = .ok (.bipush 10, 2) := by decide +kernel
theorem dX8_law_57 : decode cX8_law 57 = .ok (.invokevirtual 114, 3) := by decide +kernel
theorem dX8_law_60 : decode cX8_law 60 = .ok (.ireturn, 1) := by decide +kernel
theorem dX8_law_61 : decode cX8_law 61 = .ok (.aload_n 0, 1) := by decide +kernel
theorem dX8_law_62 : decode cX8_law 62 = .ok (.getfield 26, 3) := by decide +kernel
theorem dX8_law_65 : decode cX8_law 65 = .ok (.aload_n 0, 1) := by decide +kernel
theorem dX8_law_66 : decode cX8_law 66 = .ok (.getfield 87, 3) := by decide +kernel
theorem dX8_law_69 : decode cX8_law 69 = .ok (.invokevirtual 173, 3) := by decide +kernel
theorem dX8_law_72 : decode cX8_law 72 = .ok (.putfield 177, 3) := by decide +kernel
theorem dX8_law_75 : decode cX8_law 75 = .ok (.aload_n 0, 1) := by decide +kernel
theorem dX8_law_76 : decode cX8_law 76 = .ok (.aload_n 0, 1) := by decide +kernel
theorem dX8_law_77 : decode cX8_law 77 = .ok (.getfield 87, 3) := by decide +kernel
theorem dX8_law_80 : decode cX8_law 80 = .ok (.getfield 181, 3) := by decide +kernel
theorem dX8_law_83 : decode cX8_law 83 = .ok (.invokevirtual 166, 3) := by decide +kernel
theorem dX8_law_86 : decode cX8_law 86 = .ok (.ireturn, 1) := by decide +kernel
def fX8_law_19 (l0 : Nat) : mM Int32 := bCallV 8 l0 (fX8_none l0 (5 : Int32)) (fun x1 => bRet x1)
set_option maxRecDepth 20000 in
theorem rX8_law_19 (v : mE) (d : Nat) (l0 : Nat) : Rz v RX8 cX8_law 3 (some .int) false emI (d + 35) 19 [(0, vR l0)] [] (fX8_law_19 l0) := by
  unfold fX8_law_19
  refine rz_aload_n 20 0 dX8_law_19 rfl rfl ?_
  refine rz_iconst 21 dX8_law_20 rfl ci_5 ?_
  refine rz_callV 24 dX8_law_21 rfl (tX8_none v (d + 34) l0 (5 : Int32)) rfl rfl rfl rfl ml_X8_114 im_X8_none se_X8_X8_none in_X8 co_X8_none rfl rfl (fun x1 => ?_)
  exact rz_ireturn rfl rfl dX8_law_24
def fX8_law (l0 : Nat) (l1 : Int32) : mM Int32 := bIf (l1 < 0) (fX8_law_19 l0) (bGI 8 l0 2 (fun x1 => bIf (x1 < l1) (fX8_law_19 l0) (bIf (l1 ≤ (300 : Int32)) (bPI 8 l0 2 (0 : Int32) (bGR 8 l0 8 (fun x2 => bCallV 1 x2 (fX1_readLaw x2 l1) (fun x3 => bGR 8 l0 8 (fun x4 => bGR 1 x4 0 (fun x5 => bCallV 8 l0 (fX8_noteFault l0 x5) (fun _ => bIf (x3 = 0) (bCallV 8 l0 (fX8_none l0 (10 : Int32)) (fun x12 => bRet x12)) (bGR 8 l0 3 (fun x6 => bGR 8 l0 8 (fun x7 => bCallV 1 x7 (fX1_made x7) (fun x8 => bPR 7 x6 16 x8 (bGR 8 l0 8 (fun x9 => bGI 1 x9 1 (fun x10 => bCallV 8 l0 (fX8_tell l0 x10) (fun x11 => bRet x11))))))))))))))) (fX8_law_19 l0))))
set_option maxRecDepth 20000 in
theorem rX8_law (v : mE) (d : Nat) (l0 : Nat) (l1 : Int32) : Rz v RX8 cX8_law 3 (some .int) false emI (d + 35) 0 [(0, vR l0), (1, vI l1)] [] (fX8_law l0 l1) := by
  unfold fX8_law
  refine rz_iload_n 1 1 dX8_law_0 rfl rfl ?_
  refine rz_if_lt 19 4 dX8_law_1 rfl rfl ?_ ?_
  · exact rz_sub [0] rfl (rX8_law_19 v d l0)
  · refine rz_iload_n 5 1 dX8_law_4 rfl rfl ?_
    refine rz_aload_n 6 0 dX8_law_5 rfl rfl ?_
    refine rz_gI 9 dX8_law_6 rfl rfl fl_X8_19 (fun x1 => ?_)
    refine rz_icmp_gt 19 12 dX8_law_9 rfl rfl ?_ ?_
    · exact rz_sub [0] rfl (rX8_law_19 v d l0)
    · refine rz_iload_n 13 1 dX8_law_12 rfl rfl ?_
      refine rz_sipush 16 dX8_law_13 rfl cs_300 ?_
      refine rz_icmp_le 25 19 dX8_law_16 rfl rfl ?_ ?_
      · refine rz_aload_n 26 0 dX8_law_25 rfl rfl ?_
        refine rz_iconst 27 dX8_law_26 rfl ci_0 ?_
        refine rz_pI 30 dX8_law_27 rfl rfl rfl rfl fl_X8_19 ?_
        refine rz_aload_n 31 0 dX8_law_30 rfl rfl ?_
        refine rz_gR 34 dX8_law_31 rfl rfl fl_X8_87 (fun x2 => ?_)
        refine rz_iload_n 35 1 dX8_law_34 rfl rfl ?_
        refine rz_callV 38 dX8_law_35 rfl (tX1_readLaw v (d + 0) x2 l1) rfl rfl rfl rfl ml_X8_169 im_X1_readLaw se_X1_X1_readLaw in_X1 co_X1_readLaw rfl rfl (fun x3 => ?_)
        refine rz_istore_n (lv' := [(2, vI x3), (0, vR l0), (1, vI l1)]) 39 dX8_law_38 rfl rfl rfl ?_
        refine rz_aload_n 40 1 dX8_law_39 rfl rfl ?_
        refine rz_aload_n 41 1 dX8_law_40 rfl rfl ?_
        refine rz_gR 44 dX8_law_41 rfl rfl fl_X8_87 (fun x4 => ?_)
        refine rz_gR 47 dX8_law_44 rfl rfl fl_X8_172 (fun x5 => ?_)
        refine rz_callV 50 dX8_law_47 rfl (tX8_noteFault v (d + 34) l0 x5) rfl rfl rfl rfl ml_X8_156 im_X8_noteFault se_X8_X8_noteFault in_X8 co_X8_noteFault rfl rfl (fun _ => ?_)
        refine rz_iload_n 51 0 dX8_law_50 rfl rfl ?_
        refine rz_if_ne 61 54 dX8_law_51 rfl rfl ?_ ?_
        · refine rz_aload_n 62 1 dX8_law_61 rfl rfl ?_
          refine rz_gR 65 dX8_law_62 rfl rfl fl_X8_26 (fun x6 => ?_)
          refine rz_aload_n 66 1 dX8_law_65 rfl rfl ?_
          refine rz_gR 69 dX8_law_66 rfl rfl fl_X8_87 (fun x7 => ?_)
          refine rz_callV 72 dX8_law_69 rfl (tX1_made v (d + 32) x7) rfl rfl rfl rfl ml_X8_173 im_X1_made se_X1_X1_made in_X1 co_X1_made rfl rfl (fun x8 => ?_)
          refine rz_pR 75 dX8_law_72 rfl rfl rfl fl_X8_177 ?_
          refine rz_aload_n 76 1 dX8_law_75 rfl rfl ?_
          refine rz_aload_n 77 1 dX8_law_76 rfl rfl ?_
          refine rz_gR 80 dX8_law_77 rfl rfl fl_X8_87 (fun x9 => ?_)
          refine rz_gI 83 dX8_law_80 rfl rfl fl_X8_181 (fun x10 => ?_)
          refine rz_callV 86 dX8_law_83 rfl (tX8_tell v (d + 34) l0 x10) rfl rfl rfl rfl ml_X8_166 im_X8_tell se_X8_X8_tell in_X8 co_X8_tell rfl rfl (fun x11 => ?_)
          exact rz_ireturn rfl rfl dX8_law_86
        · refine rz_aload_n 55 1 dX8_law_54 rfl rfl ?_
          refine rz_bipush 57 dX8_law_55 rfl cb_10 ?_
          refine rz_callV 60 dX8_law_57 rfl (tX8_none v (d + 34) l0 (10 : Int32)) rfl rfl rfl rfl ml_X8_114 im_X8_none se_X8_X8_none in_X8 co_X8_none rfl rfl (fun x12 => ?_)
          exact rz_ireturn rfl rfl dX8_law_60
      · exact rz_sub [0] rfl (rX8_law_19 v d l0)
theorem tX8_law (v : mE) (d : Nat) (l0 : Nat) (l1 : Int32) : Mt v yX8_law cX8_law 3 (some .int) emI (d + 35) [vR l0, vI l1] (fX8_law l0 l1) := mt_of rfl rfl (fun h => by cases h) rfl rfl (rX8_law v d l0 l1)
theorem dX8_fault_0 : decode cX8_fault 0 = .ok (.iload_n 1, 1) := by decide +kernel
theorem dX8_fault_1 : decode cX8_fault 1 = .ok (.ifCond .ne 8, 3) := by decide +kernel
theorem dX8_fault_4 : decode cX8_fault 4 = .ok (.aload_n 0, 1) := by decide +kernel
theorem dX8_fault_5 : decode cX8_fault 5 = .ok (.getfield 61, 3) := by decide +kernel
theorem dX8_fault_8 : decode cX8_fault 8 = .ok (.ireturn, 1) := by decide +kernel
theorem dX8_fault_9 : decode cX8_fault 9 = .ok (.iload_n 1, 1) := by decide +kernel
theorem dX8_fault_10 : decode cX8_fault 10 = .ok (.iconst 1, 1) := by decide +kernel
theorem dX8_fault_11 : decode cX8_fault 11 = .ok (.if_icmp .ne 10, 3) := by decide +kernel
theorem dX8_fault_14 : decode cX8_fault 14 = .ok (.aload_n 0, 1) := by decide +kernel
theorem dX8_fault_15 : decode cX8_fault 15 = .ok (.getfield 64, 3) := by decide +kernel
theorem dX8_fault_18 : decode cX8_fault 18 = .ok (.goto 4, 3) := by decide +kernel
theorem dX8_fault_21 : decode cX8_fault 21 = .ok (.iconst (-1), 1) := by decide +kernel
theorem dX8_fault_22 : decode cX8_fault 22 = .ok (.ireturn, 1) := by decide +kernel
def fX8_fault (l0 : Nat) (l1 : Int32) : mM Int32 := bIf (l1 = 0) (bGI 8 l0 14 (fun x2 => bRet x2)) (bIf (l1 = (1 : Int32)) (bGI 8 l0 15 (fun x1 => bRet x1)) (bRet (-1 : Int32)))
set_option maxRecDepth 20000 in
theorem rX8_fault (v : mE) (d : Nat) (l0 : Nat) (l1 : Int32) : Rz v RX8 cX8_fault 2 (some .int) false emI (d + 0) 0 [(0, vR l0), (1, vI l1)] [] (fX8_fault l0 l1) := by
  unfold fX8_fault
  refine rz_iload_n 1 1 dX8_fault_0 rfl rfl ?_
  refine rz_if_ne 9 4 dX8_fault_1 rfl rfl ?_ ?_
  · refine rz_iload_n 10 1 dX8_fault_9 rfl rfl ?_
    refine rz_iconst 11 dX8_fault_10 rfl ci_1 ?_
    refine rz_icmp_ne 21 14 dX8_fault_11 rfl rfl ?_ ?_
    · refine rz_iconst 22 dX8_fault_21 rfl ci_m1 ?_
      exact rz_ireturn rfl rfl dX8_fault_22
    · refine rz_aload_n 15 0 dX8_fault_14 rfl rfl ?_
      refine rz_gI 18 dX8_fault_15 rfl rfl fl_X8_64 (fun x1 => ?_)
      refine rz_goto 22 dX8_fault_18 rfl ?_
      exact rz_ireturn rfl rfl dX8_fault_22
  · refine rz_aload_n 5 0 dX8_fault_4 rfl rfl ?_
    refine rz_gI 8 dX8_fault_5 rfl rfl fl_X8_61 (fun x2 => ?_)
    exact rz_ireturn rfl rfl dX8_fault_8
theorem tX8_fault (v : mE) (d : Nat) (l0 : Nat) (l1 : Int32) : Mt v yX8_fault cX8_fault 2 (some .int) emI (d + 0) [vR l0, vI l1] (fX8_fault l0 l1) := mt_of rfl rfl (fun h => by cases h) rfl rfl (rX8_fault v d l0 l1)
theorem dX8_many_0 : decode cX8_many 0 = .ok (.iload_n 1, 1) := by decide +kernel
theorem dX8_many_1 : decode cX8_many 1 = .ok (.tableswitch 144 0 6 #[43, 55, 67, 96, 108, 120, 132], 43) := by decide +kernel
theorem dX8_many_44 : decode cX8_many 44 = .ok (.aload_n 0, 1) := by decide +kernel
theorem dX8_many_45 : decode cX8_many 45 = .ok (.aload_n 0, 1) := by decide +kernel
theorem dX8_many_46 : decode cX8_many 46 = .ok (.getfield 26, 3) := by decide +kernel
theorem dX8_many_49 : decode cX8_many 49 = .ok (.getfield 163, 3) := by decide +kernel
theorem dX8_many_52 : decode cX8_many 52 = .ok (.invokevirtual 166, 3) := by decide +kernel
theorem dX8_many_55 : decode cX8_many 55 = .ok (.ireturn, 1) := by decide +kernel
theorem dX8_many_56 : decode cX8_many 56 = .ok (.aload_n 0, 1) := by decide +kernel
theorem dX8_many_57 : decode cX8_many 57 = .ok (.aload_n 0, 1) := by decide +kernel
theorem dX8_many_58 : decode cX8_many 58 = .ok (.getfield 26, 3) := by decide +kernel
theorem dX8_many_61 : decode cX8_many 61 = .ok (.invokevirtual 188, 3) := by decide +kernel
theorem dX8_many_64 : decode cX8_many 64 = .ok (.invokevirtual 166, 3) := by decide +kernel
theorem dX8_many_67 : decode cX8_many 67 = .ok (.ireturn, 1) := by decide +kernel
theorem dX8_many_68 : decode cX8_many 68 = .ok (.aload_n 0, 1) := by decide +kernel
theorem dX8_many_69 : decode cX8_many 69 = .ok (.aload_n 0, 1) := by decide +kernel
theorem dX8_many_70 : decode cX8_many 70 = .ok (.getfield 26, 3) := by decide +kernel
theorem dX8_many_73 : decode cX8_many 73 = .ok (.getfield 177, 3) := by decide +kernel
theorem dX8_many_76 : decode cX8_many 76 = .ok (.ifnonnull 7, 3) := by decide +kernel
theorem dX8_many_79 : decode cX8_many 79 = .ok (.iconst 0, 1) := by decide +kernel
theorem dX8_many_80 : decode cX8_many 80 = .ok (.goto 13, 3) := by decide +kernel
theorem dX8_many_83 : decode cX8_many 83 = .ok (.aload_n 0, 1) := by decide +kernel
theorem dX8_many_84 : decode cX8_many 84 = .ok (.getfield 26, 3) := by decide +kernel
theorem dX8_many_87 : decode cX8_many 87 = .ok (.getfield 177, 3) := by decide +kernel
theorem dX8_many_90 : decode cX8_many 90 = .ok (.getfield 192, 3) := by decide +kernel
theorem dX8_many_93 : decode cX8_many 93 = .ok (.invokevirtual 166, 3) := by decide +kernel
theorem dX8_many_96 : decode cX8_many 96 = .ok (.ireturn, 1) := by decide +kernel
theorem dX8_many_97 : decode cX8_many 97 = .ok (.aload_n 0, 1) := by decide +kernel
theorem dX8_many_98 : decode cX8_many 98 = .ok (.aload_n 0, 1) := by decide +kernel
theorem dX8_many_99 : decode cX8_many 99 = .ok (.getfield 26, 3) := by decide +kernel
theorem dX8_many_102 : decode cX8_many 102 = .ok (.getfield 195, 3) := by decide +kernel
theorem dX8_many_105 : decode cX8_many 105 = .ok (.invokevirtual 166, 3) := by decide +kernel
theorem dX8_many_108 : decode cX8_many 108 = .ok (.ireturn, 1) := by decide +kernel
theorem dX8_many_109 : decode cX8_many 109 = .ok (.aload_n 0, 1) := by decide +kernel
theorem dX8_many_110 : decode cX8_many 110 = .ok (.aload_n 0, 1) := by decide +kernel
theorem dX8_many_111 : decode cX8_many 111 = .ok (.getfield 26, 3) := by decide +kernel
theorem dX8_many_114 : decode cX8_many 114 = .ok (.invokevirtual 198, 3) := by decide +kernel
theorem dX8_many_117 : decode cX8_many 117 = .ok (.invokevirtual 166, 3) := by decide +kernel
theorem dX8_many_120 : decode cX8_many 120 = .ok (.ireturn, 1) := by decide +kernel
theorem dX8_many_121 : decode cX8_many 121 = .ok (.aload_n 0, 1) := by decide +kernel
theorem dX8_many_122 : decode cX8_many 122 = .ok (.aload_n 0, 1) := by decide +kernel
theorem dX8_many_123 : decode cX8_many 123 = .ok (.getfield 26, 3) := by decide +kernel
theorem dX8_many_126 : decode cX8_many 126 = .ok (.getfield 201, 3) := by decide +kernel
theorem dX8_many_129 : decode cX8_many 129 = .ok (.invokevirtual 166, 3) := by decide +kernel
theorem dX8_many_132 : decode cX8_many 132 = .ok (.ireturn, 1) := by decide +kernel
theorem dX8_many_133 : decode cX8_many 133 = .ok (.aload_n 0, 1) := by decide +kernel
theorem dX8_many_134 : decode cX8_many 134 = .ok (.aload_n 0, 1) := by decide +kernel
theorem dX8_many_135 : decode cX8_many 135 = .ok (.getfield 26, 3) := by decide +kernel
theorem dX8_many_138 : decode cX8_many 138 = .ok (.getfield 204, 3) := by decide +kernel
theorem dX8_many_141 : decode cX8_many 141 = .ok (.invokevirtual 166, 3) := by decide +kernel
theorem dX8_many_144 : decode cX8_many 144 = .ok (.ireturn, 1) := by decide +kernel
theorem dX8_many_145 : decode cX8_many 145 = .ok (.aload_n 0, 1) := by decide +kernel
theorem dX8_many_146 : decode cX8_many 146 = .ok (.iconst 5, 1) := by decide +kernel
theorem dX8_many_147 : decode cX8_many 147 = .ok (.invokevirtual 114, 3) := by decide +kernel
theorem dX8_many_150 : decode cX8_many 150 = .ok (.ireturn, 1) := by decide +kernel
def fX8_many_93 (s0 : Int32) (s1 : Nat) : mM Int32 := bCallV 8 s1 (fX8_tell s1 s0) (fun x1 => bRet x1)
set_option maxRecDepth 20000 in
theorem rX8_many_93 (v : mE) (d : Nat) (s0 : Int32) (s1 : Nat) : Rz v RX8 cX8_many 2 (some .int) false emI (d + 2) 93 [] [vI s0, vR s1] (fX8_many_93 s0 s1) := by
  unfold fX8_many_93
  refine rz_callV 96 dX8_many_93 rfl (tX8_tell v (d + 1) s1 s0) rfl rfl rfl rfl ml_X8_166 im_X8_tell se_X8_X8_tell in_X8 co_X8_tell rfl rfl (fun x1 => ?_)
  exact rz_ireturn rfl rfl dX8_many_96
def fX8_many (l0 : Nat) (l1 : Int32) : mM Int32 := bSw l1 0 [(44, bGR 8 l0 3 (fun x2 => bGI 7 x2 7 (fun x3 => bCallV 8 l0 (fX8_tell l0 x3) (fun x4 => bRet x4)))), (56, bGR 8 l0 3 (fun x5 => bCallV 7 x5 (fX7_countRopes x5) (fun x6 => bCallV 8 l0 (fX8_tell l0 x6) (fun x7 => bRet x7)))), (68, bGR 8 l0 3 (fun x8 => bGR 7 x8 16 (fun x9 => bIf (¬ x9 = 0) (bGR 8 l0 3 (fun x10 => bGR 7 x10 16 (fun x11 => bGI 0 x11 1 (fun x12 => fX8_many_93 x12 l0)))) (fX8_many_93 (0 : Int32) l0)))), (97, bGR 8 l0 3 (fun x13 => bGI 7 x13 0 (fun x14 => bCallV 8 l0 (fX8_tell l0 x14) (fun x15 => bRet x15)))), (109, bGR 8 l0 3 (fun x16 => bCallV 7 x16 (fX7_depthNow x16) (fun x17 => bCallV 8 l0 (fX8_tell l0 x17) (fun x18 => bRet x18)))), (121, bGR 8 l0 3 (fun x19 => bGI 7 x19 2 (fun x20 => bCallV 8 l0 (fX8_tell l0 x20) (fun x21 => bRet x21)))), (133, bGR 8 l0 3 (fun x22 => bGI 7 x22 6 (fun x23 => bCallV 8 l0 (fX8_tell l0 x23) (fun x24 => bRet x24))))] (bCallV 8 l0 (fX8_none l0 (5 : Int32)) (fun x1 => bRet x1))
set_option maxRecDepth 20000 in
theorem rX8_many (v : mE) (d : Nat) (l0 : Nat) (l1 : Int32) : Rz v RX8 cX8_many 2 (some .int) false emI (d + 2) 0 [(0, vR l0), (1, vI l1)] [] (fX8_many l0 l1) := by
  unfold fX8_many
  refine rz_iload_n 1 1 dX8_many_0 rfl rfl ?_
  refine rz_table 145 dX8_many_1 rfl rfl rfl rfl ?_ ?_
  · refine rz_aload_n 146 0 dX8_many_145 rfl rfl ?_
    refine rz_iconst 147 dX8_many_146 rfl ci_5 ?_
    refine rz_callV 150 dX8_many_147 rfl (tX8_none v (d + 1) l0 (5 : Int32)) rfl rfl rfl rfl ml_X8_114 im_X8_none se_X8_X8_none in_X8 co_X8_none rfl rfl (fun x1 => ?_)
    exact rz_ireturn rfl rfl dX8_many_150
  · refine List.forall_mem_cons.mpr ⟨?_, List.forall_mem_cons.mpr ⟨?_, List.forall_mem_cons.mpr ⟨?_, List.forall_mem_cons.mpr ⟨?_, List.forall_mem_cons.mpr ⟨?_, List.forall_mem_cons.mpr ⟨?_, List.forall_mem_cons.mpr ⟨?_, fun _ h => absurd h List.not_mem_nil⟩⟩⟩⟩⟩⟩⟩
    · refine rz_pr ?_
      refine rz_aload_n 45 0 dX8_many_44 rfl rfl ?_
      refine rz_aload_n 46 0 dX8_many_45 rfl rfl ?_
      refine rz_gR 49 dX8_many_46 rfl rfl fl_X8_26 (fun x2 => ?_)
      refine rz_gI 52 dX8_many_49 rfl rfl fl_X8_163 (fun x3 => ?_)
      refine rz_callV 55 dX8_many_52 rfl (tX8_tell v (d + 1) l0 x3) rfl rfl rfl rfl ml_X8_166 im_X8_tell se_X8_X8_tell in_X8 co_X8_tell rfl rfl (fun x4 => ?_)
      exact rz_ireturn rfl rfl dX8_many_55
    · refine rz_pr ?_
      refine rz_aload_n 57 0 dX8_many_56 rfl rfl ?_
      refine rz_aload_n 58 0 dX8_many_57 rfl rfl ?_
      refine rz_gR 61 dX8_many_58 rfl rfl fl_X8_26 (fun x5 => ?_)
      refine rz_callV 64 dX8_many_61 rfl (tX7_countRopes v (d + 0) x5) rfl rfl rfl rfl ml_X8_188 im_X7_countRopes se_X7_X7_countRopes in_X7 co_X7_countRopes rfl rfl (fun x6 => ?_)
      refine rz_callV 67 dX8_many_64 rfl (tX8_tell v (d + 1) l0 x6) rfl rfl rfl rfl ml_X8_166 im_X8_tell se_X8_X8_tell in_X8 co_X8_tell rfl rfl (fun x7 => ?_)
      exact rz_ireturn rfl rfl dX8_many_67
    · refine rz_pr ?_
      refine rz_aload_n 69 0 dX8_many_68 rfl rfl ?_
      refine rz_aload_n 70 0 dX8_many_69 rfl rfl ?_
      refine rz_gR 73 dX8_many_70 rfl rfl fl_X8_26 (fun x8 => ?_)
      refine rz_gR 76 dX8_many_73 rfl rfl fl_X8_177 (fun x9 => ?_)
      refine rz_ifnonnull 83 79 dX8_many_76 rfl rfl ?_ ?_
      · refine rz_aload_n 84 0 dX8_many_83 rfl rfl ?_
        refine rz_gR 87 dX8_many_84 rfl rfl fl_X8_26 (fun x10 => ?_)
        refine rz_gR 90 dX8_many_87 rfl rfl fl_X8_177 (fun x11 => ?_)
        refine rz_gI 93 dX8_many_90 rfl rfl fl_X8_192 (fun x12 => ?_)
        exact rz_sub [] rfl (rX8_many_93 v d x12 l0)
      · refine rz_iconst 80 dX8_many_79 rfl ci_0 ?_
        refine rz_goto 93 dX8_many_80 rfl ?_
        exact rz_sub [] rfl (rX8_many_93 v d (0 : Int32) l0)
    · refine rz_pr ?_
      refine rz_aload_n 98 0 dX8_many_97 rfl rfl ?_
      refine rz_aload_n 99 0 dX8_many_98 rfl rfl ?_
      refine rz_gR 102 dX8_many_99 rfl rfl fl_X8_26 (fun x13 => ?_)
      refine rz_gI 105 dX8_many_102 rfl rfl fl_X8_195 (fun x14 => ?_)
      refine rz_callV 108 dX8_many_105 rfl (tX8_tell v (d + 1) l0 x14) rfl rfl rfl rfl ml_X8_166 im_X8_tell se_X8_X8_tell in_X8 co_X8_tell rfl rfl (fun x15 => ?_)
      exact rz_ireturn rfl rfl dX8_many_108
    · refine rz_pr ?_
      refine rz_aload_n 110 0 dX8_many_109 rfl rfl ?_
      refine rz_aload_n 111 0 dX8_many_110 rfl rfl ?_
      refine rz_gR 114 dX8_many_111 rfl rfl fl_X8_26 (fun x16 => ?_)
      refine rz_callV 117 dX8_many_114 rfl (tX7_depthNow v (d + 0) x16) rfl rfl rfl rfl ml_X8_198 im_X7_depthNow se_X7_X7_depthNow in_X7 co_X7_depthNow rfl rfl (fun x17 => ?_)
      refine rz_callV 120 dX8_many_117 rfl (tX8_tell v (d + 1) l0 x17) rfl rfl rfl rfl ml_X8_166 im_X8_tell se_X8_X8_tell in_X8 co_X8_tell rfl rfl (fun x18 => ?_)
      exact rz_ireturn rfl rfl dX8_many_120
    · refine rz_pr ?_
      refine rz_aload_n 122 0 dX8_many_121 rfl rfl ?_
      refine rz_aload_n 123 0 dX8_many_122 rfl rfl ?_
      refine rz_gR 126 dX8_many_123 rfl rfl fl_X8_26 (fun x19 => ?_)
      refine rz_gI 129 dX8_many_126 rfl rfl fl_X8_201 (fun x20 => ?_)
      refine rz_callV 132 dX8_many_129 rfl (tX8_tell v (d + 1) l0 x20) rfl rfl rfl rfl ml_X8_166 im_X8_tell se_X8_X8_tell in_X8 co_X8_tell rfl rfl (fun x21 => ?_)
      exact rz_ireturn rfl rfl dX8_many_132
    · refine rz_pr ?_
      refine rz_aload_n 134 0 dX8_many_133 rfl rfl ?_
      refine rz_aload_n 135 0 dX8_many_134 rfl rfl ?_
      refine rz_gR 138 dX8_many_135 rfl rfl fl_X8_26 (fun x22 => ?_)
      refine rz_gI 141 dX8_many_138 rfl rfl fl_X8_204 (fun x23 => ?_)
      refine rz_callV 144 dX8_many_141 rfl (tX8_tell v (d + 1) l0 x23) rfl rfl rfl rfl ml_X8_166 im_X8_tell se_X8_X8_tell in_X8 co_X8_tell rfl rfl (fun x24 => ?_)
      exact rz_ireturn rfl rfl dX8_many_144
theorem tX8_many (v : mE) (d : Nat) (l0 : Nat) (l1 : Int32) : Mt v yX8_many cX8_many 2 (some .int) emI (d + 2) [vR l0, vI l1] (fX8_many l0 l1) := mt_of rfl rfl (fun h => by cases h) rfl rfl (rX8_many v d l0 l1)
theorem dX8_isPerson_0 : decode cX8_isPerson 0 = .ok (.iload_n 1, 1) := by decide +kernel
theorem dX8_isPerson_1 : decode cX8_isPerson 1 = .ok (.ifCond .lt 18, 3) := by decide +kernel
theorem dX8_isPerson_4 : decode cX8_isPerson 4 = .ok (.iload_n 1, 1) := by decide +kernel
theorem dX8_isPerson_5 : decode cX8_isPerson 5 = .ok (.aload_n 0, 1) := by decide +kernel
theorem dX8_isPerson_6 : decode cX8_isPerson 6 = .ok (.getfield 26, 3) := by decide +kernel
theorem dX8_isPerson_9 : decode cX8_isPerson 9 = .ok (.getfield 163, 3) := by decide +kernel
theorem dX8_isPerson_12 : decode cX8_isPerson 12 = .ok (.if_icmp .ge 7, 3) := by decide +kernel
theorem dX8_isPerson_15 : decode cX8_isPerson 15 = .ok (.iconst 1, 1) := by decide +kernel
theorem dX8_isPerson_16 : decode cX8_isPerson 16 = .ok (.goto 4, 3) := by decide +kernel
theorem dX8_isPerson_19 : decode cX8_isPerson 19 = .ok (.iconst 0, 1) := by decide +kernel
theorem dX8_isPerson_20 : decode cX8_isPerson 20 = .ok (.ireturn, 1) := by decide +kernel
def fX8_isPerson (l0 : Nat) (l1 : Int32) : mM Int32 := bIf (l1 < 0) (bRetZ (0 : Int32)) (bGR 8 l0 3 (fun x1 => bGI 7 x1 7 (fun x2 => bIf (x2 ≤ l1) (bRetZ (0 : Int32)) (bRetZ (1 : Int32)))))
set_option maxRecDepth 20000 in
theorem rX8_isPerson (v : mE) (d : Nat) (l0 : Nat) (l1 : Int32) : Rz v RX8 cX8_isPerson 2 (some .boolean) false emI (d + 0) 0 [(0, vR l0), (1, vI l1)] [] (fX8_isPerson l0 l1) := by
  unfold fX8_isPerson
  refine rz_iload_n 1 1 dX8_isPerson_0 rfl rfl ?_
  refine rz_if_lt 19 4 dX8_isPerson_1 rfl rfl ?_ ?_
  · refine rz_iconst 20 dX8_isPerson_19 rfl ci_0 ?_
    exact rz_zreturn rfl rfl dX8_isPerson_20
  · refine rz_iload_n 5 1 dX8_isPerson_4 rfl rfl ?_
    refine rz_aload_n 6 0 dX8_isPerson_5 rfl rfl ?_
    refine rz_gR 9 dX8_isPerson_6 rfl rfl fl_X8_26 (fun x1 => ?_)
    refine rz_gI 12 dX8_isPerson_9 rfl rfl fl_X8_163 (fun x2 => ?_)
    refine rz_icmp_ge 19 15 dX8_isPerson_12 rfl rfl ?_ ?_
    · refine rz_iconst 20 dX8_isPerson_19 rfl ci_0 ?_
      exact rz_zreturn rfl rfl dX8_isPerson_20
    · refine rz_iconst 16 dX8_isPerson_15 rfl ci_1 ?_
      refine rz_goto 20 dX8_isPerson_16 rfl ?_
      exact rz_zreturn rfl rfl dX8_isPerson_20
theorem tX8_isPerson (v : mE) (d : Nat) (l0 : Nat) (l1 : Int32) : Mt v yX8_isPerson cX8_isPerson 2 (some .boolean) emI (d + 0) [vR l0, vI l1] (fX8_isPerson l0 l1) := mt_of rfl rfl (fun h => by cases h) rfl rfl (rX8_isPerson v d l0 l1)
theorem dX8_tellIf_0 : decode cX8_tellIf 0 = .ok (.iload_n 1, 1) := by decide +kernel
theorem dX8_tellIf_1 : decode cX8_tellIf 1 = .ok (.ifCond .eq 11, 3) := by decide +kernel
theorem dX8_tellIf_4 : decode cX8_tellIf 4 = .ok (.aload_n 0, 1) := by decide +kernel
theorem dX8_tellIf_5 : decode cX8_tellIf 5 = .ok (.iload_n 2, 1) := by decide +kernel
theorem dX8_tellIf_6 : decode cX8_tellIf 6 = .ok (.invokevirtual 166, 3) := by decide +kernel
theorem dX8_tellIf_9 : decode cX8_tellIf 9 = .ok (.goto 9, 3) := by decide +kernel
theorem dX8_tellIf_12 : decode cX8_tellIf 12 = .ok (.aload_n 0, 1) := by decide +kernel
theorem dX8_tellIf_13 : decode cX8_tellIf 13 = .ok (.bipush 8, 2) := by decide +kernel
theorem dX8_tellIf_15 : decode cX8_tellIf 15 = .ok (.invokevirtual 114, 3) := by decide +kernel
theorem dX8_tellIf_18 : decode cX8_tellIf 18 = .ok (.ireturn, 1) := by decide +kernel
def fX8_tellIf (l0 : Nat) (l1 : Int32) (l2 : Int32) : mM Int32 := bIf (l1 = 0) (bCallV 8 l0 (fX8_none l0 (8 : Int32)) (fun x1 => bRet x1)) (bCallV 8 l0 (fX8_tell l0 l2) (fun x2 => bRet x2))
set_option maxRecDepth 20000 in
theorem rX8_tellIf (v : mE) (d : Nat) (l0 : Nat) (l1 : Int32) (l2 : Int32) : Rz v RX8 cX8_tellIf 3 (some .int) false emI (d + 1) 0 [(0, vR l0), (1, vI l1), (2, vI l2)] [] (fX8_tellIf l0 l1 l2) := by
  unfold fX8_tellIf
  refine rz_iload_n 1 1 dX8_tellIf_0 rfl rfl ?_
  refine rz_if_eq 12 4 dX8_tellIf_1 rfl rfl ?_ ?_
  · refine rz_aload_n 13 0 dX8_tellIf_12 rfl rfl ?_
    refine rz_bipush 15 dX8_tellIf_13 rfl cb_8 ?_
    refine rz_callV 18 dX8_tellIf_15 rfl (tX8_none v (d + 0) l0 (8 : Int32)) rfl rfl rfl rfl ml_X8_114 im_X8_none se_X8_X8_none in_X8 co_X8_none rfl rfl (fun x1 => ?_)
    exact rz_ireturn rfl rfl dX8_tellIf_18
  · refine rz_aload_n 5 0 dX8_tellIf_4 rfl rfl ?_
    refine rz_iload_n 6 2 dX8_tellIf_5 rfl rfl ?_
    refine rz_callV 9 dX8_tellIf_6 rfl (tX8_tell v (d + 0) l0 l2) rfl rfl rfl rfl ml_X8_166 im_X8_tell se_X8_X8_tell in_X8 co_X8_tell rfl rfl (fun x2 => ?_)
    refine rz_goto 18 dX8_tellIf_9 rfl ?_
    exact rz_ireturn rfl rfl dX8_tellIf_18
theorem tX8_tellIf (v : mE) (d : Nat) (l0 : Nat) (l1 : Int32) (l2 : Int32) : Mt v yX8_tellIf cX8_tellIf 3 (some .int) emI (d + 1) [vR l0, vI l1, vI l2] (fX8_tellIf l0 l1 l2) := mt_of rfl rfl (fun h => by cases h) rfl rfl (rX8_tellIf v d l0 l1 l2)
theorem dX8_person_0 : decode cX8_person 0 = .ok (.aload_n 0, 1) := by decide +kernel
theorem dX8_person_1 : decode cX8_person 1 = .ok (.iload_n 1, 1) := by decide +kernel
theorem dX8_person_2 : decode cX8_person 2 = .ok (.invokevirtual 207, 3) := by decide +kernel
theorem dX8_person_5 : decode cX8_person 5 = .ok (.ifCond .ne 9, 3) := by decide +kernel
theorem dX8_person_8 : decode cX8_person 8 = .ok (.aload_n 0, 1) := by decide +kernel
theorem dX8_person_9 : decode cX8_person 9 = .ok (.iconst 2, 1) := by decide +kernel
theorem dX8_person_10 : decode cX8_person 10 = .ok (.invokevirtual 114, 3) := by decide +kernel
theorem dX8_person_13 : decode cX8_person 13 = .ok (.ireturn, 1) := by decide +kernel
theorem dX8_person_14 : decode cX8_person 14 = .ok (.iload_n 2, 1) := by decide +kernel
theorem dX8_person_15 : decode cX8_person 15 = .ok (.tableswitch 144 0 4 #[33, 65, 97, 118, 131], 33) := by decide +kernel
theorem dX8_person_48 : decode cX8_person 48 = .ok (.aload_n 0, 1) := by decide +kernel
theorem dX8_person_49 : decode cX8_person 49 = .ok (.aload_n 0, 1) := by decide +kernel
theorem dX8_person_50 : decode cX8_person 50 = .ok (.getfield 26, 3) := by decide +kernel
theorem dX8_person_53 : decode cX8_person 53 = .ok (.getfield 210, 3) := by decide +kernel
theorem dX8_person_56 : decode cX8_person 56 = .ok (.iload_n 1, 1) := by decide +kernel
theorem dX8_person_57 : decode cX8_person 57 = .ok (.iaload, 1) := by decide +kernel
theorem dX8_person_58 : decode cX8_person 58 = .ok (.iconst (-1), 1) := by decide +kernel
theorem dX8_person_59 : decode cX8_person 59 = .ok (.if_icmp .eq 7, 3) := by decide +kernel
theorem dX8_person_62 : decode cX8_person 62 = .ok (.iconst 1, 1) := by decide +kernel
theorem dX8_person_63 : decode cX8_person 63 = .ok (.goto 4, 3) := by decide +kernel
theorem dX8_person_66 : decode cX8_person 66 = .ok (.iconst 0, 1) := by decide +kernel
theorem dX8_person_67 : decode cX8_person 67 = .ok (.aload_n 0, 1) := by decide +kernel
theorem dX8_person_68 : decode cX8_person 68 = .ok (.getfield 26, 3) := by decide +kernel
theorem dX8_person_71 : decode cX8_person 71 = .ok (.getfield 210, 3) := by decide +kernel
theorem dX8_person_74 : decode cX8_person 74 = .ok (.iload_n 1, 1) := by decide +kernel
theorem dX8_person_75 : decode cX8_person 75 = .ok (.iaload, 1) := by decide +kernel
theorem dX8_person_76 : decode cX8_person 76 = .ok (.invokevirtual 213, 3) := by decide +kernel
theorem dX8_person_79 : decode cX8_person 79 = .ok (.ireturn, 1) := by decide +kernel
theorem dX8_person_80 : decode cX8_person 80 = .ok (.aload_n 0, 1) := by decide +kernel
theorem dX8_person_81 : decode cX8_person 81 = .ok (.aload_n 0, 1) := by decide +kernel
theorem dX8_person_82 : decode cX8_person 82 = .ok (.getfield 26, 3) := by decide +kernel
theorem dX8_person_85 : decode cX8_person 85 = .ok (.getfield 217, 3) := by decide +kernel
theorem dX8_person_88 : decode cX8_person 88 = .ok (.iload_n 1, 1) := by decide +kernel
theorem dX8_person_89 : decode cX8_person 89 = .ok (.iaload, 1) := by decide +kernel
theorem dX8_person_90 : decode cX8_person 90 = .ok (.iconst (-1), 1) := by decide +kernel
theorem dX8_person_91 : decode cX8_person 91 = .ok (.if_icmp .eq 7, 3) := by decide +kernel
theorem dX8_person_94 : decode cX8_person 94 = .ok (.iconst 1, 1) := by decide +kernel
theorem dX8_person_95 : decode cX8_person 95 = .ok (.goto 4, 3) := by decide +kernel
theorem dX8_person_98 : decode cX8_person 98 = .ok (.iconst 0, 1) := by decide +kernel
theorem dX8_person_99 : decode cX8_person 99 = .ok (.aload_n 0, 1) := by decide +kernel
theorem dX8_person_100 : decode cX8_person 100 = .ok (.getfield 26, 3) := by decide +kernel
theorem dX8_person_103 : decode cX8_person 103 = .ok (.getfield 217, 3) := by decide +kernel
theorem dX8_person_106 : decode cX8_person 106 = .ok (.iload_n 1, 1) := by decide +kernel
theorem dX8_person_107 : decode cX8_person 107 = .ok (.iaload, 1) := by decide +kernel
theorem dX8_person_108 : decode cX8_person 108 = .ok (.invokevirtual 213, 3) := by decide +kernel
theorem dX8_person_111 : decode cX8_person 111 = .ok (.ireturn, 1) := by decide +kernel
theorem dX8_person_112 : decode cX8_person 112 = .ok (.aload_n 0, 1) := by decide +kernel
theorem dX8_person_113 : decode cX8_person 113 = .ok (.aload_n 0, 1) := by decide +kernel
theorem dX8_person_114 : decode cX8_person 114 = .ok (.getfield 26, 3) := by decide +kernel
theorem dX8_person_117 : decode cX8_person 117 = .ok (.iload_n 1, 1) := by decide +kernel
theorem dX8_person_118 : decode cX8_person 118 = .ok (.invokevirtual 220, 3) := by decide +kernel
theorem dX8_person_121 : decode cX8_person 121 = .ok (.ifCond .eq 7, 3) := by decide +kernel
theorem dX8_person_124 : decode cX8_person 124 = .ok (.iconst 1, 1) := by decide +kernel
theorem dX8_person_125 : decode cX8_person 125 = .ok (.goto 4, 3) := by decide +kernel
theorem dX8_person_128 : decode cX8_person 128 = .ok (.iconst 0, 1) := by decide +kernel
theorem dX8_person_129 : decode cX8_person 129 = .ok (.invokevirtual 166, 3) := by decide +kernel
theorem dX8_person_132 : decode cX8_person 132 = .ok (.ireturn, 1) := by decide +kernel
theorem dX8_person_133 : decode cX8_person 133 = .ok (.aload_n 0, 1) := by decide +kernel
theorem dX8_person_134 : decode cX8_person 134 = .ok (.aload_n 0, 1) := by decide +kernel
theorem dX8_person_135 : decode cX8_person 135 = .ok (.getfield 26, 3) := by decide +kernel
theorem dX8_person_138 : decode cX8_person 138 = .ok (.iload_n 1, 1) := by decide +kernel
theorem dX8_person_139 : decode cX8_person 139 = .ok (.invokevirtual 223, 3) := by decide +kernel
theorem dX8_person_142 : decode cX8_person 142 = .ok (.invokevirtual 166, 3) := by decide +kernel
theorem dX8_person_145 : decode cX8_person 145 = .ok (.ireturn, 1) := by decide +kernel
theorem dX8_person_146 : decode cX8_person 146 = .ok (.aload_n 0, 1) := by decide +kernel
theorem dX8_person_147 : decode cX8_person 147 = .ok (.aload_n 0, 1) := by decide +kernel
theorem dX8_person_148 : decode cX8_person 148 = .ok (.getfield 26, 3) := by decide +kernel
theorem dX8_person_151 : decode cX8_person 151 = .ok (.iload_n 1, 1) := by decide +kernel
theorem dX8_person_152 : decode cX8_person 152 = .ok (.invokevirtual 226, 3) := by decide +kernel
theorem dX8_person_155 : decode cX8_person 155 = .ok (.invokevirtual 166, 3) := by decide +kernel
theorem dX8_person_158 : decode cX8_person 158 = .ok (.ireturn, 1) := by decide +kernel
theorem dX8_person_159 : decode cX8_person 159 = .ok (.aload_n 0, 1) := by decide +kernel
theorem dX8_person_160 : decode cX8_person 160 = .ok (.iconst 5, 1) := by decide +kernel
theorem dX8_person_161 : decode cX8_person 161 = .ok (.invokevirtual 114, 3) := by decide +kernel
theorem dX8_person_164 : decode cX8_person 164 = .ok (.ireturn, 1) := by decide +kernel
def fX8_person_129 (s0 : Int32) (s1 : Nat) : mM Int32 := bCallV 8 s1 (fX8_tell s1 s0) (fun x1 => bRet x1)
set_option maxRecDepth 20000 in
theorem rX8_person_129 (v : mE) (d : Nat) (s0 : Int32) (s1 : Nat) : Rz v RX8 cX8_person 3 (some .int) false emI (d + 2) 129 [] [vI s0, vR s1] (fX8_person_129 s0 s1) := by
  unfold fX8_person_129
  refine rz_callV 132 dX8_person_129 rfl (tX8_tell v (d + 1) s1 s0) rfl rfl rfl rfl ml_X8_166 im_X8_tell se_X8_X8_tell in_X8 co_X8_tell rfl rfl (fun x1 => ?_)
  exact rz_ireturn rfl rfl dX8_person_132
def fX8_person_99 (l0 : Nat) (l1 : Int32) (s0 : Int32) (s1 : Nat) : mM Int32 := bGR 8 l0 3 (fun x1 => bGR 7 x1 9 (fun x2 => bAI 11 x2 l1 (fun x3 => bCallV 8 s1 (fX8_tellIf s1 s0 x3) (fun x4 => bRet x4))))
set_option maxRecDepth 20000 in
theorem rX8_person_99 (v : mE) (d : Nat) (l0 : Nat) (l1 : Int32) (s0 : Int32) (s1 : Nat) : Rz v RX8 cX8_person 3 (some .int) false emI (d + 2) 99 [(0, vR l0), (1, vI l1)] [vI s0, vR s1] (fX8_person_99 l0 l1 s0 s1) := by
  unfold fX8_person_99
  refine rz_aload_n 100 0 dX8_person_99 rfl rfl ?_
  refine rz_gR 103 dX8_person_100 rfl rfl fl_X8_26 (fun x1 => ?_)
  refine rz_gR 106 dX8_person_103 rfl rfl fl_X8_217 (fun x2 => ?_)
  refine rz_iload_n 107 1 dX8_person_106 rfl rfl ?_
  refine rz_iald 108 dX8_person_107 rfl (fun x3 => ?_)
  refine rz_callV 111 dX8_person_108 rfl (tX8_tellIf v (d + 0) s1 s0 x3) rfl rfl rfl rfl ml_X8_213 im_X8_tellIf se_X8_X8_tellIf in_X8 co_X8_tellIf rfl rfl (fun x4 => ?_)
  exact rz_ireturn rfl rfl dX8_person_111
def fX8_person_67 (l0 : Nat) (l1 : Int32) (s0 : Int32) (s1 : Nat) : mM Int32 := bGR 8 l0 3 (fun x1 => bGR 7 x1 8 (fun x2 => bAI 11 x2 l1 (fun x3 => bCallV 8 s1 (fX8_tellIf s1 s0 x3) (fun x4 => bRet x4))))
set_option maxRecDepth 20000 in
theorem rX8_person_67 (v : mE) (d : Nat) (l0 : Nat) (l1 : Int32) (s0 : Int32) (s1 : Nat) : Rz v RX8 cX8_person 3 (some .int) false emI (d + 2) 67 [(0, vR l0), (1, vI l1)] [vI s0, vR s1] (fX8_person_67 l0 l1 s0 s1) := by
  unfold fX8_person_67
  refine rz_aload_n 68 0 dX8_person_67 rfl rfl ?_
  refine rz_gR 71 dX8_person_68 rfl rfl fl_X8_26 (fun x1 => ?_)
  refine rz_gR 74 dX8_person_71 rfl rfl fl_X8_210 (fun x2 => ?_)
  refine rz_iload_n 75 1 dX8_person_74 rfl rfl ?_
  refine rz_iald 76 dX8_person_75 rfl (fun x3 => ?_)
  refine rz_callV 79 dX8_person_76 rfl (tX8_tellIf v (d + 0) s1 s0 x3) rfl rfl rfl rfl ml_X8_213 im_X8_tellIf se_X8_X8_tellIf in_X8 co_X8_tellIf rfl rfl (fun x4 => ?_)
  exact rz_ireturn rfl rfl dX8_person_79
def fX8_person (l0 : Nat) (l1 : Int32) (l2 : Int32) : mM Int32 := bCallV 8 l0 (fX8_isPerson l0 l1) (fun x1 => bIf (x1 = 0) (bCallV 8 l0 (fX8_none l0 (2 : Int32)) (fun x17 => bRet x17)) (bSw l2 0 [(48, bGR 8 l0 3 (fun x3 => bGR 7 x3 8 (fun x4 => bAI 11 x4 l1 (fun x5 => bIf (x5 = (-1 : Int32)) (fX8_person_67 l0 l1 (0 : Int32) l0) (fX8_person_67 l0 l1 (1 : Int32) l0))))), (80, bGR 8 l0 3 (fun x6 => bGR 7 x6 9 (fun x7 => bAI 11 x7 l1 (fun x8 => bIf (x8 = (-1 : Int32)) (fX8_person_99 l0 l1 (0 : Int32) l0) (fX8_person_99 l0 l1 (1 : Int32) l0))))), (112, bGR 8 l0 3 (fun x9 => bCallV 7 x9 (fX7_isAlive x9 l1) (fun x10 => bIf (x10 = 0) (fX8_person_129 (0 : Int32) l0) (fX8_person_129 (1 : Int32) l0)))), (133, bGR 8 l0 3 (fun x11 => bCallV 7 x11 (fX7_ownYards x11 l1) (fun x12 => bCallV 8 l0 (fX8_tell l0 x12) (fun x13 => bRet x13)))), (146, bGR 8 l0 3 (fun x14 => bCallV 7 x14 (fX7_heldYards x14 l1) (fun x15 => bCallV 8 l0 (fX8_tell l0 x15) (fun x16 => bRet x16))))] (bCallV 8 l0 (fX8_none l0 (5 : Int32)) (fun x2 => bRet x2))))
set_option maxRecDepth 20000 in
theorem rX8_person (v : mE) (d : Nat) (l0 : Nat) (l1 : Int32) (l2 : Int32) : Rz v RX8 cX8_person 3 (some .int) false emI (d + 2) 0 [(0, vR l0), (1, vI l1), (2, vI l2)] [] (fX8_person l0 l1 l2) := by
  unfold fX8_person
  refine rz_aload_n 1 0 dX8_person_0 rfl rfl ?_
  refine rz_iload_n 2 1 dX8_person_1 rfl rfl ?_
  refine rz_callV 5 dX8_person_2 rfl (tX8_isPerson v (d + 1) l0 l1) rfl rfl rfl rfl ml_X8_207 im_X8_isPerson se_X8_X8_isPerson in_X8 co_X8_isPerson rfl rfl (fun x1 => ?_)
  refine rz_if_ne 14 8 dX8_person_5 rfl rfl ?_ ?_
  · refine rz_iload_n 15 2 dX8_person_14 rfl rfl ?_
    refine rz_table 159 dX8_person_15 rfl rfl rfl rfl ?_ ?_
    · refine rz_aload_n 160 0 dX8_person_159 rfl rfl ?_
      refine rz_iconst 161 dX8_person_160 rfl ci_5 ?_
      refine rz_callV 164 dX8_person_161 rfl (tX8_none v (d + 1) l0 (5 : Int32)) rfl rfl rfl rfl ml_X8_114 im_X8_none se_X8_X8_none in_X8 co_X8_none rfl rfl (fun x2 => ?_)
      exact rz_ireturn rfl rfl dX8_person_164
    · refine List.forall_mem_cons.mpr ⟨?_, List.forall_mem_cons.mpr ⟨?_, List.forall_mem_cons.mpr ⟨?_, List.forall_mem_cons.mpr ⟨?_, List.forall_mem_cons.mpr ⟨?_, fun _ h => absurd h List.not_mem_nil⟩⟩⟩⟩⟩
      · refine rz_pr ?_
        refine rz_aload_n 49 0 dX8_person_48 rfl rfl ?_
        refine rz_aload_n 50 0 dX8_person_49 rfl rfl ?_
        refine rz_gR 53 dX8_person_50 rfl rfl fl_X8_26 (fun x3 => ?_)
        refine rz_gR 56 dX8_person_53 rfl rfl fl_X8_210 (fun x4 => ?_)
        refine rz_iload_n 57 1 dX8_person_56 rfl rfl ?_
        refine rz_iald 58 dX8_person_57 rfl (fun x5 => ?_)
        refine rz_iconst 59 dX8_person_58 rfl ci_m1 ?_
        refine rz_icmp_eq 66 62 dX8_person_59 rfl rfl ?_ ?_
        · refine rz_iconst 67 dX8_person_66 rfl ci_0 ?_
          exact rz_sub [0, 1] rfl (rX8_person_67 v d l0 l1 (0 : Int32) l0)
        · refine rz_iconst 63 dX8_person_62 rfl ci_1 ?_
          refine rz_goto 67 dX8_person_63 rfl ?_
          exact rz_sub [0, 1] rfl (rX8_person_67 v d l0 l1 (1 : Int32) l0)
      · refine rz_pr ?_
        refine rz_aload_n 81 0 dX8_person_80 rfl rfl ?_
        refine rz_aload_n 82 0 dX8_person_81 rfl rfl ?_
        refine rz_gR 85 dX8_person_82 rfl rfl fl_X8_26 (fun x6 => ?_)
        refine rz_gR 88 dX8_person_85 rfl rfl fl_X8_217 (fun x7 => ?_)
        refine rz_iload_n 89 1 dX8_person_88 rfl rfl ?_
        refine rz_iald 90 dX8_person_89 rfl (fun x8 => ?_)
        refine rz_iconst 91 dX8_person_90 rfl ci_m1 ?_
        refine rz_icmp_eq 98 94 dX8_person_91 rfl rfl ?_ ?_
        · refine rz_iconst 99 dX8_person_98 rfl ci_0 ?_
          exact rz_sub [0, 1] rfl (rX8_person_99 v d l0 l1 (0 : Int32) l0)
        · refine rz_iconst 95 dX8_person_94 rfl ci_1 ?_
          refine rz_goto 99 dX8_person_95 rfl ?_
          exact rz_sub [0, 1] rfl (rX8_person_99 v d l0 l1 (1 : Int32) l0)
      · refine rz_pr ?_
        refine rz_aload_n 113 0 dX8_person_112 rfl rfl ?_
        refine rz_aload_n 114 0 dX8_person_113 rfl rfl ?_
        refine rz_gR 117 dX8_person_114 rfl rfl fl_X8_26 (fun x9 => ?_)
        refine rz_iload_n 118 1 dX8_person_117 rfl rfl ?_
        refine rz_callV 121 dX8_person_118 rfl (tX7_isAlive v (d + 1) x9 l1) rfl rfl rfl rfl ml_X8_220 im_X7_isAlive se_X7_X7_isAlive in_X7 co_X7_isAlive rfl rfl (fun x10 => ?_)
        refine rz_if_eq 128 124 dX8_person_121 rfl rfl ?_ ?_
        · refine rz_iconst 129 dX8_person_128 rfl ci_0 ?_
          exact rz_sub [] rfl (rX8_person_129 v d (0 : Int32) l0)
        · refine rz_iconst 125 dX8_person_124 rfl ci_1 ?_
          refine rz_goto 129 dX8_person_125 rfl ?_
          exact rz_sub [] rfl (rX8_person_129 v d (1 : Int32) l0)
      · refine rz_pr ?_
        refine rz_aload_n 134 0 dX8_person_133 rfl rfl ?_
        refine rz_aload_n 135 0 dX8_person_134 rfl rfl ?_
        refine rz_gR 138 dX8_person_135 rfl rfl fl_X8_26 (fun x11 => ?_)
        refine rz_iload_n 139 1 dX8_person_138 rfl rfl ?_
        refine rz_callV 142 dX8_person_139 rfl (tX7_ownYards v (d + 0) x11 l1) rfl rfl rfl rfl ml_X8_223 im_X7_ownYards se_X7_X7_ownYards in_X7 co_X7_ownYards rfl rfl (fun x12 => ?_)
        refine rz_callV 145 dX8_person_142 rfl (tX8_tell v (d + 1) l0 x12) rfl rfl rfl rfl ml_X8_166 im_X8_tell se_X8_X8_tell in_X8 co_X8_tell rfl rfl (fun x13 => ?_)
        exact rz_ireturn rfl rfl dX8_person_145
      · refine rz_pr ?_
        refine rz_aload_n 147 0 dX8_person_146 rfl rfl ?_
        refine rz_aload_n 148 0 dX8_person_147 rfl rfl ?_
        refine rz_gR 151 dX8_person_148 rfl rfl fl_X8_26 (fun x14 => ?_)
        refine rz_iload_n 152 1 dX8_person_151 rfl rfl ?_
        refine rz_callV 155 dX8_person_152 rfl (tX7_heldYards v (d + 0) x14 l1) rfl rfl rfl rfl ml_X8_226 im_X7_heldYards se_X7_X7_heldYards in_X7 co_X7_heldYards rfl rfl (fun x15 => ?_)
        refine rz_callV 158 dX8_person_155 rfl (tX8_tell v (d + 1) l0 x15) rfl rfl rfl rfl ml_X8_166 im_X8_tell se_X8_X8_tell in_X8 co_X8_tell rfl rfl (fun x16 => ?_)
        exact rz_ireturn rfl rfl dX8_person_158
  · refine rz_aload_n 9 0 dX8_person_8 rfl rfl ?_
    refine rz_iconst 10 dX8_person_9 rfl ci_2 ?_
    refine rz_callV 13 dX8_person_10 rfl (tX8_none v (d + 1) l0 (2 : Int32)) rfl rfl rfl rfl ml_X8_114 im_X8_none se_X8_X8_none in_X8 co_X8_none rfl rfl (fun x17 => ?_)
    exact rz_ireturn rfl rfl dX8_person_13
theorem tX8_person (v : mE) (d : Nat) (l0 : Nat) (l1 : Int32) (l2 : Int32) : Mt v yX8_person cX8_person 3 (some .int) emI (d + 2) [vR l0, vI l1, vI l2] (fX8_person l0 l1 l2) := mt_of rfl rfl (fun h => by cases h) rfl rfl (rX8_person v d l0 l1 l2)
theorem dX8_heirs_0 : decode cX8_heirs 0 = .ok (.aload_n 0, 1) := by decide +kernel
theorem dX8_heirs_1 : decode cX8_heirs 1 = .ok (.iload_n 1, 1) := by decide +kernel
theorem dX8_heirs_2 : decode cX8_heirs 2 = .ok (.invokevirtual 207, 3) := by decide +kernel
theorem dX8_heirs_5 : decode cX8_heirs 5 = .ok (.ifCond .eq 18, 3) := by decide +kernel
theorem dX8_heirs_8 : decode cX8_heirs 8 = .ok (.aload_n 0, 1) := by decide +kernel
theorem dX8_heirs_9 : decode cX8_heirs 9 = .ok (.aload_n 0, 1) := by decide +kernel
theorem dX8_heirs_10 : decode cX8_heirs 10 = .ok (.getfield 26, 3) := by decide +kernel
theorem dX8_heirs_13 : decode cX8_heirs 13 = .ok (.iload_n 1, 1) := by decide +kernel
theorem dX8_heirs_14 : decode cX8_heirs 14 = .ok (.invokevirtual 229, 3) := by decide +kernel
theorem dX8_heirs_17 : decode cX8_heirs 17 = .ok (.invokevirtual 166, 3) := by decide +kernel
theorem dX8_heirs_20 : decode cX8_heirs 20 = .ok (.goto 8, 3) := by decide +kernel
theorem dX8_heirs_23 : decode cX8_heirs 23 = .ok (.aload_n 0, 1) := by decide +kernel
theorem dX8_heirs_24 : decode cX8_heirs 24 = .ok (.iconst 2, 1) := by decide +kernel
theorem dX8_heirs_25 : decode cX8_heirs 25 = .ok (.invokevirtual 114, 3) := by decide +kernel
theorem dX8_heirs_28 : decode cX8_heirs 28 = .ok (.ireturn, 1) := by decide +kernel
def fX8_heirs (l0 : Nat) (l1 : Int32) : mM Int32 := bCallV 8 l0 (fX8_isPerson l0 l1) (fun x1 => bIf (x1 = 0) (bCallV 8 l0 (fX8_none l0 (2 : Int32)) (fun x2 => bRet x2)) (bGR 8 l0 3 (fun x3 => bCallV 7 x3 (fX7_heirSet x3 l1) (fun x4 => bCallV 8 l0 (fX8_tell l0 x4) (fun x5 => bRet x5)))))
set_option maxRecDepth 20000 in
theorem rX8_heirs (v : mE) (d : Nat) (l0 : Nat) (l1 : Int32) : Rz v RX8 cX8_heirs 2 (some .int) false emI (d + 2) 0 [(0, vR l0), (1, vI l1)] [] (fX8_heirs l0 l1) := by
  unfold fX8_heirs
  refine rz_aload_n 1 0 dX8_heirs_0 rfl rfl ?_
  refine rz_iload_n 2 1 dX8_heirs_1 rfl rfl ?_
  refine rz_callV 5 dX8_heirs_2 rfl (tX8_isPerson v (d + 1) l0 l1) rfl rfl rfl rfl ml_X8_207 im_X8_isPerson se_X8_X8_isPerson in_X8 co_X8_isPerson rfl rfl (fun x1 => ?_)
  refine rz_if_eq 23 8 dX8_heirs_5 rfl rfl ?_ ?_
  · refine rz_aload_n 24 0 dX8_heirs_23 rfl rfl ?_
    refine rz_iconst 25 dX8_heirs_24 rfl ci_2 ?_
    refine rz_callV 28 dX8_heirs_25 rfl (tX8_none v (d + 1) l0 (2 : Int32)) rfl rfl rfl rfl ml_X8_114 im_X8_none se_X8_X8_none in_X8 co_X8_none rfl rfl (fun x2 => ?_)
    exact rz_ireturn rfl rfl dX8_heirs_28
  · refine rz_aload_n 9 0 dX8_heirs_8 rfl rfl ?_
    refine rz_aload_n 10 0 dX8_heirs_9 rfl rfl ?_
    refine rz_gR 13 dX8_heirs_10 rfl rfl fl_X8_26 (fun x3 => ?_)
    refine rz_iload_n 14 1 dX8_heirs_13 rfl rfl ?_
    refine rz_callV 17 dX8_heirs_14 rfl (tX7_heirSet v (d + 0) x3 l1) rfl rfl rfl rfl ml_X8_229 im_X7_heirSet se_X7_X7_heirSet in_X7 co_X7_heirSet rfl rfl (fun x4 => ?_)
    refine rz_callV 20 dX8_heirs_17 rfl (tX8_tell v (d + 1) l0 x4) rfl rfl rfl rfl ml_X8_166 im_X8_tell se_X8_X8_tell in_X8 co_X8_tell rfl rfl (fun x5 => ?_)
    refine rz_goto 28 dX8_heirs_20 rfl ?_
    exact rz_ireturn rfl rfl dX8_heirs_28
theorem tX8_heirs (v : mE) (d : Nat) (l0 : Nat) (l1 : Int32) : Mt v yX8_heirs cX8_heirs 2 (some .int) emI (d + 2) [vR l0, vI l1] (fX8_heirs l0 l1) := mt_of rfl rfl (fun h => by cases h) rfl rfl (rX8_heirs v d l0 l1)
theorem dX8_isRope_0 : decode cX8_isRope 0 = .ok (.iload_n 1, 1) := by decide +kernel
theorem dX8_isRope_1 : decode cX8_isRope 1 = .ok (.ifCond .lt 28, 3) := by decide +kernel
theorem dX8_isRope_4 : decode cX8_isRope 4 = .ok (.iload_n 1, 1) := by decide +kernel
theorem dX8_isRope_5 : decode cX8_isRope 5 = .ok (.bipush 12, 2) := by decide +kernel
theorem dX8_isRope_7 : decode cX8_isRope 7 = .ok (.if_icmp .ge 22, 3) := by decide +kernel
theorem dX8_isRope_10 : decode cX8_isRope 10 = .ok (.aload_n 0, 1) := by decide +kernel
theorem dX8_isRope_11 : decode cX8_isRope 11 = .ok (.getfield 26, 3) := by decide +kernel
theorem dX8_isRope_14 : decode cX8_isRope 14 = .ok (.getfield 235, 3) := by decide +kernel
theorem dX8_isRope_17 : decode cX8_isRope 17 = .ok (.iload_n 1, 1) := by decide +kernel
theorem dX8_isRope_18 : decode cX8_isRope 18 = .ok (.aaload, 1) := by decide +kernel
theorem dX8_isRope_19 : decode cX8_isRope 19 = .ok (.invokevirtual 336, 3) := by decide +kernel
theorem dX8_isRope_22 : decode cX8_isRope 22 = .ok (.ifCond .eq 7, 3) := by decide +kernel
theorem dX8_isRope_25 : decode cX8_isRope 25 = .ok (.iconst 1, 1) := by decide +kernel
theorem dX8_isRope_26 : decode cX8_isRope 26 = .ok (.goto 4, 3) := by decide +kernel
theorem dX8_isRope_29 : decode cX8_isRope 29 = .ok (.iconst 0, 1) := by decide +kernel
theorem dX8_isRope_30 : decode cX8_isRope 30 = .ok (.ireturn, 1) := by decide +kernel
def fX8_isRope (l0 : Nat) (l1 : Int32) : mM Int32 := bIf (l1 < 0) (bRetZ (0 : Int32)) (bIf ((12 : Int32) ≤ l1) (bRetZ (0 : Int32)) (bGR 8 l0 3 (fun x1 => bGR 7 x1 10 (fun x2 => bAR 14 x2 l1 (fun x3 => bCallV 3 x3 (fX3_isThere x3) (fun x4 => bIf (x4 = 0) (bRetZ (0 : Int32)) (bRetZ (1 : Int32))))))))
set_option maxRecDepth 20000 in
theorem rX8_isRope (v : mE) (d : Nat) (l0 : Nat) (l1 : Int32) : Rz v RX8 cX8_isRope 2 (some .boolean) false emI (d + 1) 0 [(0, vR l0), (1, vI l1)] [] (fX8_isRope l0 l1) := by
  unfold fX8_isRope
  refine rz_iload_n 1 1 dX8_isRope_0 rfl rfl ?_
  refine rz_if_lt 29 4 dX8_isRope_1 rfl rfl ?_ ?_
  · refine rz_iconst 30 dX8_isRope_29 rfl ci_0 ?_
    exact rz_zreturn rfl rfl dX8_isRope_30
  · refine rz_iload_n 5 1 dX8_isRope_4 rfl rfl ?_
    refine rz_bipush 7 dX8_isRope_5 rfl cb_12 ?_
    refine rz_icmp_ge 29 10 dX8_isRope_7 rfl rfl ?_ ?_
    · refine rz_iconst 30 dX8_isRope_29 rfl ci_0 ?_
      exact rz_zreturn rfl rfl dX8_isRope_30
    · refine rz_aload_n 11 0 dX8_isRope_10 rfl rfl ?_
      refine rz_gR 14 dX8_isRope_11 rfl rfl fl_X8_26 (fun x1 => ?_)
      refine rz_gR 17 dX8_isRope_14 rfl rfl fl_X8_235 (fun x2 => ?_)
      refine rz_iload_n 18 1 dX8_isRope_17 rfl rfl ?_
      refine rz_aald 19 dX8_isRope_18 rfl (by decide) (fun x3 => ?_)
      refine rz_callV 22 dX8_isRope_19 rfl (tX3_isThere v (d + 0) x3) rfl rfl rfl rfl ml_X8_336 im_X3_isThere se_X3_X3_isThere in_X3 co_X3_isThere rfl rfl (fun x4 => ?_)
      refine rz_if_eq 29 25 dX8_isRope_22 rfl rfl ?_ ?_
      · refine rz_iconst 30 dX8_isRope_29 rfl ci_0 ?_
        exact rz_zreturn rfl rfl dX8_isRope_30
      · refine rz_iconst 26 dX8_isRope_25 rfl ci_1 ?_
        refine rz_goto 30 dX8_isRope_26 rfl ?_
        exact rz_zreturn rfl rfl dX8_isRope_30
theorem tX8_isRope (v : mE) (d : Nat) (l0 : Nat) (l1 : Int32) : Mt v yX8_isRope cX8_isRope 2 (some .boolean) emI (d + 1) [vR l0, vI l1] (fX8_isRope l0 l1) := mt_of rfl rfl (fun h => by cases h) rfl rfl (rX8_isRope v d l0 l1)
theorem dX8_rope_0 : decode cX8_rope 0 = .ok (.aload_n 0, 1) := by decide +kernel
theorem dX8_rope_1 : decode cX8_rope 1 = .ok (.iload_n 1, 1) := by decide +kernel
theorem dX8_rope_2 : decode cX8_rope 2 = .ok (.invokevirtual 232, 3) := by decide +kernel
theorem dX8_rope_5 : decode cX8_rope 5 = .ok (.ifCond .ne 9, 3) := by decide +kernel
theorem dX8_rope_8 : decode cX8_rope 8 = .ok (.aload_n 0, 1) := by decide +kernel
theorem dX8_rope_9 : decode cX8_rope 9 = .ok (.iconst 2, 1) := by decide +kernel
theorem dX8_rope_10 : decode cX8_rope 10 = .ok (.invokevirtual 114, 3) := by decide +kernel
theorem dX8_rope_13 : decode cX8_rope 13 = .ok (.ireturn, 1) := by decide +kernel
theorem dX8_rope_14 : decode cX8_rope 14 = .ok (.aload_n 0, 1) := by decide +kernel
theorem dX8_rope_15 : decode cX8_rope 15 = .ok (.getfield 26, 3) := by decide +kernel
theorem dX8_rope_18 : decode cX8_rope 18 = .ok (.getfield 235, 3) := by decide +kernel
theorem dX8_rope_21 : decode cX8_rope 21 = .ok (.iload_n 1, 1) := by decide +kernel
theorem dX8_rope_22 : decode cX8_rope 22 = .ok (.aaload, 1) := by decide +kernel
theorem dX8_rope_23 : decode cX8_rope 23 = .ok (.astore_n 3, 1) := by decide +kernel
theorem dX8_rope_24 : decode cX8_rope 24 = .ok (.iload_n 2, 1) := by decide +kernel
theorem dX8_rope_25 : decode cX8_rope 25 = .ok (.tableswitch 148 0 7 #[47, 56, 78, 87, 96, 105, 122, 139], 47) := by decide +kernel
theorem dX8_rope_72 : decode cX8_rope 72 = .ok (.aload_n 0, 1) := by decide +kernel
theorem dX8_rope_73 : decode cX8_rope 73 = .ok (.aload_n 3, 1) := by decide +kernel
theorem dX8_rope_74 : decode cX8_rope 74 = .ok (.getfield 239, 3) := by decide +kernel
theorem dX8_rope_77 : decode cX8_rope 77 = .ok (.invokevirtual 166, 3) := by decide +kernel
theorem dX8_rope_80 : decode cX8_rope 80 = .ok (.ireturn, 1) := by decide +kernel
theorem dX8_rope_81 : decode cX8_rope 81 = .ok (.aload_n 0, 1) := by decide +kernel
theorem dX8_rope_82 : decode cX8_rope 82 = .ok (.aload_n 3, 1) := by decide +kernel
theorem dX8_rope_83 : decode cX8_rope 83 = .ok (.getfield 244, 3) := by decide +kernel
theorem dX8_rope_86 : decode cX8_rope 86 = .ok (.iconst (-1), 1) := by decide +kernel
theorem dX8_rope_87 : decode cX8_rope 87 = .ok (.if_icmp .eq 7, 3) := by decide +kernel
theorem dX8_rope_90 : decode cX8_rope 90 = .ok (.iconst 1, 1) := by decide +kernel
theorem dX8_rope_91 : decode cX8_rope 91 = .ok (.goto 4, 3) := by decide +kernel
theorem dX8_rope_94 : decode cX8_rope 94 = .ok (.iconst 0, 1) := by decide +kernel
theorem dX8_rope_95 : decode cX8_rope 95 = .ok (.aload_n 3, 1) := by decide +kernel
theorem dX8_rope_96 : decode cX8_rope 96 = .ok (.getfield 244, 3) := by decide +kernel
theorem dX8_rope_99 : decode cX8_rope 99 = .ok (.invokevirtual 213, 3) := by decide +kernel
theorem dX8_rope_102 : decode cX8_rope 102 = .ok (.ireturn, 1) := by decide +kernel
theorem dX8_rope_103 : decode cX8_rope 103 = .ok (.aload_n 0, 1) := by decide +kernel
theorem dX8_rope_104 : decode cX8_rope 104 = .ok (.aload_n 3, 1) := by decide +kernel
theorem dX8_rope_105 : decode cX8_rope 105 = .ok (.getfield 247, 3) := by decide +kernel
theorem dX8_rope_108 : decode cX8_rope 108 = .ok (.invokevirtual 166, 3) := by decide +kernel
theorem dX8_rope_111 : decode cX8_rope 111 = .ok (.ireturn, 1) := by decide +kernel
theorem dX8_rope_112 : decode cX8_rope 112 = .ok (.aload_n 0, 1) := by decide +kernel
theorem dX8_rope_113 : decode cX8_rope 113 = .ok (.aload_n 3, 1) := by decide +kernel
theorem dX8_rope_114 : decode cX8_rope 114 = .ok (.getfield 250, 3) := by decide +kernel
theorem dX8_rope_117 : decode cX8_rope 117 = .ok (.invokevirtual 166, 3) := by decide +kernel
theorem dX8_rope_120 : decode cX8_rope 120 = .ok (.ireturn, 1) := by decide +kernel
theorem dX8_rope_121 : decode cX8_rope 121 = .ok (.aload_n 0, 1) := by decide +kernel
theorem dX8_rope_122 : decode cX8_rope 122 = .ok (.aload_n 3, 1) := by decide +kernel
theorem dX8_rope_123 : decode cX8_rope 123 = .ok (.invokevirtual 251, 3) := by decide +kernel
theorem dX8_rope_126 : decode cX8_rope 126 = .ok (.invokevirtual 166, 3) := by decide +kernel
theorem dX8_rope_129 : decode cX8_rope 129 = .ok (.ireturn, 1) := by decide +kernel
theorem dX8_rope_130 : decode cX8_rope 130 = .ok (.aload_n 0, 1) := by decide +kernel
theorem dX8_rope_131 : decode cX8_rope 131 = .ok (.aload_n 3, 1) := by decide +kernel
theorem dX8_rope_132 : decode cX8_rope 132 = .ok (.invokevirtual 254, 3) := by decide +kernel
theorem dX8_rope_135 : decode cX8_rope 135 = .ok (.aload_n 0, 1) := by decide +kernel
theorem dX8_rope_136 : decode cX8_rope 136 = .ok (.getfield 26, 3) := by decide +kernel
theorem dX8_rope_139 : decode cX8_rope 139 = .ok (.getfield 195, 3) := by decide +kernel
theorem dX8_rope_142 : decode cX8_rope 142 = .ok (.iadd, 1) := by decide +kernel
theorem dX8_rope_143 : decode cX8_rope 143 = .ok (.invokevirtual 166, 3) := by decide +kernel
theorem dX8_rope_146 : decode cX8_rope 146 = .ok (.ireturn, 1) := by decide +kernel
theorem dX8_rope_147 : decode cX8_rope 147 = .ok (.aload_n 0, 1) := by decide +kernel
theorem dX8_rope_148 : decode cX8_rope 148 = .ok (.aload_n 3, 1) := by decide +kernel
theorem dX8_rope_149 : decode cX8_rope 149 = .ok (.getfield 257, 3) := by decide +kernel
theorem dX8_rope_152 : decode cX8_rope 152 = .ok (.ifCond .eq 7, 3) := by decide +kernel
theorem dX8_rope_155 : decode cX8_rope 155 = .ok (.iconst 1, 1) := by decide +kernel
theorem dX8_rope_156 : decode cX8_rope 156 = .ok (.goto 4, 3) := by decide +kernel
theorem dX8_rope_159 : decode cX8_rope 159 = .ok (.iconst 0, 1) := by decide +kernel
theorem dX8_rope_160 : decode cX8_rope 160 = .ok (.invokevirtual 166, 3) := by decide +kernel
theorem dX8_rope_163 : decode cX8_rope 163 = .ok (.ireturn, 1) := by decide +kernel
theorem dX8_rope_164 : decode cX8_rope 164 = .ok (.aload_n 0, 1) := by decide +kernel
theorem dX8_rope_165 : decode cX8_rope 165 = .ok (.aload_n 3, 1) := by decide +kernel
theorem dX8_rope_166 : decode cX8_rope 166 = .ok (.getfield 261, 3) := by decide +kernel
theorem dX8_rope_169 : decode cX8_rope 169 = .ok (.invokevirtual 166, 3) := by decide +kernel
theorem dX8_rope_172 : decode cX8_rope 172 = .ok (.ireturn, 1) := by decide +kernel
theorem dX8_rope_173 : decode cX8_rope 173 = .ok (.aload_n 0, 1) := by decide +kernel
theorem dX8_rope_174 : decode cX8_rope 174 = .ok (.iconst 5, 1) := by decide +kernel
theorem dX8_rope_175 : decode cX8_rope 175 = .ok (.invokevirtual 114, 3) := by decide +kernel
theorem dX8_rope_178 : decode cX8_rope 178 = .ok (.ireturn, 1) := by decide +kernel
def fX8_rope_160 (s0 : Int32) (s1 : Nat) : mM Int32 := bCallV 8 s1 (fX8_tell s1 s0) (fun x1 => bRet x1)
set_option maxRecDepth 20000 in
theorem rX8_rope_160 (v : mE) (d : Nat) (s0 : Int32) (s1 : Nat) : Rz v RX8 cX8_rope 4 (some .int) false emI (d + 2) 160 [] [vI s0, vR s1] (fX8_rope_160 s0 s1) := by
  unfold fX8_rope_160
  refine rz_callV 163 dX8_rope_160 rfl (tX8_tell v (d + 1) s1 s0) rfl rfl rfl rfl ml_X8_166 im_X8_tell se_X8_X8_tell in_X8 co_X8_tell rfl rfl (fun x1 => ?_)
  exact rz_ireturn rfl rfl dX8_rope_163
def fX8_rope_95 (l3 : Nat) (s0 : Int32) (s1 : Nat) : mM Int32 := bGI 3 l3 1 (fun x1 => bCallV 8 s1 (fX8_tellIf s1 s0 x1) (fun x2 => bRet x2))
set_option maxRecDepth 20000 in
theorem rX8_rope_95 (v : mE) (d : Nat) (l3 : Nat) (s0 : Int32) (s1 : Nat) : Rz v RX8 cX8_rope 4 (some .int) false emI (d + 2) 95 [(3, vR l3)] [vI s0, vR s1] (fX8_rope_95 l3 s0 s1) := by
  unfold fX8_rope_95
  refine rz_aload_n 96 0 dX8_rope_95 rfl rfl ?_
  refine rz_gI 99 dX8_rope_96 rfl rfl fl_X8_244 (fun x1 => ?_)
  refine rz_callV 102 dX8_rope_99 rfl (tX8_tellIf v (d + 0) s1 s0 x1) rfl rfl rfl rfl ml_X8_213 im_X8_tellIf se_X8_X8_tellIf in_X8 co_X8_tellIf rfl rfl (fun x2 => ?_)
  exact rz_ireturn rfl rfl dX8_rope_102
def fX8_rope (l0 : Nat) (l1 : Int32) (l2 : Int32) : mM Int32 := bCallV 8 l0 (fX8_isRope l0 l1) (fun x1 => bIf (x1 = 0) (bCallV 8 l0 (fX8_none l0 (2 : Int32)) (fun x22 => bRet x22)) (bGR 8 l0 3 (fun x2 => bGR 7 x2 10 (fun x3 => bAR 14 x3 l1 (fun x4 => bSw l2 0 [(72, bGI 3 x4 0 (fun x6 => bCallV 8 l0 (fX8_tell l0 x6) (fun x7 => bRet x7))), (81, bGI 3 x4 1 (fun x8 => bIf (x8 = (-1 : Int32)) (fX8_rope_95 x4 (0 : Int32) l0) (fX8_rope_95 x4 (1 : Int32) l0))), (103, bGI 3 x4 2 (fun x9 => bCallV 8 l0 (fX8_tell l0 x9) (fun x10 => bRet x10))), (112, bGI 3 x4 3 (fun x11 => bCallV 8 l0 (fX8_tell l0 x11) (fun x12 => bRet x12))), (121, bCallV 3 x4 (fX3_reach x4) (fun x13 => bCallV 8 l0 (fX8_tell l0 x13) (fun x14 => bRet x14))), (130, bCallV 3 x4 (fX3_oldest x4) (fun x15 => bGR 8 l0 3 (fun x16 => bGI 7 x16 0 (fun x17 => bCallV 8 l0 (fX8_tell l0 (x15 + x17)) (fun x18 => bRet x18))))), (147, bGI 3 x4 4 (fun x19 => bIf (x19 = 0) (fX8_rope_160 (0 : Int32) l0) (fX8_rope_160 (1 : Int32) l0))), (164, bGI 3 x4 5 (fun x20 => bCallV 8 l0 (fX8_tell l0 x20) (fun x21 => bRet x21)))] (bCallV 8 l0 (fX8_none l0 (5 : Int32)) (fun x5 => bRet x5)))))))
set_option maxRecDepth 20000 in
theorem rX8_rope (v : mE) (d : Nat) (l0 : Nat) (l1 : Int32) (l2 : Int32) : Rz v RX8 cX8_rope 4 (some .int) false emI (d + 2) 0 [(0, vR l0), (1, vI l1), (2, vI l2)] [] (fX8_rope l0 l1 l2) := by
  unfold fX8_rope
  refine rz_aload_n 1 0 dX8_rope_0 rfl rfl ?_
  refine rz_iload_n 2 1 dX8_rope_1 rfl rfl ?_
  refine rz_callV 5 dX8_rope_2 rfl (tX8_isRope v (d + 0) l0 l1) rfl rfl rfl rfl ml_X8_232 im_X8_isRope se_X8_X8_isRope in_X8 co_X8_isRope rfl rfl (fun x1 => ?_)
  refine rz_if_ne 14 8 dX8_rope_5 rfl rfl ?_ ?_
  · refine rz_aload_n 15 0 dX8_rope_14 rfl rfl ?_
    refine rz_gR 18 dX8_rope_15 rfl rfl fl_X8_26 (fun x2 => ?_)
    refine rz_gR 21 dX8_rope_18 rfl rfl fl_X8_235 (fun x3 => ?_)
    refine rz_iload_n 22 1 dX8_rope_21 rfl rfl ?_
    refine rz_aald 23 dX8_rope_22 rfl (by decide) (fun x4 => ?_)
    refine rz_astore_n (lv' := [(3, vR x4), (0, vR l0), (1, vI l1), (2, vI l2)]) 24 dX8_rope_23 rfl rfl rfl ?_
    refine rz_iload_n 25 3 dX8_rope_24 rfl rfl ?_
    refine rz_table 173 dX8_rope_25 rfl rfl rfl rfl ?_ ?_
    · refine rz_aload_n 174 1 dX8_rope_173 rfl rfl ?_
      refine rz_iconst 175 dX8_rope_174 rfl ci_5 ?_
      refine rz_callV 178 dX8_rope_175 rfl (tX8_none v (d + 1) l0 (5 : Int32)) rfl rfl rfl rfl ml_X8_114 im_X8_none se_X8_X8_none in_X8 co_X8_none rfl rfl (fun x5 => ?_)
      exact rz_ireturn rfl rfl dX8_rope_178
    · refine List.forall_mem_cons.mpr ⟨?_, List.forall_mem_cons.mpr ⟨?_, List.forall_mem_cons.mpr ⟨?_, List.forall_mem_cons.mpr ⟨?_, List.forall_mem_cons.mpr ⟨?_, List.forall_mem_cons.mpr ⟨?_, List.forall_mem_cons.mpr ⟨?_, List.forall_mem_cons.mpr ⟨?_, fun _ h => absurd h List.not_mem_nil⟩⟩⟩⟩⟩⟩⟩⟩
      · refine rz_pr ?_
        refine rz_aload_n 73 1 dX8_rope_72 rfl rfl ?_
        refine rz_aload_n 74 0 dX8_rope_73 rfl rfl ?_
        refine rz_gI 77 dX8_rope_74 rfl rfl fl_X8_239 (fun x6 => ?_)
        refine rz_callV 80 dX8_rope_77 rfl (tX8_tell v (d + 1) l0 x6) rfl rfl rfl rfl ml_X8_166 im_X8_tell se_X8_X8_tell in_X8 co_X8_tell rfl rfl (fun x7 => ?_)
        exact rz_ireturn rfl rfl dX8_rope_80
      · refine rz_pr ?_
        refine rz_aload_n 82 1 dX8_rope_81 rfl rfl ?_
        refine rz_aload_n 83 0 dX8_rope_82 rfl rfl ?_
        refine rz_gI 86 dX8_rope_83 rfl rfl fl_X8_244 (fun x8 => ?_)
        refine rz_iconst 87 dX8_rope_86 rfl ci_m1 ?_
        refine rz_icmp_eq 94 90 dX8_rope_87 rfl rfl ?_ ?_
        · refine rz_iconst 95 dX8_rope_94 rfl ci_0 ?_
          exact rz_sub [0] rfl (rX8_rope_95 v d x4 (0 : Int32) l0)
        · refine rz_iconst 91 dX8_rope_90 rfl ci_1 ?_
          refine rz_goto 95 dX8_rope_91 rfl ?_
          exact rz_sub [0] rfl (rX8_rope_95 v d x4 (1 : Int32) l0)
      · refine rz_pr ?_
        refine rz_aload_n 104 1 dX8_rope_103 rfl rfl ?_
        refine rz_aload_n 105 0 dX8_rope_104 rfl rfl ?_
        refine rz_gI 108 dX8_rope_105 rfl rfl fl_X8_247 (fun x9 => ?_)
        refine rz_callV 111 dX8_rope_108 rfl (tX8_tell v (d + 1) l0 x9) rfl rfl rfl rfl ml_X8_166 im_X8_tell se_X8_X8_tell in_X8 co_X8_tell rfl rfl (fun x10 => ?_)
        exact rz_ireturn rfl rfl dX8_rope_111
      · refine rz_pr ?_
        refine rz_aload_n 113 1 dX8_rope_112 rfl rfl ?_
        refine rz_aload_n 114 0 dX8_rope_113 rfl rfl ?_
        refine rz_gI 117 dX8_rope_114 rfl rfl fl_X8_250 (fun x11 => ?_)
        refine rz_callV 120 dX8_rope_117 rfl (tX8_tell v (d + 1) l0 x11) rfl rfl rfl rfl ml_X8_166 im_X8_tell se_X8_X8_tell in_X8 co_X8_tell rfl rfl (fun x12 => ?_)
        exact rz_ireturn rfl rfl dX8_rope_120
      · refine rz_pr ?_
        refine rz_aload_n 122 1 dX8_rope_121 rfl rfl ?_
        refine rz_aload_n 123 0 dX8_rope_122 rfl rfl ?_
        refine rz_callV 126 dX8_rope_123 rfl (tX3_reach v (d + 0) x4) rfl rfl rfl rfl ml_X8_251 im_X3_reach se_X3_X3_reach in_X3 co_X3_reach rfl rfl (fun x13 => ?_)
        refine rz_callV 129 dX8_rope_126 rfl (tX8_tell v (d + 1) l0 x13) rfl rfl rfl rfl ml_X8_166 im_X8_tell se_X8_X8_tell in_X8 co_X8_tell rfl rfl (fun x14 => ?_)
        exact rz_ireturn rfl rfl dX8_rope_129
      · refine rz_pr ?_
        refine rz_aload_n 131 1 dX8_rope_130 rfl rfl ?_
        refine rz_aload_n 132 0 dX8_rope_131 rfl rfl ?_
        refine rz_callV 135 dX8_rope_132 rfl (tX3_oldest v (d + 0) x4) rfl rfl rfl rfl ml_X8_254 im_X3_oldest se_X3_X3_oldest in_X3 co_X3_oldest rfl rfl (fun x15 => ?_)
        refine rz_aload_n 136 1 dX8_rope_135 rfl rfl ?_
        refine rz_gR 139 dX8_rope_136 rfl rfl fl_X8_26 (fun x16 => ?_)
        refine rz_gI 142 dX8_rope_139 rfl rfl fl_X8_195 (fun x17 => ?_)
        refine rz_iadd 143 dX8_rope_142 rfl ?_
        refine rz_callV 146 dX8_rope_143 rfl (tX8_tell v (d + 1) l0 (x15 + x17)) rfl rfl rfl rfl ml_X8_166 im_X8_tell se_X8_X8_tell in_X8 co_X8_tell rfl rfl (fun x18 => ?_)
        exact rz_ireturn rfl rfl dX8_rope_146
      · refine rz_pr ?_
        refine rz_aload_n 148 1 dX8_rope_147 rfl rfl ?_
        refine rz_aload_n 149 0 dX8_rope_148 rfl rfl ?_
        refine rz_gI 152 dX8_rope_149 rfl rfl fl_X8_257 (fun x19 => ?_)
        refine rz_if_eq 159 155 dX8_rope_152 rfl rfl ?_ ?_
        · refine rz_iconst 160 dX8_rope_159 rfl ci_0 ?_
          exact rz_sub [] rfl (rX8_rope_160 v d (0 : Int32) l0)
        · refine rz_iconst 156 dX8_rope_155 rfl ci_1 ?_
          refine rz_goto 160 dX8_rope_156 rfl ?_
          exact rz_sub [] rfl (rX8_rope_160 v d (1 : Int32) l0)
      · refine rz_pr ?_
        refine rz_aload_n 165 1 dX8_rope_164 rfl rfl ?_
        refine rz_aload_n 166 0 dX8_rope_165 rfl rfl ?_
        refine rz_gI 169 dX8_rope_166 rfl rfl fl_X8_261 (fun x20 => ?_)
        refine rz_callV 172 dX8_rope_169 rfl (tX8_tell v (d + 1) l0 x20) rfl rfl rfl rfl ml_X8_166 im_X8_tell se_X8_X8_tell in_X8 co_X8_tell rfl rfl (fun x21 => ?_)
        exact rz_ireturn rfl rfl dX8_rope_172
  · refine rz_aload_n 9 0 dX8_rope_8 rfl rfl ?_
    refine rz_iconst 10 dX8_rope_9 rfl ci_2 ?_
    refine rz_callV 13 dX8_rope_10 rfl (tX8_none v (d + 1) l0 (2 : Int32)) rfl rfl rfl rfl ml_X8_114 im_X8_none se_X8_X8_none in_X8 co_X8_none rfl rfl (fun x22 => ?_)
    exact rz_ireturn rfl rfl dX8_rope_13
theorem tX8_rope (v : mE) (d : Nat) (l0 : Nat) (l1 : Int32) (l2 : Int32) : Mt v yX8_rope cX8_rope 4 (some .int) emI (d + 2) [vR l0, vI l1, vI l2] (fX8_rope l0 l1 l2) := mt_of rfl rfl (fun h => by cases h) rfl rfl (rX8_rope v d l0 l1 l2)
theorem dX8_piece_0 : decode cX8_piece 0 = .ok (.aload_n 0, 1) := by decide +kernel
theorem dX8_piece_1 : decode cX8_piece 1 = .ok (.iload_n 1, 1) := by decide +kernel
theorem dX8_piece_2 : decode cX8_piece 2 = .ok (.invokevirtual 232, 3) := by decide +kernel
theorem dX8_piece_5 : decode cX8_piece 5 = .ok (.ifCond .ne 9, 3) := by decide +kernel
theorem dX8_piece_8 : decode cX8_piece 8 = .ok (.aload_n 0, 1) := by decide +kernel
theorem dX8_piece_9 : decode cX8_piece 9 = .ok (.iconst 2, 1) := by decide +kernel
theorem dX8_piece_10 : decode cX8_piece 10 = .ok (.invokevirtual 114, 3) := by decide +kernel
theorem dX8_piece_13 : decode cX8_piece 13 = .ok (.ireturn, 1) := by decide +kernel
theorem dX8_piece_14 : decode cX8_piece 14 = .ok (.aload_n 0, 1) := by decide +kernel
theorem dX8_piece_15 : decode cX8_piece 15 = .ok (.getfield 26, 3) := by decide +kernel
theorem dX8_piece_18 : decode cX8_piece 18 = .ok (.getfield 235, 3) := by decide +kernel
theorem dX8_piece_21 : decode cX8_piece 21 = .ok (.iload_n 1, 1) := by decide +kernel
theorem dX8_piece_22 : decode cX8_piece 22 = .ok (.aaload, 1) := by decide +kernel
theorem dX8_piece_23 : decode cX8_piece 23 = .ok (.astore 4, 2) := by decide +kernel
theorem dX8_piece_25 : decode cX8_piece 25 = .ok (.iload_n 2, 1) := by decide +kernel
theorem dX8_piece_26 : decode cX8_piece 26 = .ok (.ifCond .lt 21, 3) := by decide +kernel
theorem dX8_piece_29 : decode cX8_piece 29 = .ok (.iload_n 2, 1) := by decide +kernel
theorem dX8_piece_30 : decode cX8_piece 30 = .ok (.aload 4, 2) := by decide +kernel
theorem dX8_piece_32 : decode cX8_piece 32 = .ok (.getfield 247, 3) := by decide +kernel
theorem dX8_piece_35 : decode cX8_piece 35 = .ok (.if_icmp .ge 12, 3) := by decide +kernel
theorem dX8_piece_38 : decode cX8_piece 38 = .ok (.iload_n 3, 1) := by decide +kernel
theorem dX8_piece_39 : decode cX8_piece 39 = .ok (.ifCond .lt 8, 3) := by decide +kernel
theorem dX8_piece_42 : decode cX8_piece 42 = .ok (.iload_n 3, 1) := by decide +kernel
theorem dX8_piece_43 : decode cX8_piece 43 = .ok (.iconst 1, 1) := by decide +kernel
theorem dX8_piece_44 : decode cX8_piece 44 = .ok (.if_icmp .le 9, 3) := by decide +kernel
theorem dX8_piece_47 : decode cX8_piece 47 = .ok (.aload_n 0, 1) := by decide +kernel
theorem dX8_piece_48 : decode cX8_piece 48 = .ok (.iconst 5, 1) := by decide +kernel
theorem dX8_piece_49 : decode cX8_piece 49 = .ok (.invokevirtual 114, 3) := by decide +kernel
theorem dX8_piece_52 : decode cX8_piece 52 = .ok (.ireturn, 1) := by decide +kernel
theorem dX8_piece_53 : decode cX8_piece 53 = .ok (.aload_n 0, 1) := by decide +kernel
theorem dX8_piece_54 : decode cX8_piece 54 = .ok (.iload_n 3, 1) := by decide +kernel
theorem dX8_piece_55 : decode cX8_piece 55 = .ok (.ifCond .ne 13, 3) := by decide +kernel
theorem dX8_piece_58 : decode cX8_piece 58 = .ok (.aload 4, 2) := by decide +kernel
theorem dX8_piece_60 : decode cX8_piece 60 = .ok (.getfield 264, 3) := by decide +kernel
theorem dX8_piece_63 : decode cX8_piece 63 = .ok (.iload_n 2, 1) := by decide +kernel
theorem dX8_piece_64 : decode cX8_piece 64 = .ok (.iaload, 1) := by decide +kernel
theorem dX8_piece_65 : decode cX8_piece 65 = .ok (.goto 18, 3) := by decide +kernel
theorem dX8_piece_68 : decode cX8_piece 68 = .ok (.aload 4, 2) := by decide +kernel
theorem dX8_piece_70 : decode cX8_piece 70 = .ok (.getfield 267, 3) := by decide +kernel
theorem dX8_piece_73 : decode cX8_piece 73 = .ok (.iload_n 2, 1) := by decide +kernel
theorem dX8_piece_74 : decode cX8_piece 74 = .ok (.iaload, 1) := by decide +kernel
theorem dX8_piece_75 : decode cX8_piece 75 = .ok (.aload_n 0, 1) := by decide +kernel
theorem dX8_piece_76 : decode cX8_piece 76 = .ok (.getfield 26, 3) := by decide +kernel
theorem dX8_piece_79 : decode cX8_piece 79 = .ok (.getfield 195, 3) := by decide +kernel
theorem dX8_piece_82 : decode cX8_piece 82 = .ok (.iadd, 1) := by decide +kernel
theorem dX8_piece_83 : decode cX8_piece 83 = .ok (.invokevirtual 166, 3) := by decide +kernel
theorem dX8_piece_86 : decode cX8_piece 86 = .ok (.ireturn, 1) := by decide +kernel
def fX8_piece_83 (s0 : Int32) (s1 : Nat) : mM Int32 := bCallV 8 s1 (fX8_tell s1 s0) (fun x1 => bRet x1)
set_option maxRecDepth 20000 in
theorem rX8_piece_83 (v : mE) (d : Nat) (s0 : Int32) (s1 : Nat) : Rz v RX8 cX8_piece 5 (some .int) false emI (d + 2) 83 [] [vI s0, vR s1] (fX8_piece_83 s0 s1) := by
  unfold fX8_piece_83
  refine rz_callV 86 dX8_piece_83 rfl (tX8_tell v (d + 1) s1 s0) rfl rfl rfl rfl ml_X8_166 im_X8_tell se_X8_X8_tell in_X8 co_X8_tell rfl rfl (fun x1 => ?_)
  exact rz_ireturn rfl rfl dX8_piece_86
def fX8_piece_47 (l0 : Nat) : mM Int32 := bCallV 8 l0 (fX8_none l0 (5 : Int32)) (fun x1 => bRet x1)
set_option maxRecDepth 20000 in
theorem rX8_piece_47 (v : mE) (d : Nat) (l0 : Nat) : Rz v RX8 cX8_piece 5 (some .int) false emI (d + 2) 47 [(0, vR l0)] [] (fX8_piece_47 l0) := by
  unfold fX8_piece_47
  refine rz_aload_n 48 0 dX8_piece_47 rfl rfl ?_
  refine rz_iconst 49 dX8_piece_48 rfl ci_5 ?_
  refine rz_callV 52 dX8_piece_49 rfl (tX8_none v (d + 1) l0 (5 : Int32)) rfl rfl rfl rfl ml_X8_114 im_X8_none se_X8_X8_none in_X8 co_X8_none rfl rfl (fun x1 => ?_)
  exact rz_ireturn rfl rfl dX8_piece_52
def fX8_piece (l0 : Nat) (l1 : Int32) (l2 : Int32) (l3 : Int32) : mM Int32 := bCallV 8 l0 (fX8_isRope l0 l1) (fun x1 => bIf (x1 = 0) (bCallV 8 l0 (fX8_none l0 (2 : Int32)) (fun x12 => bRet x12)) (bGR 8 l0 3 (fun x2 => bGR 7 x2 10 (fun x3 => bAR 14 x3 l1 (fun x4 => bIf (l2 < 0) (fX8_piece_47 l0) (bGI 3 x4 2 (fun x5 => bIf (x5 ≤ l2) (fX8_piece_47 l0) (bIf (l3 < 0) (fX8_piece_47 l0) (bIf (l3 ≤ (1 : Int32)) (bIf (l3 = 0) (bGR 3 x4 6 (fun x10 => bAI 11 x10 l2 (fun x11 => fX8_piece_83 x11 l0))) (bGR 3 x4 7 (fun x6 => bAI 11 x6 l2 (fun x7 => bGR 8 l0 3 (fun x8 => bGI 7 x8 0 (fun x9 => fX8_piece_83 (x7 + x9) l0)))))) (fX8_piece_47 l0))))))))))
set_option maxRecDepth 20000 in
theorem rX8_piece (v : mE) (d : Nat) (l0 : Nat) (l1 : Int32) (l2 : Int32) (l3 : Int32) : Rz v RX8 cX8_piece 5 (some .int) false emI (d + 2) 0 [(0, vR l0), (1, vI l1), (2, vI l2), (3, vI l3)] [] (fX8_piece l0 l1 l2 l3) := by
  unfold fX8_piece
  refine rz_aload_n 1 0 dX8_piece_0 rfl rfl ?_
  refine rz_iload_n 2 1 dX8_piece_1 rfl rfl ?_
  refine rz_callV 5 dX8_piece_2 rfl (tX8_isRope v (d + 0) l0 l1) rfl rfl rfl rfl ml_X8_232 im_X8_isRope se_X8_X8_isRope in_X8 co_X8_isRope rfl rfl (fun x1 => ?_)
  refine rz_if_ne 14 8 dX8_piece_5 rfl rfl ?_ ?_
  · refine rz_aload_n 15 0 dX8_piece_14 rfl rfl ?_
    refine rz_gR 18 dX8_piece_15 rfl rfl fl_X8_26 (fun x2 => ?_)
    refine rz_gR 21 dX8_piece_18 rfl rfl fl_X8_235 (fun x3 => ?_)
    refine rz_iload_n 22 1 dX8_piece_21 rfl rfl ?_
    refine rz_aald 23 dX8_piece_22 rfl (by decide) (fun x4 => ?_)
    refine rz_astore (lv' := [(4, vR x4), (0, vR l0), (1, vI l1), (2, vI l2), (3, vI l3)]) 25 dX8_piece_23 rfl rfl rfl ?_
    refine rz_iload_n 26 3 dX8_piece_25 rfl rfl ?_
    refine rz_if_lt 47 29 dX8_piece_26 rfl rfl ?_ ?_
    · exact rz_sub [1] rfl (rX8_piece_47 v d l0)
    · refine rz_iload_n 30 3 dX8_piece_29 rfl rfl ?_
      refine rz_aload 32 0 dX8_piece_30 rfl rfl ?_
      refine rz_gI 35 dX8_piece_32 rfl rfl fl_X8_247 (fun x5 => ?_)
      refine rz_icmp_ge 47 38 dX8_piece_35 rfl rfl ?_ ?_
      · exact rz_sub [1] rfl (rX8_piece_47 v d l0)
      · refine rz_iload_n 39 4 dX8_piece_38 rfl rfl ?_
        refine rz_if_lt 47 42 dX8_piece_39 rfl rfl ?_ ?_
        · exact rz_sub [1] rfl (rX8_piece_47 v d l0)
        · refine rz_iload_n 43 4 dX8_piece_42 rfl rfl ?_
          refine rz_iconst 44 dX8_piece_43 rfl ci_1 ?_
          refine rz_icmp_le 53 47 dX8_piece_44 rfl rfl ?_ ?_
          · refine rz_aload_n 54 1 dX8_piece_53 rfl rfl ?_
            refine rz_iload_n 55 4 dX8_piece_54 rfl rfl ?_
            refine rz_if_ne 68 58 dX8_piece_55 rfl rfl ?_ ?_
            · refine rz_aload 70 0 dX8_piece_68 rfl rfl ?_
              refine rz_gR 73 dX8_piece_70 rfl rfl fl_X8_267 (fun x6 => ?_)
              refine rz_iload_n 74 3 dX8_piece_73 rfl rfl ?_
              refine rz_iald 75 dX8_piece_74 rfl (fun x7 => ?_)
              refine rz_aload_n 76 1 dX8_piece_75 rfl rfl ?_
              refine rz_gR 79 dX8_piece_76 rfl rfl fl_X8_26 (fun x8 => ?_)
              refine rz_gI 82 dX8_piece_79 rfl rfl fl_X8_195 (fun x9 => ?_)
              refine rz_iadd 83 dX8_piece_82 rfl ?_
              exact rz_sub [] rfl (rX8_piece_83 v d (x7 + x9) l0)
            · refine rz_aload 60 0 dX8_piece_58 rfl rfl ?_
              refine rz_gR 63 dX8_piece_60 rfl rfl fl_X8_264 (fun x10 => ?_)
              refine rz_iload_n 64 3 dX8_piece_63 rfl rfl ?_
              refine rz_iald 65 dX8_piece_64 rfl (fun x11 => ?_)
              refine rz_goto 83 dX8_piece_65 rfl ?_
              exact rz_sub [] rfl (rX8_piece_83 v d x11 l0)
          · exact rz_sub [1] rfl (rX8_piece_47 v d l0)
  · refine rz_aload_n 9 0 dX8_piece_8 rfl rfl ?_
    refine rz_iconst 10 dX8_piece_9 rfl ci_2 ?_
    refine rz_callV 13 dX8_piece_10 rfl (tX8_none v (d + 1) l0 (2 : Int32)) rfl rfl rfl rfl ml_X8_114 im_X8_none se_X8_X8_none in_X8 co_X8_none rfl rfl (fun x12 => ?_)
    exact rz_ireturn rfl rfl dX8_piece_13
theorem tX8_piece (v : mE) (d : Nat) (l0 : Nat) (l1 : Int32) (l2 : Int32) (l3 : Int32) : Mt v yX8_piece cX8_piece 5 (some .int) emI (d + 2) [vR l0, vI l1, vI l2, vI l3] (fX8_piece l0 l1 l2 l3) := mt_of rfl rfl (fun h => by cases h) rfl rfl (rX8_piece v d l0 l1 l2 l3)
theorem dX8_isSeed_0 : decode cX8_isSeed 0 = .ok (.iload_n 1, 1) := by decide +kernel
theorem dX8_isSeed_1 : decode cX8_isSeed 1 = .ok (.ifCond .lt 14, 3) := by decide +kernel
theorem dX8_isSeed_4 : decode cX8_isSeed 4 = .ok (.iload_n 1, 1) := by decide +kernel
theorem dX8_isSeed_5 : decode cX8_isSeed 5 = .ok (.sipush 9999, 3) := by decide +kernel
theorem dX8_isSeed_8 : decode cX8_isSeed 8 = .ok (.if_icmp .gt 7, 3) := by decide +kernel
theorem dX8_isSeed_11 : decode cX8_isSeed 11 = .ok (.iconst 1, 1) := by decide +kernel
theorem dX8_isSeed_12 : decode cX8_isSeed 12 = .ok (.goto 4, 3) := by decide +kernel
theorem dX8_isSeed_15 : decode cX8_isSeed 15 = .ok (.iconst 0, 1) := by decide +kernel
theorem dX8_isSeed_16 : decode cX8_isSeed 16 = .ok (.ireturn, 1) := by decide +kernel
def fX8_isSeed (l0 : Nat) (l1 : Int32) : mM Int32 := bIf (l1 < 0) (bRetZ (0 : Int32)) (bIf ((9999 : Int32) < l1) (bRetZ (0 : Int32)) (bRetZ (1 : Int32)))
set_option maxRecDepth 20000 in
theorem rX8_isSeed (v : mE) (d : Nat) (l0 : Nat) (l1 : Int32) : Rz v RX8 cX8_isSeed 2 (some .boolean) false emI (d + 0) 0 [(0, vR l0), (1, vI l1)] [] (fX8_isSeed l0 l1) := by
  unfold fX8_isSeed
  refine rz_iload_n 1 1 dX8_isSeed_0 rfl rfl ?_
  refine rz_if_lt 15 4 dX8_isSeed_1 rfl rfl ?_ ?_
  · refine rz_iconst 16 dX8_isSeed_15 rfl ci_0 ?_
    exact rz_zreturn rfl rfl dX8_isSeed_16
  · refine rz_iload_n 5 1 dX8_isSeed_4 rfl rfl ?_
    refine rz_sipush 8 dX8_isSeed_5 rfl cs_9999 ?_
    refine rz_icmp_gt 15 11 dX8_isSeed_8 rfl rfl ?_ ?_
    · refine rz_iconst 16 dX8_isSeed_15 rfl ci_0 ?_
      exact rz_zreturn rfl rfl dX8_isSeed_16
    · refine rz_iconst 12 dX8_isSeed_11 rfl ci_1 ?_
      refine rz_goto 16 dX8_isSeed_12 rfl ?_
      exact rz_zreturn rfl rfl dX8_isSeed_16
theorem tX8_isSeed (v : mE) (d : Nat) (l0 : Nat) (l1 : Int32) : Mt v yX8_isSeed cX8_isSeed 2 (some .boolean) emI (d + 0) [vR l0, vI l1] (fX8_isSeed l0 l1) := mt_of rfl rfl (fun h => by cases h) rfl rfl (rX8_isSeed v d l0 l1)
theorem dX8_seed_0 : decode cX8_seed 0 = .ok (.aload_n 0, 1) := by decide +kernel
theorem dX8_seed_1 : decode cX8_seed 1 = .ok (.iload_n 1, 1) := by decide +kernel
theorem dX8_seed_2 : decode cX8_seed 2 = .ok (.invokevirtual 270, 3) := by decide +kernel
theorem dX8_seed_5 : decode cX8_seed 5 = .ok (.ifCond .ne 9, 3) := by decide +kernel
theorem dX8_seed_8 : decode cX8_seed 8 = .ok (.aload_n 0, 1) := by decide +kernel
theorem dX8_seed_9 : decode cX8_seed 9 = .ok (.iconst 5, 1) := by decide +kernel
theorem dX8_seed_10 : decode cX8_seed 10 = .ok (.invokevirtual 95, 3) := by decide +kernel
theorem dX8_seed_13 : decode cX8_seed 13 = .ok (.ireturn, 1) := by decide +kernel
theorem dX8_seed_14 : decode cX8_seed 14 = .ok (.aload_n 0, 1) := by decide +kernel
theorem dX8_seed_15 : decode cX8_seed 15 = .ok (.getfield 26, 3) := by decide +kernel
theorem dX8_seed_18 : decode cX8_seed 18 = .ok (.iload_n 1, 1) := by decide +kernel
theorem dX8_seed_19 : decode cX8_seed 19 = .ok (.putfield 204, 3) := by decide +kernel
theorem dX8_seed_22 : decode cX8_seed 22 = .ok (.aload_n 0, 1) := by decide +kernel
theorem dX8_seed_23 : decode cX8_seed 23 = .ok (.invokevirtual 102, 3) := by decide +kernel
theorem dX8_seed_26 : decode cX8_seed 26 = .ok (.ireturn, 1) := by decide +kernel
def fX8_seed (l0 : Nat) (l1 : Int32) : mM Int32 := bCallV 8 l0 (fX8_isSeed l0 l1) (fun x1 => bIf (x1 = 0) (bCallV 8 l0 (fX8_refuse l0 (5 : Int32)) (fun x4 => bRetZ x4)) (bGR 8 l0 3 (fun x2 => bPI 7 x2 6 l1 (bCallV 8 l0 (fX8_accept l0) (fun x3 => bRetZ x3)))))
set_option maxRecDepth 20000 in
theorem rX8_seed (v : mE) (d : Nat) (l0 : Nat) (l1 : Int32) : Rz v RX8 cX8_seed 2 (some .boolean) false emI (d + 1) 0 [(0, vR l0), (1, vI l1)] [] (fX8_seed l0 l1) := by
  unfold fX8_seed
  refine rz_aload_n 1 0 dX8_seed_0 rfl rfl ?_
  refine rz_iload_n 2 1 dX8_seed_1 rfl rfl ?_
  refine rz_callV 5 dX8_seed_2 rfl (tX8_isSeed v (d + 0) l0 l1) rfl rfl rfl rfl ml_X8_270 im_X8_isSeed se_X8_X8_isSeed in_X8 co_X8_isSeed rfl rfl (fun x1 => ?_)
  refine rz_if_ne 14 8 dX8_seed_5 rfl rfl ?_ ?_
  · refine rz_aload_n 15 0 dX8_seed_14 rfl rfl ?_
    refine rz_gR 18 dX8_seed_15 rfl rfl fl_X8_26 (fun x2 => ?_)
    refine rz_iload_n 19 1 dX8_seed_18 rfl rfl ?_
    refine rz_pI 22 dX8_seed_19 rfl rfl rfl rfl fl_X8_204 ?_
    refine rz_aload_n 23 0 dX8_seed_22 rfl rfl ?_
    refine rz_callV 26 dX8_seed_23 rfl (tX8_accept v (d + 0) l0) rfl rfl rfl rfl ml_X8_102 im_X8_accept se_X8_X8_accept in_X8 co_X8_accept rfl rfl (fun x3 => ?_)
    exact rz_zreturn rfl rfl dX8_seed_26
  · refine rz_aload_n 9 0 dX8_seed_8 rfl rfl ?_
    refine rz_iconst 10 dX8_seed_9 rfl ci_5 ?_
    refine rz_callV 13 dX8_seed_10 rfl (tX8_refuse v (d + 0) l0 (5 : Int32)) rfl rfl rfl rfl ml_X8_95 im_X8_refuse se_X8_X8_refuse in_X8 co_X8_refuse rfl rfl (fun x4 => ?_)
    exact rz_zreturn rfl rfl dX8_seed_13
theorem tX8_seed (v : mE) (d : Nat) (l0 : Nat) (l1 : Int32) : Mt v yX8_seed cX8_seed 2 (some .boolean) emI (d + 1) [vR l0, vI l1] (fX8_seed l0 l1) := mt_of rfl rfl (fun h => by cases h) rfl rfl (rX8_seed v d l0 l1)
theorem dX8_pass_0 : decode cX8_pass 0 = .ok (.iload_n 1, 1) := by decide +kernel
theorem dX8_pass_1 : decode cX8_pass 1 = .ok (.iconst 1, 1) := by decide +kernel
theorem dX8_pass_2 : decode cX8_pass 2 = .ok (.if_icmp .lt 24, 3) := by decide +kernel
theorem dX8_pass_5 : decode cX8_pass 5 = .ok (.iload_n 1, 1) := by decide +kernel
theorem dX8_pass_6 : decode cX8_pass 6 = .ok (.bipush 50, 2) := by decide +kernel
theorem dX8_pass_8 : decode cX8_pass 8 = .ok (.if_icmp .gt 18, 3) := by decide +kernel
theorem dX8_pass_11 : decode cX8_pass 11 = .ok (.iload_n 1, 1) := by decide +kernel
theorem dX8_pass_12 : decode cX8_pass 12 = .ok (.sipush 200, 3) := by decide +kernel
theorem dX8_pass_15 : decode cX8_pass 15 = .ok (.aload_n 0, 1) := by decide +kernel
theorem dX8_pass_16 : decode cX8_pass 16 = .ok (.getfield 26, 3) := by decide +kernel
theorem dX8_pass_19 : decode cX8_pass 19 = .ok (.getfield 195, 3) := by decide +kernel
theorem dX8_pass_22 : decode cX8_pass 22 = .ok (.isub, 1) := by decide +kernel
theorem dX8_pass_23 : decode cX8_pass 23 = .ok (.if_icmp .le 9, 3) := by decide +kernel
theorem dX8_pass_26 : decode cX8_pass 26 = .ok (.aload_n 0, 1) := by decide +kernel
theorem dX8_pass_27 : decode cX8_pass 27 = .ok (.iconst 5, 1) := by decide +kernel
theorem dX8_pass_28 : decode cX8_pass 28 = .ok (.invokevirtual 114, 3) := by decide +kernel
theorem dX8_pass_31 : decode cX8_pass 31 = .ok (.ireturn, 1) := by decide +kernel
theorem dX8_pass_32 : decode cX8_pass 32 = .ok (.iconst 0, 1) := by decide +kernel
theorem dX8_pass_33 : decode cX8_pass 33 = .ok (.istore_n 2, 1) := by decide +kernel
theorem dX8_pass_34 : decode cX8_pass 34 = .ok (.iload_n 2, 1) := by decide +kernel
theorem dX8_pass_35 : decode cX8_pass 35 = .ok (.iload_n 1, 1) := by decide +kernel
theorem dX8_pass_36 : decode cX8_pass 36 = .ok (.if_icmp .ge 16, 3) := by decide +kernel
theorem dX8_pass_39 : decode cX8_pass 39 = .ok (.aload_n 0, 1) := by decide +kernel
theorem dX8_pass_40 : decode cX8_pass 40 = .ok (.getfield 26, 3) := by decide +kernel
theorem dX8_pass_43 : decode cX8_pass 43 = .ok (.invokevirtual 273, 3) := by decide +kernel
theorem dX8_pass_46 : decode cX8_pass 46 = .ok (.iinc 2 1, 3) := by decide +kernel
theorem dX8_pass_49 : decode cX8_pass 49 = .ok (.goto (-15), 3) := by decide +kernel
theorem dX8_pass_52 : decode cX8_pass 52 = .ok (.aload_n 0, 1) := by decide +kernel
theorem dX8_pass_53 : decode cX8_pass 53 = .ok (.aload_n 0, 1) := by decide +kernel
theorem dX8_pass_54 : decode cX8_pass 54 = .ok (.getfield 26, 3) := by decide +kernel
theorem dX8_pass_57 : decode cX8_pass 57 = .ok (.getfield 195, 3) := by decide +kernel
theorem dX8_pass_60 : decode cX8_pass 60 = .ok (.invokevirtual 166, 3) := by decide +kernel
theorem dX8_pass_63 : decode cX8_pass 63 = .ok (.ireturn, 1) := by decide +kernel
def fX8_pass_52 (l0 : Nat) : mM Int32 := bGR 8 l0 3 (fun x1 => bGI 7 x1 0 (fun x2 => bCallV 8 l0 (fX8_tell l0 x2) (fun x3 => bRet x3)))
set_option maxRecDepth 20000 in
theorem rX8_pass_52 (v : mE) (d : Nat) (l0 : Nat) : Rz v RX8 cX8_pass 3 (some .int) false emI (d + 6) 52 [(0, vR l0)] [] (fX8_pass_52 l0) := by
  unfold fX8_pass_52
  refine rz_aload_n 53 0 dX8_pass_52 rfl rfl ?_
  refine rz_aload_n 54 0 dX8_pass_53 rfl rfl ?_
  refine rz_gR 57 dX8_pass_54 rfl rfl fl_X8_26 (fun x1 => ?_)
  refine rz_gI 60 dX8_pass_57 rfl rfl fl_X8_195 (fun x2 => ?_)
  refine rz_callV 63 dX8_pass_60 rfl (tX8_tell v (d + 5) l0 x2) rfl rfl rfl rfl ml_X8_166 im_X8_tell se_X8_X8_tell in_X8 co_X8_tell rfl rfl (fun x3 => ?_)
  exact rz_ireturn rfl rfl dX8_pass_63
def fX8_pass_34 : Nat → Nat → Int32 → Int32 → mM Int32
  | 0 => fun _ _ _ => fun _ => none
  | n + 1 => fun l0 l1 l2 => let r34 := fX8_pass_34 n; bIf (l1 ≤ l2) (fX8_pass_52 l0) (bGR 8 l0 3 (fun x1 => bCallV 7 x1 (fX7_passYear x1) (fun _ => r34 l0 l1 (l2 + 1))))
theorem qX8_pass_34  (n : Nat) (l0 : Nat) (l1 : Int32) (l2 : Int32) : fX8_pass_34 (n + 1) l0 l1 l2 = bIf (l1 ≤ l2) (fX8_pass_52 l0) (bGR 8 l0 3 (fun x1 => bCallV 7 x1 (fX7_passYear x1) (fun _ => (fX8_pass_34 n) l0 l1 (l2 + 1)))) := rfl
set_option maxRecDepth 20000 in
theorem rX8_pass_34 (v : mE) (d : Nat) : ∀ (n : Nat) (l0 : Nat) (l1 : Int32) (l2 : Int32), Rz v RX8 cX8_pass 3 (some .int) false emI (d + 6) 34 [(0, vR l0), (1, vI l1), (2, vI l2)] [] (fX8_pass_34 n l0 l1 l2)
  | 0, _, _, _ => fun _ _ _ hm => by cases hm
  | n + 1, l0, l1, l2 => by
    have h34 := rX8_pass_34 v d n
    unfold fX8_pass_34
    generalize fX8_pass_34 n = r34 at h34 ⊢
    refine rz_iload_n 35 2 dX8_pass_34 rfl rfl ?_
    refine rz_iload_n 36 1 dX8_pass_35 rfl rfl ?_
    refine rz_icmp_ge 52 39 dX8_pass_36 rfl rfl ?_ ?_
    · exact rz_sub [0] rfl (rX8_pass_52 v d l0)
    · refine rz_aload_n 40 0 dX8_pass_39 rfl rfl ?_
      refine rz_gR 43 dX8_pass_40 rfl rfl fl_X8_26 (fun x1 => ?_)
      refine rz_callV 46 dX8_pass_43 rfl (tX7_passYear v (d + 0) x1) rfl rfl rfl rfl ml_X8_273 im_X7_passYear se_X7_X7_passYear in_X7 co_X7_passYear rfl rfl (fun _ => ?_)
      refine rz_iinc (lv' := [(2, vI (l2 + 1)), (0, vR l0), (1, vI l1)]) 49 2 dX8_pass_46 rfl rfl (cn_1 _) rfl rfl ?_
      refine rz_goto 34 dX8_pass_49 rfl ?_
      exact rz_sub [1, 2, 0] rfl (h34 l0 l1 (l2 + 1))
def fX8_pass_26 (l0 : Nat) : mM Int32 := bCallV 8 l0 (fX8_none l0 (5 : Int32)) (fun x1 => bRet x1)
set_option maxRecDepth 20000 in
theorem rX8_pass_26 (v : mE) (d : Nat) (l0 : Nat) : Rz v RX8 cX8_pass 3 (some .int) false emI (d + 6) 26 [(0, vR l0)] [] (fX8_pass_26 l0) := by
  unfold fX8_pass_26
  refine rz_aload_n 27 0 dX8_pass_26 rfl rfl ?_
  refine rz_iconst 28 dX8_pass_27 rfl ci_5 ?_
  refine rz_callV 31 dX8_pass_28 rfl (tX8_none v (d + 5) l0 (5 : Int32)) rfl rfl rfl rfl ml_X8_114 im_X8_none se_X8_X8_none in_X8 co_X8_none rfl rfl (fun x1 => ?_)
  exact rz_ireturn rfl rfl dX8_pass_31
def fX8_pass (l0 : Nat) (l1 : Int32) : mM Int32 := bIf (l1 < (1 : Int32)) (fX8_pass_26 l0) (bIf ((50 : Int32) < l1) (fX8_pass_26 l0) (bGR 8 l0 3 (fun x1 => bGI 7 x1 0 (fun x2 => bIf (l1 ≤ ((200 : Int32) - x2)) (fX8_pass_34 fu l0 l1 (0 : Int32)) (fX8_pass_26 l0)))))
set_option maxRecDepth 20000 in
theorem rX8_pass (v : mE) (d : Nat) (l0 : Nat) (l1 : Int32) : Rz v RX8 cX8_pass 3 (some .int) false emI (d + 6) 0 [(0, vR l0), (1, vI l1)] [] (fX8_pass l0 l1) := by
  unfold fX8_pass
  refine rz_iload_n 1 1 dX8_pass_0 rfl rfl ?_
  refine rz_iconst 2 dX8_pass_1 rfl ci_1 ?_
  refine rz_icmp_lt 26 5 dX8_pass_2 rfl rfl ?_ ?_
  · exact rz_sub [0] rfl (rX8_pass_26 v d l0)
  · refine rz_iload_n 6 1 dX8_pass_5 rfl rfl ?_
    refine rz_bipush 8 dX8_pass_6 rfl cb_50 ?_
    refine rz_icmp_gt 26 11 dX8_pass_8 rfl rfl ?_ ?_
    · exact rz_sub [0] rfl (rX8_pass_26 v d l0)
    · refine rz_iload_n 12 1 dX8_pass_11 rfl rfl ?_
      refine rz_sipush 15 dX8_pass_12 rfl cs_200 ?_
      refine rz_aload_n 16 0 dX8_pass_15 rfl rfl ?_
      refine rz_gR 19 dX8_pass_16 rfl rfl fl_X8_26 (fun x1 => ?_)
      refine rz_gI 22 dX8_pass_19 rfl rfl fl_X8_195 (fun x2 => ?_)
      refine rz_isub 23 dX8_pass_22 rfl ?_
      refine rz_icmp_le 32 26 dX8_pass_23 rfl rfl ?_ ?_
      · refine rz_iconst 33 dX8_pass_32 rfl ci_0 ?_
        refine rz_istore_n (lv' := [(2, vI (0 : Int32)), (0, vR l0), (1, vI l1)]) 34 dX8_pass_33 rfl rfl rfl ?_
        exact rz_sub [1, 2, 0] rfl (rX8_pass_34 v d fu l0 l1 (0 : Int32))
      · exact rz_sub [0] rfl (rX8_pass_26 v d l0)
theorem tX8_pass (v : mE) (d : Nat) (l0 : Nat) (l1 : Int32) : Mt v yX8_pass cX8_pass 3 (some .int) emI (d + 6) [vR l0, vI l1] (fX8_pass l0 l1) := mt_of rfl rfl (fun h => by cases h) rfl rfl (rX8_pass v d l0 l1)
theorem dX8_drinks_0 : decode cX8_drinks 0 = .ok (.aload_n 0, 1) := by decide +kernel
theorem dX8_drinks_1 : decode cX8_drinks 1 = .ok (.iload_n 1, 1) := by decide +kernel
theorem dX8_drinks_2 : decode cX8_drinks 2 = .ok (.invokevirtual 207, 3) := by decide +kernel
theorem dX8_drinks_5 : decode cX8_drinks 5 = .ok (.ifCond .ne 9, 3) := by decide +kernel
theorem dX8_drinks_8 : decode cX8_drinks 8 = .ok (.aload_n 0, 1) := by decide +kernel
theorem dX8_drinks_9 : decode cX8_drinks 9 = .ok (.iconst 2, 1) := by decide +kernel
theorem dX8_drinks_10 : decode cX8_drinks 10 = .ok (.invokevirtual 114, 3) := by decide +kernel
theorem dX8_drinks_13 : decode cX8_drinks 13 = .ok (.ireturn, 1) := by decide +kernel
theorem dX8_drinks_14 : decode cX8_drinks 14 = .ok (.aload_n 0, 1) := by decide +kernel
theorem dX8_drinks_15 : decode cX8_drinks 15 = .ok (.aload_n 0, 1) := by decide +kernel
theorem dX8_drinks_16 : decode cX8_drinks 16 = .ok (.getfield 26, 3) := by decide +kernel
theorem dX8_drinks_19 : decode cX8_drinks 19 = .ok (.iload_n 1, 1) := by decide +kernel
theorem dX8_drinks_20 : decode cX8_drinks 20 = .ok (.invokevirtual 276, 3) := by decide +kernel
theorem dX8_drinks_23 : decode cX8_drinks 23 = .ok (.ifCond .eq 7, 3) := by decide +kernel
theorem dX8_drinks_26 : decode cX8_drinks 26 = .ok (.iconst 1, 1) := by decide +kernel
theorem dX8_drinks_27 : decode cX8_drinks 27 = .ok (.goto 4, 3) := by decide +kernel
theorem dX8_drinks_30 : decode cX8_drinks 30 = .ok (.iconst 0, 1) := by decide +kernel
theorem dX8_drinks_31 : decode cX8_drinks 31 = .ok (.invokevirtual 166, 3) := by decide +kernel
theorem dX8_drinks_34 : decode cX8_drinks 34 = .ok (.ireturn, 1) := by decide +kernel
def fX8_drinks_31 (s0 : Int32) (s1 : Nat) : mM Int32 := bCallV 8 s1 (fX8_tell s1 s0) (fun x1 => bRet x1)
set_option maxRecDepth 20000 in
theorem rX8_drinks_31 (v : mE) (d : Nat) (s0 : Int32) (s1 : Nat) : Rz v RX8 cX8_drinks 2 (some .int) false emI (d + 5) 31 [] [vI s0, vR s1] (fX8_drinks_31 s0 s1) := by
  unfold fX8_drinks_31
  refine rz_callV 34 dX8_drinks_31 rfl (tX8_tell v (d + 4) s1 s0) rfl rfl rfl rfl ml_X8_166 im_X8_tell se_X8_X8_tell in_X8 co_X8_tell rfl rfl (fun x1 => ?_)
  exact rz_ireturn rfl rfl dX8_drinks_34
def fX8_drinks (l0 : Nat) (l1 : Int32) : mM Int32 := bCallV 8 l0 (fX8_isPerson l0 l1) (fun x1 => bIf (x1 = 0) (bCallV 8 l0 (fX8_none l0 (2 : Int32)) (fun x4 => bRet x4)) (bGR 8 l0 3 (fun x2 => bCallV 7 x2 (fX7_isDrinking x2 l1) (fun x3 => bIf (x3 = 0) (fX8_drinks_31 (0 : Int32) l0) (fX8_drinks_31 (1 : Int32) l0)))))
set_option maxRecDepth 20000 in
theorem rX8_drinks (v : mE) (d : Nat) (l0 : Nat) (l1 : Int32) : Rz v RX8 cX8_drinks 2 (some .int) false emI (d + 5) 0 [(0, vR l0), (1, vI l1)] [] (fX8_drinks l0 l1) := by
  unfold fX8_drinks
  refine rz_aload_n 1 0 dX8_drinks_0 rfl rfl ?_
  refine rz_iload_n 2 1 dX8_drinks_1 rfl rfl ?_
  refine rz_callV 5 dX8_drinks_2 rfl (tX8_isPerson v (d + 4) l0 l1) rfl rfl rfl rfl ml_X8_207 im_X8_isPerson se_X8_X8_isPerson in_X8 co_X8_isPerson rfl rfl (fun x1 => ?_)
  refine rz_if_ne 14 8 dX8_drinks_5 rfl rfl ?_ ?_
  · refine rz_aload_n 15 0 dX8_drinks_14 rfl rfl ?_
    refine rz_aload_n 16 0 dX8_drinks_15 rfl rfl ?_
    refine rz_gR 19 dX8_drinks_16 rfl rfl fl_X8_26 (fun x2 => ?_)
    refine rz_iload_n 20 1 dX8_drinks_19 rfl rfl ?_
    refine rz_callV 23 dX8_drinks_20 rfl (tX7_isDrinking v (d + 0) x2 l1) rfl rfl rfl rfl ml_X8_276 im_X7_isDrinking se_X7_X7_isDrinking in_X7 co_X7_isDrinking rfl rfl (fun x3 => ?_)
    refine rz_if_eq 30 26 dX8_drinks_23 rfl rfl ?_ ?_
    · refine rz_iconst 31 dX8_drinks_30 rfl ci_0 ?_
      exact rz_sub [] rfl (rX8_drinks_31 v d (0 : Int32) l0)
    · refine rz_iconst 27 dX8_drinks_26 rfl ci_1 ?_
      refine rz_goto 31 dX8_drinks_27 rfl ?_
      exact rz_sub [] rfl (rX8_drinks_31 v d (1 : Int32) l0)
  · refine rz_aload_n 9 0 dX8_drinks_8 rfl rfl ?_
    refine rz_iconst 10 dX8_drinks_9 rfl ci_2 ?_
    refine rz_callV 13 dX8_drinks_10 rfl (tX8_none v (d + 4) l0 (2 : Int32)) rfl rfl rfl rfl ml_X8_114 im_X8_none se_X8_X8_none in_X8 co_X8_none rfl rfl (fun x4 => ?_)
    exact rz_ireturn rfl rfl dX8_drinks_13
theorem tX8_drinks (v : mE) (d : Nat) (l0 : Nat) (l1 : Int32) : Mt v yX8_drinks cX8_drinks 2 (some .int) emI (d + 5) [vR l0, vI l1] (fX8_drinks l0 l1) := mt_of rfl rfl (fun h => by cases h) rfl rfl (rX8_drinks v d l0 l1)
theorem dX8_who_0 : decode cX8_who 0 = .ok (.aload_n 0, 1) := by decide +kernel
theorem dX8_who_1 : decode cX8_who 1 = .ok (.aload_n 0, 1) := by decide +kernel
theorem dX8_who_2 : decode cX8_who 2 = .ok (.getfield 26, 3) := by decide +kernel
theorem dX8_who_5 : decode cX8_who 5 = .ok (.invokevirtual 279, 3) := by decide +kernel
theorem dX8_who_8 : decode cX8_who 8 = .ok (.invokevirtual 166, 3) := by decide +kernel
theorem dX8_who_11 : decode cX8_who 11 = .ok (.ireturn, 1) := by decide +kernel
def fX8_who (l0 : Nat) : mM Int32 := bGR 8 l0 3 (fun x1 => bCallV 7 x1 (fX7_drinkers x1) (fun x2 => bCallV 8 l0 (fX8_tell l0 x2) (fun x3 => bRet x3)))
set_option maxRecDepth 20000 in
theorem rX8_who (v : mE) (d : Nat) (l0 : Nat) : Rz v RX8 cX8_who 1 (some .int) false emI (d + 4) 0 [(0, vR l0)] [] (fX8_who l0) := by
  unfold fX8_who
  refine rz_aload_n 1 0 dX8_who_0 rfl rfl ?_
  refine rz_aload_n 2 0 dX8_who_1 rfl rfl ?_
  refine rz_gR 5 dX8_who_2 rfl rfl fl_X8_26 (fun x1 => ?_)
  refine rz_callV 8 dX8_who_5 rfl (tX7_drinkers v (d + 0) x1) rfl rfl rfl rfl ml_X8_279 im_X7_drinkers se_X7_X7_drinkers in_X7 co_X7_drinkers rfl rfl (fun x2 => ?_)
  refine rz_callV 11 dX8_who_8 rfl (tX8_tell v (d + 3) l0 x2) rfl rfl rfl rfl ml_X8_166 im_X8_tell se_X8_X8_tell in_X8 co_X8_tell rfl rfl (fun x3 => ?_)
  exact rz_ireturn rfl rfl dX8_who_11
theorem tX8_who (v : mE) (d : Nat) (l0 : Nat) : Mt v yX8_who cX8_who 1 (some .int) emI (d + 4) [vR l0] (fX8_who l0) := mt_of rfl rfl (fun h => by cases h) rfl rfl (rX8_who v d l0)
theorem dX8_yearsLeft_0 : decode cX8_yearsLeft 0 = .ok (.bipush 100, 2) := by decide +kernel
theorem dX8_yearsLeft_2 : decode cX8_yearsLeft 2 = .ok (.sipush 200, 3) := by decide +kernel
theorem dX8_yearsLeft_5 : decode cX8_yearsLeft 5 = .ok (.aload_n 0, 1) := by decide +kernel
theorem dX8_yearsLeft_6 : decode cX8_yearsLeft 6 = .ok (.getfield 26, 3) := by decide +kernel
theorem dX8_yearsLeft_9 : decode cX8_yearsLeft 9 = .ok (.getfield 195, 3) := by decide +kernel
theorem dX8_yearsLeft_12 : decode cX8_yearsLeft 12 = .ok (.isub, 1) := by decide +kernel
theorem dX8_yearsLeft_13 : decode cX8_yearsLeft 13 = .ok (.invokestatic 298, 3) := by decide +kernel
theorem dX8_yearsLeft_16 : decode cX8_yearsLeft 16 = .ok (.ireturn, 1) := by decide +kernel
def fX8_yearsLeft (l0 : Nat) : mM Int32 := bGR 8 l0 3 (fun x1 => bGI 7 x1 0 (fun x2 => bRet (jMin (100 : Int32) ((200 : Int32) - x2))))
set_option maxRecDepth 20000 in
theorem rX8_yearsLeft (v : mE) (d : Nat) (l0 : Nat) : Rz v RX8 cX8_yearsLeft 1 (some .int) false emI (d + 1) 0 [(0, vR l0)] [] (fX8_yearsLeft l0) := by
  unfold fX8_yearsLeft
  refine rz_bipush 2 dX8_yearsLeft_0 rfl cb_100 ?_
  refine rz_sipush 5 dX8_yearsLeft_2 rfl cs_200 ?_
  refine rz_aload_n 6 0 dX8_yearsLeft_5 rfl rfl ?_
  refine rz_gR 9 dX8_yearsLeft_6 rfl rfl fl_X8_26 (fun x1 => ?_)
  refine rz_gI 12 dX8_yearsLeft_9 rfl rfl fl_X8_195 (fun x2 => ?_)
  refine rz_isub 13 dX8_yearsLeft_12 rfl ?_
  refine rz_mmin 16 dX8_yearsLeft_13 rfl ml_X8_298 rfl rfl ?_
  exact rz_ireturn rfl rfl dX8_yearsLeft_16
theorem tX8_yearsLeft (v : mE) (d : Nat) (l0 : Nat) : Mt v yX8_yearsLeft cX8_yearsLeft 1 (some .int) emI (d + 1) [vR l0] (fX8_yearsLeft l0) := mt_of rfl rfl (fun h => by cases h) rfl rfl (rX8_yearsLeft v d l0)
theorem dX8_isAhead_0 : decode cX8_isAhead 0 = .ok (.iload_n 1, 1) := by decide +kernel
theorem dX8_isAhead_1 : decode cX8_isAhead 1 = .ok (.ifCond .lt 15, 3) := by decide +kernel
theorem dX8_isAhead_4 : decode cX8_isAhead 4 = .ok (.iload_n 1, 1) := by decide +kernel
theorem dX8_isAhead_5 : decode cX8_isAhead 5 = .ok (.aload_n 0, 1) := by decide +kernel
theorem dX8_isAhead_6 : decode cX8_isAhead 6 = .ok (.invokevirtual 288, 3) := by decide +kernel
theorem dX8_isAhead_9 : decode cX8_isAhead 9 = .ok (.if_icmp .gt 7, 3) := by decide +kernel
theorem dX8_isAhead_12 : decode cX8_isAhead 12 = .ok (.iconst 1, 1) := by decide +kernel
theorem dX8_isAhead_13 : decode cX8_isAhead 13 = .ok (.goto 4, 3) := by decide +kernel
theorem dX8_isAhead_16 : decode cX8_isAhead 16 = .ok (.iconst 0, 1) := by decide +kernel
theorem dX8_isAhead_17 : decode cX8_isAhead 17 = .ok (.ireturn, 1) := by decide +kernel
def fX8_isAhead (l0 : Nat) (l1 : Int32) : mM Int32 := bIf (l1 < 0) (bRetZ (0 : Int32)) (bCallV 8 l0 (fX8_yearsLeft l0) (fun x1 => bIf (x1 < l1) (bRetZ (0 : Int32)) (bRetZ (1 : Int32))))
set_option maxRecDepth 20000 in
theorem rX8_isAhead (v : mE) (d : Nat) (l0 : Nat) (l1 : Int32) : Rz v RX8 cX8_isAhead 2 (some .boolean) false emI (d + 2) 0 [(0, vR l0), (1, vI l1)] [] (fX8_isAhead l0 l1) := by
  unfold fX8_isAhead
  refine rz_iload_n 1 1 dX8_isAhead_0 rfl rfl ?_
  refine rz_if_lt 16 4 dX8_isAhead_1 rfl rfl ?_ ?_
  · refine rz_iconst 17 dX8_isAhead_16 rfl ci_0 ?_
    exact rz_zreturn rfl rfl dX8_isAhead_17
  · refine rz_iload_n 5 1 dX8_isAhead_4 rfl rfl ?_
    refine rz_aload_n 6 0 dX8_isAhead_5 rfl rfl ?_
    refine rz_callV 9 dX8_isAhead_6 rfl (tX8_yearsLeft v (d + 0) l0) rfl rfl rfl rfl ml_X8_288 im_X8_yearsLeft se_X8_X8_yearsLeft in_X8 co_X8_yearsLeft rfl rfl (fun x1 => ?_)
    refine rz_icmp_gt 16 12 dX8_isAhead_9 rfl rfl ?_ ?_
    · refine rz_iconst 17 dX8_isAhead_16 rfl ci_0 ?_
      exact rz_zreturn rfl rfl dX8_isAhead_17
    · refine rz_iconst 13 dX8_isAhead_12 rfl ci_1 ?_
      refine rz_goto 17 dX8_isAhead_13 rfl ?_
      exact rz_zreturn rfl rfl dX8_isAhead_17
theorem tX8_isAhead (v : mE) (d : Nat) (l0 : Nat) (l1 : Int32) : Mt v yX8_isAhead cX8_isAhead 2 (some .boolean) emI (d + 2) [vR l0, vI l1] (fX8_isAhead l0 l1) := mt_of rfl rfl (fun h => by cases h) rfl rfl (rX8_isAhead v d l0 l1)
theorem dX8_lookAhead_0 : decode cX8_lookAhead 0 = .ok (.aload_n 0, 1) := by decide +kernel
theorem dX8_lookAhead_1 : decode cX8_lookAhead 1 = .ok (.getfield 30, 3) := by decide +kernel
theorem dX8_lookAhead_4 : decode cX8_lookAhead 4 = .ok (.aload_n 0, 1) := by decide +kernel
theorem dX8_lookAhead_5 : decode cX8_lookAhead 5 = .ok (.getfield 26, 3) := by decide +kernel
theorem dX8_lookAhead_8 : decode cX8_lookAhead 8 = .ok (.invokevirtual 159, 3) := by decide +kernel
theorem dX8_lookAhead_11 : decode cX8_lookAhead 11 = .ok (.aload_n 0, 1) := by decide +kernel
theorem dX8_lookAhead_12 : decode cX8_lookAhead 12 = .ok (.getfield 30, 3) := by decide +kernel
theorem dX8_lookAhead_15 : decode cX8_lookAhead 15 = .ok (.iload_n 2, 1) := by decide +kernel
theorem dX8_lookAhead_16 : decode cX8_lookAhead 16 = .ok (.putfield 204, 3) := by decide +kernel
theorem dX8_lookAhead_19 : decode cX8_lookAhead 19 = .ok (.iconst 0, 1) := by decide +kernel
theorem dX8_lookAhead_20 : decode cX8_lookAhead 20 = .ok (.istore_n 3, 1) := by decide +kernel
theorem dX8_lookAhead_21 : decode cX8_lookAhead 21 = .ok (.iload_n 3, 1) := by decide +kernel
theorem dX8_lookAhead_22 : decode cX8_lookAhead 22 = .ok (.iload_n 1, 1) := by decide +kernel
theorem dX8_lookAhead_23 : decode cX8_lookAhead 23 = .ok (.if_icmp .ge 16, 3) := by decide +kernel
theorem dX8_lookAhead_26 : decode cX8_lookAhead 26 = .ok (.aload_n 0, 1) := by decide +kernel
theorem dX8_lookAhead_27 : decode cX8_lookAhead 27 = .ok (.getfield 30, 3) := by decide +kernel
theorem dX8_lookAhead_30 : decode cX8_lookAhead 30 = .ok (.invokevirtual 273, 3) := by decide +kernel
theorem dX8_lookAhead_33 : decode cX8_lookAhead 33 = .ok (.iinc 3 1, 3) := by decide +kernel
theorem dX8_lookAhead_36 : decode cX8_lookAhead 36 = .ok (.goto (-15), 3) := by decide +kernel
theorem dX8_lookAhead_39 : decode cX8_lookAhead 39 = .ok (.return_, 1) := by decide +kernel
def fX8_lookAhead_21 : Nat → Nat → Int32 → Int32 → mM Unit
  | 0 => fun _ _ _ => fun _ => none
  | n + 1 => fun l0 l1 l3 => let r21 := fX8_lookAhead_21 n; bIf (l1 ≤ l3) (bRet ()) (bGR 8 l0 4 (fun x1 => bCallV 7 x1 (fX7_passYear x1) (fun _ => r21 l0 l1 (l3 + 1))))
theorem qX8_lookAhead_21  (n : Nat) (l0 : Nat) (l1 : Int32) (l3 : Int32) : fX8_lookAhead_21 (n + 1) l0 l1 l3 = bIf (l1 ≤ l3) (bRet ()) (bGR 8 l0 4 (fun x1 => bCallV 7 x1 (fX7_passYear x1) (fun _ => (fX8_lookAhead_21 n) l0 l1 (l3 + 1)))) := rfl
set_option maxRecDepth 20000 in
theorem rX8_lookAhead_21 (v : mE) (d : Nat) : ∀ (n : Nat) (l0 : Nat) (l1 : Int32) (l3 : Int32), Rz v RX8 cX8_lookAhead 4 none false emU (d + 6) 21 [(0, vR l0), (1, vI l1), (3, vI l3)] [] (fX8_lookAhead_21 n l0 l1 l3)
  | 0, _, _, _ => fun _ _ _ hm => by cases hm
  | n + 1, l0, l1, l3 => by
    have h21 := rX8_lookAhead_21 v d n
    unfold fX8_lookAhead_21
    generalize fX8_lookAhead_21 n = r21 at h21 ⊢
    refine rz_iload_n 22 2 dX8_lookAhead_21 rfl rfl ?_
    refine rz_iload_n 23 1 dX8_lookAhead_22 rfl rfl ?_
    refine rz_icmp_ge 39 26 dX8_lookAhead_23 rfl rfl ?_ ?_
    · exact rz_return rfl rfl dX8_lookAhead_39
    · refine rz_aload_n 27 0 dX8_lookAhead_26 rfl rfl ?_
      refine rz_gR 30 dX8_lookAhead_27 rfl rfl fl_X8_30 (fun x1 => ?_)
      refine rz_callV 33 dX8_lookAhead_30 rfl (tX7_passYear v (d + 0) x1) rfl rfl rfl rfl ml_X8_273 im_X7_passYear se_X7_X7_passYear in_X7 co_X7_passYear rfl rfl (fun _ => ?_)
      refine rz_iinc (lv' := [(3, vI (l3 + 1)), (0, vR l0), (1, vI l1)]) 36 2 dX8_lookAhead_33 rfl rfl (cn_1 _) rfl rfl ?_
      refine rz_goto 21 dX8_lookAhead_36 rfl ?_
      exact rz_sub [1, 2, 0] rfl (h21 l0 l1 (l3 + 1))
def fX8_lookAhead (l0 : Nat) (l1 : Int32) (l2 : Int32) : mM Unit := bGR 8 l0 4 (fun x1 => bGR 8 l0 3 (fun x2 => bCallV 7 x1 (fX7_copyFrom x1 x2) (fun _ => bGR 8 l0 4 (fun x3 => bPI 7 x3 6 l2 (fX8_lookAhead_21 fu l0 l1 (0 : Int32))))))
set_option maxRecDepth 20000 in
theorem rX8_lookAhead (v : mE) (d : Nat) (l0 : Nat) (l1 : Int32) (l2 : Int32) : Rz v RX8 cX8_lookAhead 4 none false emU (d + 6) 0 [(0, vR l0), (1, vI l1), (2, vI l2)] [] (fX8_lookAhead l0 l1 l2) := by
  unfold fX8_lookAhead
  refine rz_aload_n 1 0 dX8_lookAhead_0 rfl rfl ?_
  refine rz_gR 4 dX8_lookAhead_1 rfl rfl fl_X8_30 (fun x1 => ?_)
  refine rz_aload_n 5 0 dX8_lookAhead_4 rfl rfl ?_
  refine rz_gR 8 dX8_lookAhead_5 rfl rfl fl_X8_26 (fun x2 => ?_)
  refine rz_callV 11 dX8_lookAhead_8 rfl (tX7_copyFrom v (d + 3) x1 x2) rfl rfl rfl rfl ml_X8_159 im_X7_copyFrom se_X7_X7_copyFrom in_X7 co_X7_copyFrom rfl rfl (fun _ => ?_)
  refine rz_aload_n 12 0 dX8_lookAhead_11 rfl rfl ?_
  refine rz_gR 15 dX8_lookAhead_12 rfl rfl fl_X8_30 (fun x3 => ?_)
  refine rz_iload_n 16 2 dX8_lookAhead_15 rfl rfl ?_
  refine rz_pI 19 dX8_lookAhead_16 rfl rfl rfl rfl fl_X8_204 ?_
  refine rz_iconst 20 dX8_lookAhead_19 rfl ci_0 ?_
  refine rz_istore_n (lv' := [(3, vI (0 : Int32)), (0, vR l0), (1, vI l1), (2, vI l2)]) 21 dX8_lookAhead_20 rfl rfl rfl ?_
  exact rz_sub [1, 2, 0] rfl (rX8_lookAhead_21 v d fu l0 l1 (0 : Int32))
theorem tX8_lookAhead (v : mE) (d : Nat) (l0 : Nat) (l1 : Int32) (l2 : Int32) : Mt v yX8_lookAhead cX8_lookAhead 4 none emU (d + 6) [vR l0, vI l1, vI l2] (fX8_lookAhead l0 l1 l2) := mt_of rfl rfl (fun h => by cases h) rfl rfl (rX8_lookAhead v d l0 l1 l2)
theorem dX8_depth_0 : decode cX8_depth 0 = .ok (.aload_n 0, 1) := by decide +kernel
theorem dX8_depth_1 : decode cX8_depth 1 = .ok (.iload_n 1, 1) := by decide +kernel
theorem dX8_depth_2 : decode cX8_depth 2 = .ok (.invokevirtual 282, 3) := by decide +kernel
theorem dX8_depth_5 : decode cX8_depth 5 = .ok (.ifCond .ne 9, 3) := by decide +kernel
theorem dX8_depth_8 : decode cX8_depth 8 = .ok (.aload_n 0, 1) := by decide +kernel
theorem dX8_depth_9 : decode cX8_depth 9 = .ok (.iconst 5, 1) := by decide +kernel
theorem dX8_depth_10 : decode cX8_depth 10 = .ok (.invokevirtual 114, 3) := by decide +kernel
theorem dX8_depth_13 : decode cX8_depth 13 = .ok (.ireturn, 1) := by decide +kernel
theorem dX8_depth_14 : decode cX8_depth 14 = .ok (.aload_n 0, 1) := by decide +kernel
theorem dX8_depth_15 : decode cX8_depth 15 = .ok (.iload_n 1, 1) := by decide +kernel
theorem dX8_depth_16 : decode cX8_depth 16 = .ok (.aload_n 0, 1) := by decide +kernel
theorem dX8_depth_17 : decode cX8_depth 17 = .ok (.getfield 26, 3) := by decide +kernel
theorem dX8_depth_20 : decode cX8_depth 20 = .ok (.getfield 204, 3) := by decide +kernel
theorem dX8_depth_23 : decode cX8_depth 23 = .ok (.invokevirtual 285, 3) := by decide +kernel
theorem dX8_depth_26 : decode cX8_depth 26 = .ok (.aload_n 0, 1) := by decide +kernel
theorem dX8_depth_27 : decode cX8_depth 27 = .ok (.aload_n 0, 1) := by decide +kernel
theorem dX8_depth_28 : decode cX8_depth 28 = .ok (.getfield 30, 3) := by decide +kernel
theorem dX8_depth_31 : decode cX8_depth 31 = .ok (.invokevirtual 198, 3) := by decide +kernel
theorem dX8_depth_34 : decode cX8_depth 34 = .ok (.invokevirtual 166, 3) := by decide +kernel
theorem dX8_depth_37 : decode cX8_depth 37 = .ok (.ireturn, 1) := by decide +kernel
def fX8_depth (l0 : Nat) (l1 : Int32) : mM Int32 := bCallV 8 l0 (fX8_isAhead l0 l1) (fun x1 => bIf (x1 = 0) (bCallV 8 l0 (fX8_none l0 (5 : Int32)) (fun x7 => bRet x7)) (bGR 8 l0 3 (fun x2 => bGI 7 x2 6 (fun x3 => bCallV 8 l0 (fX8_lookAhead l0 l1 x3) (fun _ => bGR 8 l0 4 (fun x4 => bCallV 7 x4 (fX7_depthNow x4) (fun x5 => bCallV 8 l0 (fX8_tell l0 x5) (fun x6 => bRet x6))))))))
set_option maxRecDepth 20000 in
theorem rX8_depth (v : mE) (d : Nat) (l0 : Nat) (l1 : Int32) : Rz v RX8 cX8_depth 2 (some .int) false emI (d + 7) 0 [(0, vR l0), (1, vI l1)] [] (fX8_depth l0 l1) := by
  unfold fX8_depth
  refine rz_aload_n 1 0 dX8_depth_0 rfl rfl ?_
  refine rz_iload_n 2 1 dX8_depth_1 rfl rfl ?_
  refine rz_callV 5 dX8_depth_2 rfl (tX8_isAhead v (d + 4) l0 l1) rfl rfl rfl rfl ml_X8_282 im_X8_isAhead se_X8_X8_isAhead in_X8 co_X8_isAhead rfl rfl (fun x1 => ?_)
  refine rz_if_ne 14 8 dX8_depth_5 rfl rfl ?_ ?_
  · refine rz_aload_n 15 0 dX8_depth_14 rfl rfl ?_
    refine rz_iload_n 16 1 dX8_depth_15 rfl rfl ?_
    refine rz_aload_n 17 0 dX8_depth_16 rfl rfl ?_
    refine rz_gR 20 dX8_depth_17 rfl rfl fl_X8_26 (fun x2 => ?_)
    refine rz_gI 23 dX8_depth_20 rfl rfl fl_X8_204 (fun x3 => ?_)
    refine rz_callV 26 dX8_depth_23 rfl (tX8_lookAhead v (d + 0) l0 l1 x3) rfl rfl rfl rfl ml_X8_285 im_X8_lookAhead se_X8_X8_lookAhead in_X8 co_X8_lookAhead rfl rfl (fun _ => ?_)
    refine rz_aload_n 27 0 dX8_depth_26 rfl rfl ?_
    refine rz_aload_n 28 0 dX8_depth_27 rfl rfl ?_
    refine rz_gR 31 dX8_depth_28 rfl rfl fl_X8_30 (fun x4 => ?_)
    refine rz_callV 34 dX8_depth_31 rfl (tX7_depthNow v (d + 5) x4) rfl rfl rfl rfl ml_X8_198 im_X7_depthNow se_X7_X7_depthNow in_X7 co_X7_depthNow rfl rfl (fun x5 => ?_)
    refine rz_callV 37 dX8_depth_34 rfl (tX8_tell v (d + 6) l0 x5) rfl rfl rfl rfl ml_X8_166 im_X8_tell se_X8_X8_tell in_X8 co_X8_tell rfl rfl (fun x6 => ?_)
    exact rz_ireturn rfl rfl dX8_depth_37
  · refine rz_aload_n 9 0 dX8_depth_8 rfl rfl ?_
    refine rz_iconst 10 dX8_depth_9 rfl ci_5 ?_
    refine rz_callV 13 dX8_depth_10 rfl (tX8_none v (d + 6) l0 (5 : Int32)) rfl rfl rfl rfl ml_X8_114 im_X8_none se_X8_X8_none in_X8 co_X8_none rfl rfl (fun x7 => ?_)
    exact rz_ireturn rfl rfl dX8_depth_13
theorem tX8_depth (v : mE) (d : Nat) (l0 : Nat) (l1 : Int32) : Mt v yX8_depth cX8_depth 2 (some .int) emI (d + 7) [vR l0, vI l1] (fX8_depth l0 l1) := mt_of rfl rfl (fun h => by cases h) rfl rfl (rX8_depth v d l0 l1)
theorem dX8_whoThen_0 : decode cX8_whoThen 0 = .ok (.aload_n 0, 1) := by decide +kernel
theorem dX8_whoThen_1 : decode cX8_whoThen 1 = .ok (.iload_n 1, 1) := by decide +kernel
theorem dX8_whoThen_2 : decode cX8_whoThen 2 = .ok (.invokevirtual 282, 3) := by decide +kernel
theorem dX8_whoThen_5 : decode cX8_whoThen 5 = .ok (.ifCond .ne 9, 3) := by decide +kernel
theorem dX8_whoThen_8 : decode cX8_whoThen 8 = .ok (.aload_n 0, 1) := by decide +kernel
theorem dX8_whoThen_9 : decode cX8_whoThen 9 = .ok (.iconst 5, 1) := by decide +kernel
theorem dX8_whoThen_10 : decode cX8_whoThen 10 = .ok (.invokevirtual 114, 3) := by decide +kernel
theorem dX8_whoThen_13 : decode cX8_whoThen 13 = .ok (.ireturn, 1) := by decide +kernel
theorem dX8_whoThen_14 : decode cX8_whoThen 14 = .ok (.aload_n 0, 1) := by decide +kernel
theorem dX8_whoThen_15 : decode cX8_whoThen 15 = .ok (.iload_n 1, 1) := by decide +kernel
theorem dX8_whoThen_16 : decode cX8_whoThen 16 = .ok (.aload_n 0, 1) := by decide +kernel
theorem dX8_whoThen_17 : decode cX8_whoThen 17 = .ok (.getfield 26, 3) := by decide +kernel
theorem dX8_whoThen_20 : decode cX8_whoThen 20 = .ok (.getfield 204, 3) := by decide +kernel
theorem dX8_whoThen_23 : decode cX8_whoThen 23 = .ok (.invokevirtual 285, 3) := by decide +kernel
theorem dX8_whoThen_26 : decode cX8_whoThen 26 = .ok (.aload_n 0, 1) := by decide +kernel
theorem dX8_whoThen_27 : decode cX8_whoThen 27 = .ok (.aload_n 0, 1) := by decide +kernel
theorem dX8_whoThen_28 : decode cX8_whoThen 28 = .ok (.getfield 30, 3) := by decide +kernel
theorem dX8_whoThen_31 : decode cX8_whoThen 31 = .ok (.invokevirtual 279, 3) := by decide +kernel
theorem dX8_whoThen_34 : decode cX8_whoThen 34 = .ok (.invokevirtual 166, 3) := by decide +kernel
theorem dX8_whoThen_37 : decode cX8_whoThen 37 = .ok (.ireturn, 1) := by decide +kernel
def fX8_whoThen (l0 : Nat) (l1 : Int32) : mM Int32 := bCallV 8 l0 (fX8_isAhead l0 l1) (fun x1 => bIf (x1 = 0) (bCallV 8 l0 (fX8_none l0 (5 : Int32)) (fun x7 => bRet x7)) (bGR 8 l0 3 (fun x2 => bGI 7 x2 6 (fun x3 => bCallV 8 l0 (fX8_lookAhead l0 l1 x3) (fun _ => bGR 8 l0 4 (fun x4 => bCallV 7 x4 (fX7_drinkers x4) (fun x5 => bCallV 8 l0 (fX8_tell l0 x5) (fun x6 => bRet x6))))))))
set_option maxRecDepth 20000 in
theorem rX8_whoThen (v : mE) (d : Nat) (l0 : Nat) (l1 : Int32) : Rz v RX8 cX8_whoThen 2 (some .int) false emI (d + 7) 0 [(0, vR l0), (1, vI l1)] [] (fX8_whoThen l0 l1) := by
  unfold fX8_whoThen
  refine rz_aload_n 1 0 dX8_whoThen_0 rfl rfl ?_
  refine rz_iload_n 2 1 dX8_whoThen_1 rfl rfl ?_
  refine rz_callV 5 dX8_whoThen_2 rfl (tX8_isAhead v (d + 4) l0 l1) rfl rfl rfl rfl ml_X8_282 im_X8_isAhead se_X8_X8_isAhead in_X8 co_X8_isAhead rfl rfl (fun x1 => ?_)
  refine rz_if_ne 14 8 dX8_whoThen_5 rfl rfl ?_ ?_
  · refine rz_aload_n 15 0 dX8_whoThen_14 rfl rfl ?_
    refine rz_iload_n 16 1 dX8_whoThen_15 rfl rfl ?_
    refine rz_aload_n 17 0 dX8_whoThen_16 rfl rfl ?_
    refine rz_gR 20 dX8_whoThen_17 rfl rfl fl_X8_26 (fun x2 => ?_)
    refine rz_gI 23 dX8_whoThen_20 rfl rfl fl_X8_204 (fun x3 => ?_)
    refine rz_callV 26 dX8_whoThen_23 rfl (tX8_lookAhead v (d + 0) l0 l1 x3) rfl rfl rfl rfl ml_X8_285 im_X8_lookAhead se_X8_X8_lookAhead in_X8 co_X8_lookAhead rfl rfl (fun _ => ?_)
    refine rz_aload_n 27 0 dX8_whoThen_26 rfl rfl ?_
    refine rz_aload_n 28 0 dX8_whoThen_27 rfl rfl ?_
    refine rz_gR 31 dX8_whoThen_28 rfl rfl fl_X8_30 (fun x4 => ?_)
    refine rz_callV 34 dX8_whoThen_31 rfl (tX7_drinkers v (d + 3) x4) rfl rfl rfl rfl ml_X8_279 im_X7_drinkers se_X7_X7_drinkers in_X7 co_X7_drinkers rfl rfl (fun x5 => ?_)
    refine rz_callV 37 dX8_whoThen_34 rfl (tX8_tell v (d + 6) l0 x5) rfl rfl rfl rfl ml_X8_166 im_X8_tell se_X8_X8_tell in_X8 co_X8_tell rfl rfl (fun x6 => ?_)
    exact rz_ireturn rfl rfl dX8_whoThen_37
  · refine rz_aload_n 9 0 dX8_whoThen_8 rfl rfl ?_
    refine rz_iconst 10 dX8_whoThen_9 rfl ci_5 ?_
    refine rz_callV 13 dX8_whoThen_10 rfl (tX8_none v (d + 6) l0 (5 : Int32)) rfl rfl rfl rfl ml_X8_114 im_X8_none se_X8_X8_none in_X8 co_X8_none rfl rfl (fun x7 => ?_)
    exact rz_ireturn rfl rfl dX8_whoThen_13
theorem tX8_whoThen (v : mE) (d : Nat) (l0 : Nat) (l1 : Int32) : Mt v yX8_whoThen cX8_whoThen 2 (some .int) emI (d + 7) [vR l0, vI l1] (fX8_whoThen l0 l1) := mt_of rfl rfl (fun h => by cases h) rfl rfl (rX8_whoThen v d l0 l1)
theorem dX8_owner_0 : decode cX8_owner 0 = .ok (.aload_n 0, 1) := by decide +kernel
theorem dX8_owner_1 : decode cX8_owner 1 = .ok (.iload_n 1, 1) := by decide +kernel
theorem dX8_owner_2 : decode cX8_owner 2 = .ok (.invokevirtual 232, 3) := by decide +kernel
theorem dX8_owner_5 : decode cX8_owner 5 = .ok (.ifCond .ne 9, 3) := by decide +kernel
theorem dX8_owner_8 : decode cX8_owner 8 = .ok (.aload_n 0, 1) := by decide +kernel
theorem dX8_owner_9 : decode cX8_owner 9 = .ok (.iconst 2, 1) := by decide +kernel
theorem dX8_owner_10 : decode cX8_owner 10 = .ok (.invokevirtual 114, 3) := by decide +kernel
theorem dX8_owner_13 : decode cX8_owner 13 = .ok (.ireturn, 1) := by decide +kernel
theorem dX8_owner_14 : decode cX8_owner 14 = .ok (.aload_n 0, 1) := by decide +kernel
theorem dX8_owner_15 : decode cX8_owner 15 = .ok (.iload_n 2, 1) := by decide +kernel
theorem dX8_owner_16 : decode cX8_owner 16 = .ok (.invokevirtual 282, 3) := by decide +kernel
theorem dX8_owner_19 : decode cX8_owner 19 = .ok (.ifCond .ne 9, 3) := by decide +kernel
theorem dX8_owner_22 : decode cX8_owner 22 = .ok (.aload_n 0, 1) := by decide +kernel
theorem dX8_owner_23 : decode cX8_owner 23 = .ok (.iconst 5, 1) := by decide +kernel
theorem dX8_owner_24 : decode cX8_owner 24 = .ok (.invokevirtual 114, 3) := by decide +kernel
theorem dX8_owner_27 : decode cX8_owner 27 = .ok (.ireturn, 1) := by decide +kernel
theorem dX8_owner_28 : decode cX8_owner 28 = .ok (.aload_n 0, 1) := by decide +kernel
theorem dX8_owner_29 : decode cX8_owner 29 = .ok (.iload_n 2, 1) := by decide +kernel
theorem dX8_owner_30 : decode cX8_owner 30 = .ok (.aload_n 0, 1) := by decide +kernel
theorem dX8_owner_31 : decode cX8_owner 31 = .ok (.getfield 26, 3) := by decide +kernel
theorem dX8_owner_34 : decode cX8_owner 34 = .ok (.getfield 204, 3) := by decide +kernel
theorem dX8_owner_37 : decode cX8_owner 37 = .ok (.invokevirtual 285, 3) := by decide +kernel
theorem dX8_owner_40 : decode cX8_owner 40 = .ok (.aload_n 0, 1) := by decide +kernel
theorem dX8_owner_41 : decode cX8_owner 41 = .ok (.aload_n 0, 1) := by decide +kernel
theorem dX8_owner_42 : decode cX8_owner 42 = .ok (.getfield 30, 3) := by decide +kernel
theorem dX8_owner_45 : decode cX8_owner 45 = .ok (.getfield 235, 3) := by decide +kernel
theorem dX8_owner_48 : decode cX8_owner 48 = .ok (.iload_n 1, 1) := by decide +kernel
theorem dX8_owner_49 : decode cX8_owner 49 = .ok (.aaload, 1) := by decide +kernel
theorem dX8_owner_50 : decode cX8_owner 50 = .ok (.getfield 239, 3) := by decide +kernel
theorem dX8_owner_53 : decode cX8_owner 53 = .ok (.invokevirtual 166, 3) := by decide +kernel
theorem dX8_owner_56 : decode cX8_owner 56 = .ok (.ireturn, 1) := by decide +kernel
def fX8_owner (l0 : Nat) (l1 : Int32) (l2 : Int32) : mM Int32 := bCallV 8 l0 (fX8_isRope l0 l1) (fun x1 => bIf (x1 = 0) (bCallV 8 l0 (fX8_none l0 (2 : Int32)) (fun x11 => bRet x11)) (bCallV 8 l0 (fX8_isAhead l0 l2) (fun x2 => bIf (x2 = 0) (bCallV 8 l0 (fX8_none l0 (5 : Int32)) (fun x10 => bRet x10)) (bGR 8 l0 3 (fun x3 => bGI 7 x3 6 (fun x4 => bCallV 8 l0 (fX8_lookAhead l0 l2 x4) (fun _ => bGR 8 l0 4 (fun x5 => bGR 7 x5 10 (fun x6 => bAR 14 x6 l1 (fun x7 => bGI 3 x7 0 (fun x8 => bCallV 8 l0 (fX8_tell l0 x8) (fun x9 => bRet x9))))))))))))
set_option maxRecDepth 20000 in
theorem rX8_owner (v : mE) (d : Nat) (l0 : Nat) (l1 : Int32) (l2 : Int32) : Rz v RX8 cX8_owner 3 (some .int) false emI (d + 7) 0 [(0, vR l0), (1, vI l1), (2, vI l2)] [] (fX8_owner l0 l1 l2) := by
  unfold fX8_owner
  refine rz_aload_n 1 0 dX8_owner_0 rfl rfl ?_
  refine rz_iload_n 2 1 dX8_owner_1 rfl rfl ?_
  refine rz_callV 5 dX8_owner_2 rfl (tX8_isRope v (d + 5) l0 l1) rfl rfl rfl rfl ml_X8_232 im_X8_isRope se_X8_X8_isRope in_X8 co_X8_isRope rfl rfl (fun x1 => ?_)
  refine rz_if_ne 14 8 dX8_owner_5 rfl rfl ?_ ?_
  · refine rz_aload_n 15 0 dX8_owner_14 rfl rfl ?_
    refine rz_iload_n 16 2 dX8_owner_15 rfl rfl ?_
    refine rz_callV 19 dX8_owner_16 rfl (tX8_isAhead v (d + 4) l0 l2) rfl rfl rfl rfl ml_X8_282 im_X8_isAhead se_X8_X8_isAhead in_X8 co_X8_isAhead rfl rfl (fun x2 => ?_)
    refine rz_if_ne 28 22 dX8_owner_19 rfl rfl ?_ ?_
    · refine rz_aload_n 29 0 dX8_owner_28 rfl rfl ?_
      refine rz_iload_n 30 2 dX8_owner_29 rfl rfl ?_
      refine rz_aload_n 31 0 dX8_owner_30 rfl rfl ?_
      refine rz_gR 34 dX8_owner_31 rfl rfl fl_X8_26 (fun x3 => ?_)
      refine rz_gI 37 dX8_owner_34 rfl rfl fl_X8_204 (fun x4 => ?_)
      refine rz_callV 40 dX8_owner_37 rfl (tX8_lookAhead v (d + 0) l0 l2 x4) rfl rfl rfl rfl ml_X8_285 im_X8_lookAhead se_X8_X8_lookAhead in_X8 co_X8_lookAhead rfl rfl (fun _ => ?_)
      refine rz_aload_n 41 0 dX8_owner_40 rfl rfl ?_
      refine rz_aload_n 42 0 dX8_owner_41 rfl rfl ?_
      refine rz_gR 45 dX8_owner_42 rfl rfl fl_X8_30 (fun x5 => ?_)
      refine rz_gR 48 dX8_owner_45 rfl rfl fl_X8_235 (fun x6 => ?_)
      refine rz_iload_n 49 1 dX8_owner_48 rfl rfl ?_
      refine rz_aald 50 dX8_owner_49 rfl (by decide) (fun x7 => ?_)
      refine rz_gI 53 dX8_owner_50 rfl rfl fl_X8_239 (fun x8 => ?_)
      refine rz_callV 56 dX8_owner_53 rfl (tX8_tell v (d + 6) l0 x8) rfl rfl rfl rfl ml_X8_166 im_X8_tell se_X8_X8_tell in_X8 co_X8_tell rfl rfl (fun x9 => ?_)
      exact rz_ireturn rfl rfl dX8_owner_56
    · refine rz_aload_n 23 0 dX8_owner_22 rfl rfl ?_
      refine rz_iconst 24 dX8_owner_23 rfl ci_5 ?_
      refine rz_callV 27 dX8_owner_24 rfl (tX8_none v (d + 6) l0 (5 : Int32)) rfl rfl rfl rfl ml_X8_114 im_X8_none se_X8_X8_none in_X8 co_X8_none rfl rfl (fun x10 => ?_)
      exact rz_ireturn rfl rfl dX8_owner_27
  · refine rz_aload_n 9 0 dX8_owner_8 rfl rfl ?_
    refine rz_iconst 10 dX8_owner_9 rfl ci_2 ?_
    refine rz_callV 13 dX8_owner_10 rfl (tX8_none v (d + 6) l0 (2 : Int32)) rfl rfl rfl rfl ml_X8_114 im_X8_none se_X8_X8_none in_X8 co_X8_none rfl rfl (fun x11 => ?_)
    exact rz_ireturn rfl rfl dX8_owner_13
theorem tX8_owner (v : mE) (d : Nat) (l0 : Nat) (l1 : Int32) (l2 : Int32) : Mt v yX8_owner cX8_owner 3 (some .int) emI (d + 7) [vR l0, vI l1, vI l2] (fX8_owner l0 l1 l2) := mt_of rfl rfl (fun h => by cases h) rfl rfl (rX8_owner v d l0 l1 l2)
theorem dX8_thirst_0 : decode cX8_thirst 0 = .ok (.aload_n 0, 1) := by decide +kernel
theorem dX8_thirst_1 : decode cX8_thirst 1 = .ok (.iload_n 1, 1) := by decide +kernel
theorem dX8_thirst_2 : decode cX8_thirst 2 = .ok (.invokevirtual 207, 3) := by decide +kernel
theorem dX8_thirst_5 : decode cX8_thirst 5 = .ok (.ifCond .ne 9, 3) := by decide +kernel
theorem dX8_thirst_8 : decode cX8_thirst 8 = .ok (.aload_n 0, 1) := by decide +kernel
theorem dX8_thirst_9 : decode cX8_thirst 9 = .ok (.iconst 2, 1) := by decide +kernel
theorem dX8_thirst_10 : decode cX8_thirst 10 = .ok (.invokevirtual 114, 3) := by decide +kernel
theorem dX8_thirst_13 : decode cX8_thirst 13 = .ok (.ireturn, 1) := by decide +kernel
theorem dX8_thirst_14 : decode cX8_thirst 14 = .ok (.aload_n 0, 1) := by decide +kernel
theorem dX8_thirst_15 : decode cX8_thirst 15 = .ok (.getfield 30, 3) := by decide +kernel
theorem dX8_thirst_18 : decode cX8_thirst 18 = .ok (.aload_n 0, 1) := by decide +kernel
theorem dX8_thirst_19 : decode cX8_thirst 19 = .ok (.getfield 26, 3) := by decide +kernel
theorem dX8_thirst_22 : decode cX8_thirst 22 = .ok (.invokevirtual 159, 3) := by decide +kernel
theorem dX8_thirst_25 : decode cX8_thirst 25 = .ok (.aload_n 0, 1) := by decide +kernel
theorem dX8_thirst_26 : decode cX8_thirst 26 = .ok (.invokevirtual 288, 3) := by decide +kernel
theorem dX8_thirst_29 : decode cX8_thirst 29 = .ok (.istore_n 2, 1) := by decide +kernel
theorem dX8_thirst_30 : decode cX8_thirst 30 = .ok (.iconst 0, 1) := by decide +kernel
theorem dX8_thirst_31 : decode cX8_thirst 31 = .ok (.istore_n 3, 1) := by decide +kernel
theorem dX8_thirst_32 : decode cX8_thirst 32 = .ok (.iload_n 3, 1) := by decide +kernel
theorem dX8_thirst_33 : decode cX8_thirst 33 = .ok (.iload_n 2, 1) := by decide +kernel
theorem dX8_thirst_34 : decode cX8_thirst 34 = .ok (.if_icmp .gt 44, 3) := by decide +kernel
theorem dX8_thirst_37 : decode cX8_thirst 37 = .ok (.aload_n 0, 1) := by decide +kernel
theorem dX8_thirst_38 : decode cX8_thirst 38 = .ok (.getfield 30, 3) := by decide +kernel
theorem dX8_thirst_41 : decode cX8_thirst 41 = .ok (.iload_n 1, 1) := by decide +kernel
theorem dX8_thirst_42 : decode cX8_thirst 42 = .ok (.invokevirtual 220, 3) := by decide +kernel
theorem dX8_thirst_45 : decode cX8_thirst 45 = .ok (.ifCond .eq 20, 3) := by decide +kernel
theorem dX8_thirst_48 : decode cX8_thirst 48 = .ok (.aload_n 0, 1) := by decide +kernel
theorem dX8_thirst_49 : decode cX8_thirst 49 = .ok (.getfield 30, 3) := by decide +kernel
theorem dX8_thirst_52 : decode cX8_thirst 52 = .ok (.iload_n 1, 1) := by decide +kernel
theorem dX8_thirst_53 : decode cX8_thirst 53 = .ok (.invokevirtual 276, 3) := by decide +kernel
theorem dX8_thirst_56 : decode cX8_thirst 56 = .ok (.ifCond .ne 9, 3) := by decide +kernel
theorem dX8_thirst_59 : decode cX8_thirst 59 = .ok (.aload_n 0, 1) := by decide +kernel
theorem dX8_thirst_60 : decode cX8_thirst 60 = .ok (.iload_n 3, 1) := by decide +kernel
theorem dX8_thirst_61 : decode cX8_thirst 61 = .ok (.invokevirtual 166, 3) := by decide +kernel
theorem dX8_thirst_64 : decode cX8_thirst 64 = .ok (.ireturn, 1) := by decide +kernel
theorem dX8_thirst_65 : decode cX8_thirst 65 = .ok (.aload_n 0, 1) := by decide +kernel
theorem dX8_thirst_66 : decode cX8_thirst 66 = .ok (.getfield 30, 3) := by decide +kernel
theorem dX8_thirst_69 : decode cX8_thirst 69 = .ok (.invokevirtual 273, 3) := by decide +kernel
theorem dX8_thirst_72 : decode cX8_thirst 72 = .ok (.iinc 3 1, 3) := by decide +kernel
theorem dX8_thirst_75 : decode cX8_thirst 75 = .ok (.goto (-43), 3) := by decide +kernel
theorem dX8_thirst_78 : decode cX8_thirst 78 = .ok (.aload_n 0, 1) := by decide +kernel
theorem dX8_thirst_79 : decode cX8_thirst 79 = .ok (.bipush 8, 2) := by decide +kernel
theorem dX8_thirst_81 : decode cX8_thirst 81 = .ok (.invokevirtual 114, 3) := by decide +kernel
theorem dX8_thirst_84 : decode cX8_thirst 84 = .ok (.ireturn, 1) := by decide +kernel
def fX8_thirst_78 (l0 : Nat) : mM Int32 := bCallV 8 l0 (fX8_none l0 (8 : Int32)) (fun x1 => bRet x1)
set_option maxRecDepth 20000 in
theorem rX8_thirst_78 (v : mE) (d : Nat) (l0 : Nat) : Rz v RX8 cX8_thirst 4 (some .int) false emI (d + 6) 78 [(0, vR l0)] [] (fX8_thirst_78 l0) := by
  unfold fX8_thirst_78
  refine rz_aload_n 79 0 dX8_thirst_78 rfl rfl ?_
  refine rz_bipush 81 dX8_thirst_79 rfl cb_8 ?_
  refine rz_callV 84 dX8_thirst_81 rfl (tX8_none v (d + 5) l0 (8 : Int32)) rfl rfl rfl rfl ml_X8_114 im_X8_none se_X8_X8_none in_X8 co_X8_none rfl rfl (fun x1 => ?_)
  exact rz_ireturn rfl rfl dX8_thirst_84
def fX8_thirst_65 (r32 : Nat → Int32 → Int32 → Int32 → mM Int32) (l0 : Nat) (l1 : Int32) (l2 : Int32) (l3 : Int32) : mM Int32 := bGR 8 l0 4 (fun x1 => bCallV 7 x1 (fX7_passYear x1) (fun _ => r32 l0 l1 l2 (l3 + 1)))
set_option maxRecDepth 20000 in
theorem rX8_thirst_65 (v : mE) (d : Nat) (r32 : Nat → Int32 → Int32 → Int32 → mM Int32) (h32 : ∀ (y0 : Nat) (y1 : Int32) (y2 : Int32) (y3 : Int32), Rz v RX8 cX8_thirst 4 (some .int) false emI (d + 6) 32 [(0, vR y0), (1, vI y1), (2, vI y2), (3, vI y3)] [] (r32 y0 y1 y2 y3)) (l0 : Nat) (l1 : Int32) (l2 : Int32) (l3 : Int32) : Rz v RX8 cX8_thirst 4 (some .int) false emI (d + 6) 65 [(0, vR l0), (1, vI l1), (2, vI l2), (3, vI l3)] [] (fX8_thirst_65 r32 l0 l1 l2 l3) := by
  unfold fX8_thirst_65
  refine rz_aload_n 66 0 dX8_thirst_65 rfl rfl ?_
  refine rz_gR 69 dX8_thirst_66 rfl rfl fl_X8_30 (fun x1 => ?_)
  refine rz_callV 72 dX8_thirst_69 rfl (tX7_passYear v (d + 0) x1) rfl rfl rfl rfl ml_X8_273 im_X7_passYear se_X7_X7_passYear in_X7 co_X7_passYear rfl rfl (fun _ => ?_)
  refine rz_iinc (lv' := [(3, vI (l3 + 1)), (0, vR l0), (1, vI l1), (2, vI l2)]) 75 3 dX8_thirst_72 rfl rfl (cn_1 _) rfl rfl ?_
  refine rz_goto 32 dX8_thirst_75 rfl ?_
  exact rz_sub [1, 2, 3, 0] rfl (h32 l0 l1 l2 (l3 + 1))
def fX8_thirst_59 (l0 : Nat) (l3 : Int32) : mM Int32 := bCallV 8 l0 (fX8_tell l0 l3) (fun x1 => bRet x1)
set_option maxRecDepth 20000 in
theorem rX8_thirst_59 (v : mE) (d : Nat) (l0 : Nat) (l3 : Int32) : Rz v RX8 cX8_thirst 4 (some .int) false emI (d + 6) 59 [(0, vR l0), (3, vI l3)] [] (fX8_thirst_59 l0 l3) := by
  unfold fX8_thirst_59
  refine rz_aload_n 60 0 dX8_thirst_59 rfl rfl ?_
  refine rz_iload_n 61 1 dX8_thirst_60 rfl rfl ?_
  refine rz_callV 64 dX8_thirst_61 rfl (tX8_tell v (d + 5) l0 l3) rfl rfl rfl rfl ml_X8_166 im_X8_tell se_X8_X8_tell in_X8 co_X8_tell rfl rfl (fun x1 => ?_)
  exact rz_ireturn rfl rfl dX8_thirst_64
def fX8_thirst_32 : Nat → Nat → Int32 → Int32 → Int32 → mM Int32
  | 0 => fun _ _ _ _ => fun _ => none
  | n + 1 => fun l0 l1 l2 l3 => let r32 := fX8_thirst_32 n; bIf (l2 < l3) (fX8_thirst_78 l0) (bGR 8 l0 4 (fun x1 => bCallV 7 x1 (fX7_isAlive x1 l1) (fun x2 => bIf (x2 = 0) (fX8_thirst_65 r32 l0 l1 l2 l3) (bGR 8 l0 4 (fun x3 => bCallV 7 x3 (fX7_isDrinking x3 l1) (fun x4 => bIf (x4 = 0) (fX8_thirst_59 l0 l3) (fX8_thirst_65 r32 l0 l1 l2 l3)))))))
theorem qX8_thirst_32  (n : Nat) (l0 : Nat) (l1 : Int32) (l2 : Int32) (l3 : Int32) : fX8_thirst_32 (n + 1) l0 l1 l2 l3 = bIf (l2 < l3) (fX8_thirst_78 l0) (bGR 8 l0 4 (fun x1 => bCallV 7 x1 (fX7_isAlive x1 l1) (fun x2 => bIf (x2 = 0) (fX8_thirst_65 (fX8_thirst_32 n) l0 l1 l2 l3) (bGR 8 l0 4 (fun x3 => bCallV 7 x3 (fX7_isDrinking x3 l1) (fun x4 => bIf (x4 = 0) (fX8_thirst_59 l0 l3) (fX8_thirst_65 (fX8_thirst_32 n) l0 l1 l2 l3))))))) := rfl
set_option maxRecDepth 20000 in
theorem rX8_thirst_32 (v : mE) (d : Nat) : ∀ (n : Nat) (l0 : Nat) (l1 : Int32) (l2 : Int32) (l3 : Int32), Rz v RX8 cX8_thirst 4 (some .int) false emI (d + 6) 32 [(0, vR l0), (1, vI l1), (2, vI l2), (3, vI l3)] [] (fX8_thirst_32 n l0 l1 l2 l3)
  | 0, _, _, _, _ => fun _ _ _ hm => by cases hm
  | n + 1, l0, l1, l2, l3 => by
    have h32 := rX8_thirst_32 v d n
    unfold fX8_thirst_32
    generalize fX8_thirst_32 n = r32 at h32 ⊢
    refine rz_iload_n 33 3 dX8_thirst_32 rfl rfl ?_
    refine rz_iload_n 34 2 dX8_thirst_33 rfl rfl ?_
    refine rz_icmp_gt 78 37 dX8_thirst_34 rfl rfl ?_ ?_
    · exact rz_sub [0] rfl (rX8_thirst_78 v d l0)
    · refine rz_aload_n 38 0 dX8_thirst_37 rfl rfl ?_
      refine rz_gR 41 dX8_thirst_38 rfl rfl fl_X8_30 (fun x1 => ?_)
      refine rz_iload_n 42 1 dX8_thirst_41 rfl rfl ?_
      refine rz_callV 45 dX8_thirst_42 rfl (tX7_isAlive v (d + 5) x1 l1) rfl rfl rfl rfl ml_X8_220 im_X7_isAlive se_X7_X7_isAlive in_X7 co_X7_isAlive rfl rfl (fun x2 => ?_)
      refine rz_if_eq 65 48 dX8_thirst_45 rfl rfl ?_ ?_
      · exact rz_sub [0, 1, 2, 3] rfl (rX8_thirst_65 v d r32 h32 l0 l1 l2 l3)
      · refine rz_aload_n 49 0 dX8_thirst_48 rfl rfl ?_
        refine rz_gR 52 dX8_thirst_49 rfl rfl fl_X8_30 (fun x3 => ?_)
        refine rz_iload_n 53 1 dX8_thirst_52 rfl rfl ?_
        refine rz_callV 56 dX8_thirst_53 rfl (tX7_isDrinking v (d + 1) x3 l1) rfl rfl rfl rfl ml_X8_276 im_X7_isDrinking se_X7_X7_isDrinking in_X7 co_X7_isDrinking rfl rfl (fun x4 => ?_)
        refine rz_if_ne 65 59 dX8_thirst_56 rfl rfl ?_ ?_
        · exact rz_sub [0, 1, 2, 3] rfl (rX8_thirst_65 v d r32 h32 l0 l1 l2 l3)
        · exact rz_sub [0, 3] rfl (rX8_thirst_59 v d l0 l3)
def fX8_thirst (l0 : Nat) (l1 : Int32) : mM Int32 := bCallV 8 l0 (fX8_isPerson l0 l1) (fun x1 => bIf (x1 = 0) (bCallV 8 l0 (fX8_none l0 (2 : Int32)) (fun x5 => bRet x5)) (bGR 8 l0 4 (fun x2 => bGR 8 l0 3 (fun x3 => bCallV 7 x2 (fX7_copyFrom x2 x3) (fun _ => bCallV 8 l0 (fX8_yearsLeft l0) (fun x4 => fX8_thirst_32 fu l0 l1 x4 (0 : Int32)))))))
set_option maxRecDepth 20000 in
theorem rX8_thirst (v : mE) (d : Nat) (l0 : Nat) (l1 : Int32) : Rz v RX8 cX8_thirst 4 (some .int) false emI (d + 6) 0 [(0, vR l0), (1, vI l1)] [] (fX8_thirst l0 l1) := by
  unfold fX8_thirst
  refine rz_aload_n 1 0 dX8_thirst_0 rfl rfl ?_
  refine rz_iload_n 2 1 dX8_thirst_1 rfl rfl ?_
  refine rz_callV 5 dX8_thirst_2 rfl (tX8_isPerson v (d + 5) l0 l1) rfl rfl rfl rfl ml_X8_207 im_X8_isPerson se_X8_X8_isPerson in_X8 co_X8_isPerson rfl rfl (fun x1 => ?_)
  refine rz_if_ne 14 8 dX8_thirst_5 rfl rfl ?_ ?_
  · refine rz_aload_n 15 0 dX8_thirst_14 rfl rfl ?_
    refine rz_gR 18 dX8_thirst_15 rfl rfl fl_X8_30 (fun x2 => ?_)
    refine rz_aload_n 19 0 dX8_thirst_18 rfl rfl ?_
    refine rz_gR 22 dX8_thirst_19 rfl rfl fl_X8_26 (fun x3 => ?_)
    refine rz_callV 25 dX8_thirst_22 rfl (tX7_copyFrom v (d + 3) x2 x3) rfl rfl rfl rfl ml_X8_159 im_X7_copyFrom se_X7_X7_copyFrom in_X7 co_X7_copyFrom rfl rfl (fun _ => ?_)
    refine rz_aload_n 26 0 dX8_thirst_25 rfl rfl ?_
    refine rz_callV 29 dX8_thirst_26 rfl (tX8_yearsLeft v (d + 4) l0) rfl rfl rfl rfl ml_X8_288 im_X8_yearsLeft se_X8_X8_yearsLeft in_X8 co_X8_yearsLeft rfl rfl (fun x4 => ?_)
    refine rz_istore_n (lv' := [(2, vI x4), (0, vR l0), (1, vI l1)]) 30 dX8_thirst_29 rfl rfl rfl ?_
    refine rz_iconst 31 dX8_thirst_30 rfl ci_0 ?_
    refine rz_istore_n (lv' := [(3, vI (0 : Int32)), (2, vI x4), (0, vR l0), (1, vI l1)]) 32 dX8_thirst_31 rfl rfl rfl ?_
    exact rz_sub [2, 3, 1, 0] rfl (rX8_thirst_32 v d fu l0 l1 x4 (0 : Int32))
  · refine rz_aload_n 9 0 dX8_thirst_8 rfl rfl ?_
    refine rz_iconst 10 dX8_thirst_9 rfl ci_2 ?_
    refine rz_callV 13 dX8_thirst_10 rfl (tX8_none v (d + 5) l0 (2 : Int32)) rfl rfl rfl rfl ml_X8_114 im_X8_none se_X8_X8_none in_X8 co_X8_none rfl rfl (fun x5 => ?_)
    exact rz_ireturn rfl rfl dX8_thirst_13
theorem tX8_thirst (v : mE) (d : Nat) (l0 : Nat) (l1 : Int32) : Mt v yX8_thirst cX8_thirst 4 (some .int) emI (d + 6) [vR l0, vI l1] (fX8_thirst l0 l1) := mt_of rfl rfl (fun h => by cases h) rfl rfl (rX8_thirst v d l0 l1)
theorem dX8_last_0 : decode cX8_last 0 = .ok (.iload_n 1, 1) := by decide +kernel
theorem dX8_last_1 : decode cX8_last 1 = .ok (.ifCond .lt 8, 3) := by decide +kernel
theorem dX8_last_4 : decode cX8_last 4 = .ok (.iload_n 1, 1) := by decide +kernel
theorem dX8_last_5 : decode cX8_last 5 = .ok (.iconst 1, 1) := by decide +kernel
theorem dX8_last_6 : decode cX8_last 6 = .ok (.if_icmp .le 9, 3) := by decide +kernel
theorem dX8_last_9 : decode cX8_last 9 = .ok (.aload_n 0, 1) := by decide +kernel
theorem dX8_last_10 : decode cX8_last 10 = .ok (.iconst 5, 1) := by decide +kernel
theorem dX8_last_11 : decode cX8_last 11 = .ok (.invokevirtual 114, 3) := by decide +kernel
theorem dX8_last_14 : decode cX8_last 14 = .ok (.ireturn, 1) := by decide +kernel
theorem dX8_last_15 : decode cX8_last 15 = .ok (.aload_n 0, 1) := by decide +kernel
theorem dX8_last_16 : decode cX8_last 16 = .ok (.getfield 30, 3) := by decide +kernel
theorem dX8_last_19 : decode cX8_last 19 = .ok (.aload_n 0, 1) := by decide +kernel
theorem dX8_last_20 : decode cX8_last 20 = .ok (.getfield 26, 3) := by decide +kernel
theorem dX8_last_23 : decode cX8_last 23 = .ok (.invokevirtual 159, 3) := by decide +kernel
theorem dX8_last_26 : decode cX8_last 26 = .ok (.aload_n 0, 1) := by decide +kernel
theorem dX8_last_27 : decode cX8_last 27 = .ok (.invokevirtual 288, 3) := by decide +kernel
theorem dX8_last_30 : decode cX8_last 30 = .ok (.istore_n 2, 1) := by decide +kernel
theorem dX8_last_31 : decode cX8_last 31 = .ok (.iconst (-1), 1) := by decide +kernel
theorem dX8_last_32 : decode cX8_last 32 = .ok (.istore_n 3, 1) := by decide +kernel
theorem dX8_last_33 : decode cX8_last 33 = .ok (.iconst 0, 1) := by decide +kernel
theorem dX8_last_34 : decode cX8_last 34 = .ok (.istore 4, 2) := by decide +kernel
theorem dX8_last_36 : decode cX8_last 36 = .ok (.iconst 0, 1) := by decide +kernel
theorem dX8_last_37 : decode cX8_last 37 = .ok (.istore 5, 2) := by decide +kernel
theorem dX8_last_39 : decode cX8_last 39 = .ok (.iload 5, 2) := by decide +kernel
theorem dX8_last_41 : decode cX8_last 41 = .ok (.iload_n 2, 1) := by decide +kernel
theorem dX8_last_42 : decode cX8_last 42 = .ok (.if_icmp .gt 37, 3) := by decide +kernel
theorem dX8_last_45 : decode cX8_last 45 = .ok (.aload_n 0, 1) := by decide +kernel
theorem dX8_last_46 : decode cX8_last 46 = .ok (.getfield 30, 3) := by decide +kernel
theorem dX8_last_49 : decode cX8_last 49 = .ok (.invokevirtual 279, 3) := by decide +kernel
theorem dX8_last_52 : decode cX8_last 52 = .ok (.istore 6, 2) := by decide +kernel
theorem dX8_last_54 : decode cX8_last 54 = .ok (.iload 6, 2) := by decide +kernel
theorem dX8_last_56 : decode cX8_last 56 = .ok (.ifCond .eq 10, 3) := by decide +kernel
theorem dX8_last_59 : decode cX8_last 59 = .ok (.iload 5, 2) := by decide +kernel
theorem dX8_last_61 : decode cX8_last 61 = .ok (.istore_n 3, 1) := by decide +kernel
theorem dX8_last_62 : decode cX8_last 62 = .ok (.iload 6, 2) := by decide +kernel
theorem dX8_last_64 : decode cX8_last 64 = .ok (.istore 4, 2) := by decide +kernel
theorem dX8_last_66 : decode cX8_last 66 = .ok (.aload_n 0, 1) := by decide +kernel
theorem dX8_last_67 : decode cX8_last 67 = .ok (.getfield 30, 3) := by decide +kernel
theorem dX8_last_70 : decode cX8_last 70 = .ok (.invokevirtual 273, 3) := by decide +kernel
theorem dX8_last_73 : decode cX8_last 73 = .ok (.iinc 5 1, 3) := by decide +kernel
theorem dX8_last_76 : decode cX8_last 76 = .ok (.goto (-37), 3) := by decide +kernel
theorem dX8_last_79 : decode cX8_last 79 = .ok (.aload_n 0, 1) := by decide +kernel
theorem dX8_last_80 : decode cX8_last 80 = .ok (.iload_n 3, 1) := by decide +kernel
theorem dX8_last_81 : decode cX8_last 81 = .ok (.iconst (-1), 1) := by decide +kernel
theorem dX8_last_82 : decode cX8_last 82 = .ok (.if_icmp .eq 7, 3) := by decide +kernel
theorem dX8_last_85 : decode cX8_last 85 = .ok (.iconst 1, 1) := by decide +kernel
theorem dX8_last_86 : decode cX8_last 86 = .ok (.goto 4, 3) := by decide +kernel
theorem dX8_last_89 : decode cX8_last 89 = .ok (.iconst 0, 1) := by decide +kernel
theorem dX8_last_90 : decode cX8_last 90 = .ok (.iload_n 1, 1) := by decide +kernel
theorem dX8_last_91 : decode cX8_last 91 = .ok (.ifCond .ne 11, 3) := by decide +kernel
theorem dX8_last_94 : decode cX8_last 94 = .ok (.iload 4, 2) := by decide +kernel
theorem dX8_last_96 : decode cX8_last 96 = .ok (.invokestatic 291, 3) := by decide +kernel
theorem dX8_last_99 : decode cX8_last 99 = .ok (.goto 4, 3) := by decide +kernel
theorem dX8_last_102 : decode cX8_last 102 = .ok (.iload_n 3, 1) := by decide +kernel
theorem dX8_last_103 : decode cX8_last 103 = .ok (.invokevirtual 213, 3) := by decide +kernel
theorem dX8_last_106 : decode cX8_last 106 = .ok (.ireturn, 1) := by decide +kernel
def fX8_last_103 (s0 : Int32) (s1 : Int32) (s2 : Nat) : mM Int32 := bCallV 8 s2 (fX8_tellIf s2 s1 s0) (fun x1 => bRet x1)
set_option maxRecDepth 20000 in
theorem rX8_last_103 (v : mE) (d : Nat) (s0 : Int32) (s1 : Int32) (s2 : Nat) : Rz v RX8 cX8_last 7 (some .int) false emI (d + 6) 103 [] [vI s0, vI s1, vR s2] (fX8_last_103 s0 s1 s2) := by
  unfold fX8_last_103
  refine rz_callV 106 dX8_last_103 rfl (tX8_tellIf v (d + 4) s2 s1 s0) rfl rfl rfl rfl ml_X8_213 im_X8_tellIf se_X8_X8_tellIf in_X8 co_X8_tellIf rfl rfl (fun x1 => ?_)
  exact rz_ireturn rfl rfl dX8_last_106
def fX8_last_90 (l1 : Int32) (l3 : Int32) (l4 : Int32) (s0 : Int32) (s1 : Nat) : mM Int32 := bIf (l1 = 0) (bCall (fX7_leastOf l4) (fun x1 => fX8_last_103 x1 s0 s1)) (fX8_last_103 l3 s0 s1)
set_option maxRecDepth 20000 in
theorem rX8_last_90 (v : mE) (d : Nat) (l1 : Int32) (l3 : Int32) (l4 : Int32) (s0 : Int32) (s1 : Nat) : Rz v RX8 cX8_last 7 (some .int) false emI (d + 6) 90 [(1, vI l1), (3, vI l3), (4, vI l4)] [vI s0, vR s1] (fX8_last_90 l1 l3 l4 s0 s1) := by
  unfold fX8_last_90
  refine rz_iload_n 91 0 dX8_last_90 rfl rfl ?_
  refine rz_if_ne 102 94 dX8_last_91 rfl rfl ?_ ?_
  · refine rz_iload_n 103 1 dX8_last_102 rfl rfl ?_
    exact rz_sub [] rfl (rX8_last_103 v d l3 s0 s1)
  · refine rz_iload 96 2 dX8_last_94 rfl rfl ?_
    refine rz_callS 99 dX8_last_96 rfl (tX7_leastOf v (d + 5) l4) rfl rfl ml_X8_291 sm_X7_leastOf in_X7 co_X7_leastOf rfl rfl (fun x1 => ?_)
    refine rz_goto 103 dX8_last_99 rfl ?_
    exact rz_sub [] rfl (rX8_last_103 v d x1 s0 s1)
def fX8_last_79 (l0 : Nat) (l1 : Int32) (l3 : Int32) (l4 : Int32) : mM Int32 := bIf (l3 = (-1 : Int32)) (fX8_last_90 l1 l3 l4 (0 : Int32) l0) (fX8_last_90 l1 l3 l4 (1 : Int32) l0)
set_option maxRecDepth 20000 in
theorem rX8_last_79 (v : mE) (d : Nat) (l0 : Nat) (l1 : Int32) (l3 : Int32) (l4 : Int32) : Rz v RX8 cX8_last 7 (some .int) false emI (d + 6) 79 [(0, vR l0), (1, vI l1), (3, vI l3), (4, vI l4)] [] (fX8_last_79 l0 l1 l3 l4) := by
  unfold fX8_last_79
  refine rz_aload_n 80 0 dX8_last_79 rfl rfl ?_
  refine rz_iload_n 81 2 dX8_last_80 rfl rfl ?_
  refine rz_iconst 82 dX8_last_81 rfl ci_m1 ?_
  refine rz_icmp_eq 89 85 dX8_last_82 rfl rfl ?_ ?_
  · refine rz_iconst 90 dX8_last_89 rfl ci_0 ?_
    exact rz_sub [1, 2, 3] rfl (rX8_last_90 v d l1 l3 l4 (0 : Int32) l0)
  · refine rz_iconst 86 dX8_last_85 rfl ci_1 ?_
    refine rz_goto 90 dX8_last_86 rfl ?_
    exact rz_sub [1, 2, 3] rfl (rX8_last_90 v d l1 l3 l4 (1 : Int32) l0)
def fX8_last_66 (r39 : Nat → Int32 → Int32 → Int32 → Int32 → Int32 → mM Int32) (l0 : Nat) (l1 : Int32) (l2 : Int32) (l3 : Int32) (l4 : Int32) (l5 : Int32) : mM Int32 := bGR 8 l0 4 (fun x1 => bCallV 7 x1 (fX7_passYear x1) (fun _ => r39 l0 l1 l2 l3 l4 (l5 + 1)))
set_option maxRecDepth 20000 in
theorem rX8_last_66 (v : mE) (d : Nat) (r39 : Nat → Int32 → Int32 → Int32 → Int32 → Int32 → mM Int32) (h39 : ∀ (y0 : Nat) (y1 : Int32) (y2 : Int32) (y3 : Int32) (y4 : Int32) (y5 : Int32), Rz v RX8 cX8_last 7 (some .int) false emI (d + 6) 39 [(0, vR y0), (1, vI y1), (2, vI y2), (3, vI y3), (4, vI y4), (5, vI y5)] [] (r39 y0 y1 y2 y3 y4 y5)) (l0 : Nat) (l1 : Int32) (l2 : Int32) (l3 : Int32) (l4 : Int32) (l5 : Int32) : Rz v RX8 cX8_last 7 (some .int) false emI (d + 6) 66 [(0, vR l0), (1, vI l1), (2, vI l2), (3, vI l3), (4, vI l4), (5, vI l5)] [] (fX8_last_66 r39 l0 l1 l2 l3 l4 l5) := by
  unfold fX8_last_66
  refine rz_aload_n 67 0 dX8_last_66 rfl rfl ?_
  refine rz_gR 70 dX8_last_67 rfl rfl fl_X8_30 (fun x1 => ?_)
  refine rz_callV 73 dX8_last_70 rfl (tX7_passYear v (d + 0) x1) rfl rfl rfl rfl ml_X8_273 im_X7_passYear se_X7_X7_passYear in_X7 co_X7_passYear rfl rfl (fun _ => ?_)
  refine rz_iinc (lv' := [(5, vI (l5 + 1)), (0, vR l0), (1, vI l1), (2, vI l2), (3, vI l3), (4, vI l4)]) 76 5 dX8_last_73 rfl rfl (cn_1 _) rfl rfl ?_
  refine rz_goto 39 dX8_last_76 rfl ?_
  exact rz_sub [1, 2, 3, 4, 5, 0] rfl (h39 l0 l1 l2 l3 l4 (l5 + 1))
def fX8_last_39 : Nat → Nat → Int32 → Int32 → Int32 → Int32 → Int32 → mM Int32
  | 0 => fun _ _ _ _ _ _ => fun _ => none
  | n + 1 => fun l0 l1 l2 l3 l4 l5 => let r39 := fX8_last_39 n; bIf (l2 < l5) (fX8_last_79 l0 l1 l3 l4) (bGR 8 l0 4 (fun x1 => bCallV 7 x1 (fX7_drinkers x1) (fun x2 => bIf (x2 = 0) (fX8_last_66 r39 l0 l1 l2 l3 l4 l5) (fX8_last_66 r39 l0 l1 l2 l5 x2 l5))))
theorem qX8_last_39  (n : Nat) (l0 : Nat) (l1 : Int32) (l2 : Int32) (l3 : Int32) (l4 : Int32) (l5 : Int32) : fX8_last_39 (n + 1) l0 l1 l2 l3 l4 l5 = bIf (l2 < l5) (fX8_last_79 l0 l1 l3 l4) (bGR 8 l0 4 (fun x1 => bCallV 7 x1 (fX7_drinkers x1) (fun x2 => bIf (x2 = 0) (fX8_last_66 (fX8_last_39 n) l0 l1 l2 l3 l4 l5) (fX8_last_66 (fX8_last_39 n) l0 l1 l2 l5 x2 l5)))) := rfl
set_option maxRecDepth 20000 in
theorem rX8_last_39 (v : mE) (d : Nat) : ∀ (n : Nat) (l0 : Nat) (l1 : Int32) (l2 : Int32) (l3 : Int32) (l4 : Int32) (l5 : Int32), Rz v RX8 cX8_last 7 (some .int) false emI (d + 6) 39 [(0, vR l0), (1, vI l1), (2, vI l2), (3, vI l3), (4, vI l4), (5, vI l5)] [] (fX8_last_39 n l0 l1 l2 l3 l4 l5)
  | 0, _, _, _, _, _, _ => fun _ _ _ hm => by cases hm
  | n + 1, l0, l1, l2, l3, l4, l5 => by
    have h39 := rX8_last_39 v d n
    unfold fX8_last_39
    generalize fX8_last_39 n = r39 at h39 ⊢
    refine rz_iload 41 5 dX8_last_39 rfl rfl ?_
    refine rz_iload_n 42 2 dX8_last_41 rfl rfl ?_
    refine rz_icmp_gt 79 45 dX8_last_42 rfl rfl ?_ ?_
    · exact rz_sub [0, 1, 3, 4] rfl (rX8_last_79 v d l0 l1 l3 l4)
    · refine rz_aload_n 46 0 dX8_last_45 rfl rfl ?_
      refine rz_gR 49 dX8_last_46 rfl rfl fl_X8_30 (fun x1 => ?_)
      refine rz_callV 52 dX8_last_49 rfl (tX7_drinkers v (d + 2) x1) rfl rfl rfl rfl ml_X8_279 im_X7_drinkers se_X7_X7_drinkers in_X7 co_X7_drinkers rfl rfl (fun x2 => ?_)
      refine rz_istore (lv' := [(6, vI x2), (0, vR l0), (1, vI l1), (2, vI l2), (3, vI l3), (4, vI l4), (5, vI l5)]) 54 dX8_last_52 rfl rfl rfl ?_
      refine rz_iload 56 0 dX8_last_54 rfl rfl ?_
      refine rz_if_eq 66 59 dX8_last_56 rfl rfl ?_ ?_
      · exact rz_sub [1, 2, 3, 4, 5, 6] rfl (rX8_last_66 v d r39 h39 l0 l1 l2 l3 l4 l5)
      · refine rz_iload 61 6 dX8_last_59 rfl rfl ?_
        refine rz_istore_n (lv' := [(3, vI l5), (6, vI x2), (0, vR l0), (1, vI l1), (2, vI l2), (4, vI l4), (5, vI l5)]) 62 dX8_last_61 rfl rfl rfl ?_
        refine rz_iload 64 1 dX8_last_62 rfl rfl ?_
        refine rz_istore (lv' := [(4, vI x2), (3, vI l5), (6, vI x2), (0, vR l0), (1, vI l1), (2, vI l2), (5, vI l5)]) 66 dX8_last_64 rfl rfl rfl ?_
        exact rz_sub [3, 4, 5, 1, 0, 6] rfl (rX8_last_66 v d r39 h39 l0 l1 l2 l5 x2 l5)
def fX8_last_9 (l0 : Nat) : mM Int32 := bCallV 8 l0 (fX8_none l0 (5 : Int32)) (fun x1 => bRet x1)
set_option maxRecDepth 20000 in
theorem rX8_last_9 (v : mE) (d : Nat) (l0 : Nat) : Rz v RX8 cX8_last 7 (some .int) false emI (d + 6) 9 [(0, vR l0)] [] (fX8_last_9 l0) := by
  unfold fX8_last_9
  refine rz_aload_n 10 0 dX8_last_9 rfl rfl ?_
  refine rz_iconst 11 dX8_last_10 rfl ci_5 ?_
  refine rz_callV 14 dX8_last_11 rfl (tX8_none v (d + 5) l0 (5 : Int32)) rfl rfl rfl rfl ml_X8_114 im_X8_none se_X8_X8_none in_X8 co_X8_none rfl rfl (fun x1 => ?_)
  exact rz_ireturn rfl rfl dX8_last_14
def fX8_last (l0 : Nat) (l1 : Int32) : mM Int32 := bIf (l1 < 0) (fX8_last_9 l0) (bIf (l1 ≤ (1 : Int32)) (bGR 8 l0 4 (fun x1 => bGR 8 l0 3 (fun x2 => bCallV 7 x1 (fX7_copyFrom x1 x2) (fun _ => bCallV 8 l0 (fX8_yearsLeft l0) (fun x3 => fX8_last_39 fu l0 l1 x3 (-1 : Int32) (0 : Int32) (0 : Int32)))))) (fX8_last_9 l0))
set_option maxRecDepth 20000 in
theorem rX8_last (v : mE) (d : Nat) (l0 : Nat) (l1 : Int32) : Rz v RX8 cX8_last 7 (some .int) false emI (d + 6) 0 [(0, vR l0), (1, vI l1)] [] (fX8_last l0 l1) := by
  unfold fX8_last
  refine rz_iload_n 1 1 dX8_last_0 rfl rfl ?_
  refine rz_if_lt 9 4 dX8_last_1 rfl rfl ?_ ?_
  · exact rz_sub [0] rfl (rX8_last_9 v d l0)
  · refine rz_iload_n 5 1 dX8_last_4 rfl rfl ?_
    refine rz_iconst 6 dX8_last_5 rfl ci_1 ?_
    refine rz_icmp_le 15 9 dX8_last_6 rfl rfl ?_ ?_
    · refine rz_aload_n 16 0 dX8_last_15 rfl rfl ?_
      refine rz_gR 19 dX8_last_16 rfl rfl fl_X8_30 (fun x1 => ?_)
      refine rz_aload_n 20 0 dX8_last_19 rfl rfl ?_
      refine rz_gR 23 dX8_last_20 rfl rfl fl_X8_26 (fun x2 => ?_)
      refine rz_callV 26 dX8_last_23 rfl (tX7_copyFrom v (d + 3) x1 x2) rfl rfl rfl rfl ml_X8_159 im_X7_copyFrom se_X7_X7_copyFrom in_X7 co_X7_copyFrom rfl rfl (fun _ => ?_)
      refine rz_aload_n 27 0 dX8_last_26 rfl rfl ?_
      refine rz_callV 30 dX8_last_27 rfl (tX8_yearsLeft v (d + 4) l0) rfl rfl rfl rfl ml_X8_288 im_X8_yearsLeft se_X8_X8_yearsLeft in_X8 co_X8_yearsLeft rfl rfl (fun x3 => ?_)
      refine rz_istore_n (lv' := [(2, vI x3), (0, vR l0), (1, vI l1)]) 31 dX8_last_30 rfl rfl rfl ?_
      refine rz_iconst 32 dX8_last_31 rfl ci_m1 ?_
      refine rz_istore_n (lv' := [(3, vI (-1 : Int32)), (2, vI x3), (0, vR l0), (1, vI l1)]) 33 dX8_last_32 rfl rfl rfl ?_
      refine rz_iconst 34 dX8_last_33 rfl ci_0 ?_
      refine rz_istore (lv' := [(4, vI (0 : Int32)), (3, vI (-1 : Int32)), (2, vI x3), (0, vR l0), (1, vI l1)]) 36 dX8_last_34 rfl rfl rfl ?_
      refine rz_iconst 37 dX8_last_36 rfl ci_0 ?_
      refine rz_istore (lv' := [(5, vI (0 : Int32)), (4, vI (0 : Int32)), (3, vI (-1 : Int32)), (2, vI x3), (0, vR l0), (1, vI l1)]) 39 dX8_last_37 rfl rfl rfl ?_
      exact rz_sub [4, 5, 3, 2, 1, 0] rfl (rX8_last_39 v d fu l0 l1 x3 (-1 : Int32) (0 : Int32) (0 : Int32))
    · exact rz_sub [0] rfl (rX8_last_9 v d l0)
theorem tX8_last (v : mE) (d : Nat) (l0 : Nat) (l1 : Int32) : Mt v yX8_last cX8_last 7 (some .int) emI (d + 6) [vR l0, vI l1] (fX8_last l0 l1) := mt_of rfl rfl (fun h => by cases h) rfl rfl (rX8_last v d l0 l1)
theorem dX8_tellFraction_0 : decode cX8_tellFraction 0 = .ok (.lload_n 1, 1) := by decide +kernel
theorem dX8_tellFraction_1 : decode cX8_tellFraction 1 = .ok (.lstore 5, 2) := by decide +kernel
theorem dX8_tellFraction_3 : decode cX8_tellFraction 3 = .ok (.lload_n 3, 1) := by decide +kernel
theorem dX8_tellFraction_4 : decode cX8_tellFraction 4 = .ok (.lstore 7, 2) := by decide +kernel
theorem dX8_tellFraction_6 : decode cX8_tellFraction 6 = .ok (.iconst 0, 1) := by decide +kernel
theorem dX8_tellFraction_7 : decode cX8_tellFraction 7 = .ok (.istore 9, 2) := by decide +kernel
theorem dX8_tellFraction_9 : decode cX8_tellFraction 9 = .ok (.iload 9, 2) := by decide +kernel
theorem dX8_tellFraction_11 : decode cX8_tellFraction 11 = .ok (.sipush 200, 3) := by decide +kernel
theorem dX8_tellFraction_14 : decode cX8_tellFraction 14 = .ok (.if_icmp .ge 31, 3) := by decide +kernel
theorem dX8_tellFraction_17 : decode cX8_tellFraction 17 = .ok (.lload 7, 2) := by decide +kernel
theorem dX8_tellFraction_19 : decode cX8_tellFraction 19 = .ok (.lconst 0, 1) := by decide +kernel
theorem dX8_tellFraction_20 : decode cX8_tellFraction 20 = .ok (.lcmp, 1) := by decide +kernel
theorem dX8_tellFraction_21 : decode cX8_tellFraction 21 = .ok (.ifCond .eq 24, 3) := by decide +kernel
theorem dX8_tellFraction_24 : decode cX8_tellFraction 24 = .ok (.lload 5, 2) := by decide +kernel
theorem dX8_tellFraction_26 : decode cX8_tellFraction 26 = .ok (.lload 7, 2) := by decide +kernel
theorem dX8_tellFraction_28 : decode cX8_tellFraction 28 = .ok (.lrem, 1) := by decide +kernel
theorem dX8_tellFraction_29 : decode cX8_tellFraction 29 = .ok (.lstore 10, 2) := by decide +kernel
theorem dX8_tellFraction_31 : decode cX8_tellFraction 31 = .ok (.lload 7, 2) := by decide +kernel
theorem dX8_tellFraction_33 : decode cX8_tellFraction 33 = .ok (.lstore 5, 2) := by decide +kernel
theorem dX8_tellFraction_35 : decode cX8_tellFraction 35 = .ok (.lload 10, 2) := by decide +kernel
theorem dX8_tellFraction_37 : decode cX8_tellFraction 37 = .ok (.lstore 7, 2) := by decide +kernel
theorem dX8_tellFraction_39 : decode cX8_tellFraction 39 = .ok (.iinc 9 1, 3) := by decide +kernel
theorem dX8_tellFraction_42 : decode cX8_tellFraction 42 = .ok (.goto (-33), 3) := by decide +kernel
theorem dX8_tellFraction_45 : decode cX8_tellFraction 45 = .ok (.lload 5, 2) := by decide +kernel
theorem dX8_tellFraction_47 : decode cX8_tellFraction 47 = .ok (.lconst 0, 1) := by decide +kernel
theorem dX8_tellFraction_48 : decode cX8_tellFraction 48 = .ok (.lcmp, 1) := by decide +kernel
theorem dX8_tellFraction_49 : decode cX8_tellFraction 49 = .ok (.ifCond .le 19, 3) := by decide +kernel
theorem dX8_tellFraction_52 : decode cX8_tellFraction 52 = .ok (.aload_n 0, 1) := by decide +kernel
theorem dX8_tellFraction_53 : decode cX8_tellFraction 53 = .ok (.lload_n 1, 1) := by decide +kernel
theorem dX8_tellFraction_54 : decode cX8_tellFraction 54 = .ok (.lload 5, 2) := by decide +kernel
theorem dX8_tellFraction_56 : decode cX8_tellFraction 56 = .ok (.ldiv, 1) := by decide +kernel
theorem dX8_tellFraction_57 : decode cX8_tellFraction 57 = .ok (.putfield 54, 3) := by decide +kernel
theorem dX8_tellFraction_60 : decode cX8_tellFraction 60 = .ok (.aload_n 0, 1) := by decide +kernel
theorem dX8_tellFraction_61 : decode cX8_tellFraction 61 = .ok (.lload_n 3, 1) := by decide +kernel
theorem dX8_tellFraction_62 : decode cX8_tellFraction 62 = .ok (.lload 5, 2) := by decide +kernel
theorem dX8_tellFraction_64 : decode cX8_tellFraction 64 = .ok (.ldiv, 1) := by decide +kernel
theorem dX8_tellFraction_65 : decode cX8_tellFraction 65 = .ok (.putfield 58, 3) := by decide +kernel
theorem dX8_tellFraction_68 : decode cX8_tellFraction 68 = .ok (.aload_n 0, 1) := by decide +kernel
theorem dX8_tellFraction_69 : decode cX8_tellFraction 69 = .ok (.invokevirtual 102, 3) := by decide +kernel
theorem dX8_tellFraction_72 : decode cX8_tellFraction 72 = .ok (.ireturn, 1) := by decide +kernel
def fX8_tellFraction_68 (l0 : Nat) : mM Int32 := bCallV 8 l0 (fX8_accept l0) (fun x1 => bRetZ x1)
set_option maxRecDepth 20000 in
theorem rX8_tellFraction_68 (v : mE) (d : Nat) (l0 : Nat) : Rz v RX8 cX8_tellFraction 12 (some .boolean) false emI (d + 1) 68 [(0, vR l0)] [] (fX8_tellFraction_68 l0) := by
  unfold fX8_tellFraction_68
  refine rz_aload_n 69 0 dX8_tellFraction_68 rfl rfl ?_
  refine rz_callV 72 dX8_tellFraction_69 rfl (tX8_accept v (d + 0) l0) rfl rfl rfl rfl ml_X8_102 im_X8_accept se_X8_X8_accept in_X8 co_X8_accept rfl rfl (fun x1 => ?_)
  exact rz_zreturn rfl rfl dX8_tellFraction_72
def fX8_tellFraction_45 (l0 : Nat) (l1 : Int64) (l3 : Int64) (l5 : Int64) : mM Int32 := bIf ((lg_cmp l5 (0 : Int64)) ≤ 0) (fX8_tellFraction_68 l0) (bNl l5 (bPL 8 l0 12 (l1 / l5) (bNl l5 (bPL 8 l0 13 (l3 / l5) (fX8_tellFraction_68 l0)))))
set_option maxRecDepth 20000 in
theorem rX8_tellFraction_45 (v : mE) (d : Nat) (l0 : Nat) (l1 : Int64) (l3 : Int64) (l5 : Int64) : Rz v RX8 cX8_tellFraction 12 (some .boolean) false emI (d + 1) 45 [(0, vR l0), (1, vL l1), (3, vL l3), (5, vL l5)] [] (fX8_tellFraction_45 l0 l1 l3 l5) := by
  unfold fX8_tellFraction_45
  refine rz_lload 47 3 dX8_tellFraction_45 rfl rfl ?_
  refine rz_lconst 48 dX8_tellFraction_47 rfl cl_0 ?_
  refine rz_lcmp 49 dX8_tellFraction_48 rfl ?_
  refine rz_if_le 68 52 dX8_tellFraction_49 rfl rfl ?_ ?_
  · exact rz_sub [0] rfl (rX8_tellFraction_68 v d l0)
  · refine rz_aload_n 53 0 dX8_tellFraction_52 rfl rfl ?_
    refine rz_lload_n 54 1 dX8_tellFraction_53 rfl rfl ?_
    refine rz_lload 56 3 dX8_tellFraction_54 rfl rfl ?_
    refine rz_ldiv 57 dX8_tellFraction_56 rfl ?_
    refine rz_pL 60 dX8_tellFraction_57 rfl rfl rfl fl_X8_54 ?_
    refine rz_aload_n 61 0 dX8_tellFraction_60 rfl rfl ?_
    refine rz_lload_n 62 2 dX8_tellFraction_61 rfl rfl ?_
    refine rz_lload 64 3 dX8_tellFraction_62 rfl rfl ?_
    refine rz_ldiv 65 dX8_tellFraction_64 rfl ?_
    refine rz_pL 68 dX8_tellFraction_65 rfl rfl rfl fl_X8_58 ?_
    exact rz_sub [0] rfl (rX8_tellFraction_68 v d l0)
def fX8_tellFraction_9 : Nat → Nat → Int64 → Int64 → Int64 → Int64 → Int32 → mM Int32
  | 0 => fun _ _ _ _ _ _ => fun _ => none
  | n + 1 => fun l0 l1 l3 l5 l7 l9 => let r9 := fX8_tellFraction_9 n; bIf ((200 : Int32) ≤ l9) (fX8_tellFraction_45 l0 l1 l3 l5) (bIf ((lg_cmp l7 (0 : Int64)) = 0) (fX8_tellFraction_45 l0 l1 l3 l5) (bNl l7 (r9 l0 l1 l3 l7 (l5 - l5 / l7 * l7) (l9 + 1))))
theorem qX8_tellFraction_9  (n : Nat) (l0 : Nat) (l1 : Int64) (l3 : Int64) (l5 : Int64) (l7 : Int64) (l9 : Int32) : fX8_tellFraction_9 (n + 1) l0 l1 l3 l5 l7 l9 = bIf ((200 : Int32) ≤ l9) (fX8_tellFraction_45 l0 l1 l3 l5) (bIf ((lg_cmp l7 (0 : Int64)) = 0) (fX8_tellFraction_45 l0 l1 l3 l5) (bNl l7 ((fX8_tellFraction_9 n) l0 l1 l3 l7 (l5 - l5 / l7 * l7) (l9 + 1)))) := rfl
set_option maxRecDepth 20000 in
theorem rX8_tellFraction_9 (v : mE) (d : Nat) : ∀ (n : Nat) (l0 : Nat) (l1 : Int64) (l3 : Int64) (l5 : Int64) (l7 : Int64) (l9 : Int32), Rz v RX8 cX8_tellFraction 12 (some .boolean) false emI (d + 1) 9 [(0, vR l0), (1, vL l1), (3, vL l3), (5, vL l5), (7, vL l7), (9, vI l9)] [] (fX8_tellFraction_9 n l0 l1 l3 l5 l7 l9)
  | 0, _, _, _, _, _, _ => fun _ _ _ hm => by cases hm
  | n + 1, l0, l1, l3, l5, l7, l9 => by
    have h9 := rX8_tellFraction_9 v d n
    unfold fX8_tellFraction_9
    generalize fX8_tellFraction_9 n = r9 at h9 ⊢
    refine rz_iload 11 5 dX8_tellFraction_9 rfl rfl ?_
    refine rz_sipush 14 dX8_tellFraction_11 rfl cs_200 ?_
    refine rz_icmp_ge 45 17 dX8_tellFraction_14 rfl rfl ?_ ?_
    · exact rz_sub [0, 1, 2, 3] rfl (rX8_tellFraction_45 v d l0 l1 l3 l5)
    · refine rz_lload 19 4 dX8_tellFraction_17 rfl rfl ?_
      refine rz_lconst 20 dX8_tellFraction_19 rfl cl_0 ?_
      refine rz_lcmp 21 dX8_tellFraction_20 rfl ?_
      refine rz_if_eq 45 24 dX8_tellFraction_21 rfl rfl ?_ ?_
      · exact rz_sub [0, 1, 2, 3] rfl (rX8_tellFraction_45 v d l0 l1 l3 l5)
      · refine rz_lload 26 3 dX8_tellFraction_24 rfl rfl ?_
        refine rz_lload 28 4 dX8_tellFraction_26 rfl rfl ?_
        refine rz_lrem 29 dX8_tellFraction_28 rfl ?_
        refine rz_lstore (lv' := [(10, vL (l5 - l5 / l7 * l7)), (0, vR l0), (1, vL l1), (3, vL l3), (5, vL l5), (7, vL l7), (9, vI l9)]) 31 dX8_tellFraction_29 rfl rfl rfl ?_
        refine rz_lload 33 5 dX8_tellFraction_31 rfl rfl ?_
        refine rz_lstore (lv' := [(5, vL l7), (10, vL (l5 - l5 / l7 * l7)), (0, vR l0), (1, vL l1), (3, vL l3), (7, vL l7), (9, vI l9)]) 35 dX8_tellFraction_33 rfl rfl rfl ?_
        refine rz_lload 37 1 dX8_tellFraction_35 rfl rfl ?_
        refine rz_lstore (lv' := [(7, vL (l5 - l5 / l7 * l7)), (5, vL l7), (10, vL (l5 - l5 / l7 * l7)), (0, vR l0), (1, vL l1), (3, vL l3), (9, vI l9)]) 39 dX8_tellFraction_37 rfl rfl rfl ?_
        refine rz_iinc (lv' := [(9, vI (l9 + 1)), (7, vL (l5 - l5 / l7 * l7)), (5, vL l7), (10, vL (l5 - l5 / l7 * l7)), (0, vR l0), (1, vL l1), (3, vL l3)]) 42 6 dX8_tellFraction_39 rfl rfl (cn_1 _) rfl rfl ?_
        refine rz_goto 9 dX8_tellFraction_42 rfl ?_
        exact rz_sub [4, 5, 6, 2, 1, 0] rfl (h9 l0 l1 l3 l7 (l5 - l5 / l7 * l7) (l9 + 1))
def fX8_tellFraction (l0 : Nat) (l1 : Int64) (l3 : Int64) : mM Int32 := fX8_tellFraction_9 fu l0 l1 l3 l1 l3 (0 : Int32)
set_option maxRecDepth 20000 in
theorem rX8_tellFraction (v : mE) (d : Nat) (l0 : Nat) (l1 : Int64) (l3 : Int64) : Rz v RX8 cX8_tellFraction 12 (some .boolean) false emI (d + 1) 0 [(0, vR l0), (1, vL l1), (3, vL l3)] [] (fX8_tellFraction l0 l1 l3) := by
  unfold fX8_tellFraction
  refine rz_lload_n 1 1 dX8_tellFraction_0 rfl rfl ?_
  refine rz_lstore (lv' := [(5, vL l1), (0, vR l0), (1, vL l1), (3, vL l3)]) 3 dX8_tellFraction_1 rfl rfl rfl ?_
  refine rz_lload_n 4 3 dX8_tellFraction_3 rfl rfl ?_
  refine rz_lstore (lv' := [(7, vL l3), (5, vL l1), (0, vR l0), (1, vL l1), (3, vL l3)]) 6 dX8_tellFraction_4 rfl rfl rfl ?_
  refine rz_iconst 7 dX8_tellFraction_6 rfl ci_0 ?_
  refine rz_istore (lv' := [(9, vI (0 : Int32)), (7, vL l3), (5, vL l1), (0, vR l0), (1, vL l1), (3, vL l3)]) 9 dX8_tellFraction_7 rfl rfl rfl ?_
  exact rz_sub [3, 4, 5, 2, 1, 0] rfl (rX8_tellFraction_9 v d fu l0 l1 l3 l1 l3 (0 : Int32))
theorem tX8_tellFraction (v : mE) (d : Nat) (l0 : Nat) (l1 : Int64) (l3 : Int64) : Mt v yX8_tellFraction cX8_tellFraction 12 (some .boolean) emI (d + 1) [vR l0, vL l1, vL l3] (fX8_tellFraction l0 l1 l3) := mt_of rfl rfl (fun h => by cases h) rfl rfl (rX8_tellFraction v d l0 l1 l3)
theorem dX8_odds_0 : decode cX8_odds 0 = .ok (.aload_n 0, 1) := by decide +kernel
theorem dX8_odds_1 : decode cX8_odds 1 = .ok (.iload_n 1, 1) := by decide +kernel
theorem dX8_odds_2 : decode cX8_odds 2 = .ok (.invokevirtual 207, 3) := by decide +kernel
theorem dX8_odds_5 : decode cX8_odds 5 = .ok (.ifCond .ne 9, 3) := by decide +kernel
theorem dX8_odds_8 : decode cX8_odds 8 = .ok (.aload_n 0, 1) := by decide +kernel
theorem dX8_odds_9 : decode cX8_odds 9 = .ok (.iconst 2, 1) := by decide +kernel
theorem dX8_odds_10 : decode cX8_odds 10 = .ok (.invokevirtual 95, 3) := by decide +kernel
theorem dX8_odds_13 : decode cX8_odds 13 = .ok (.ireturn, 1) := by decide +kernel
theorem dX8_odds_14 : decode cX8_odds 14 = .ok (.aload_n 0, 1) := by decide +kernel
theorem dX8_odds_15 : decode cX8_odds 15 = .ok (.iload_n 2, 1) := by decide +kernel
theorem dX8_odds_16 : decode cX8_odds 16 = .ok (.invokevirtual 282, 3) := by decide +kernel
theorem dX8_odds_19 : decode cX8_odds 19 = .ok (.ifCond .eq 37, 3) := by decide +kernel
theorem dX8_odds_22 : decode cX8_odds 22 = .ok (.aload_n 0, 1) := by decide +kernel
theorem dX8_odds_23 : decode cX8_odds 23 = .ok (.iload_n 3, 1) := by decide +kernel
theorem dX8_odds_24 : decode cX8_odds 24 = .ok (.invokevirtual 270, 3) := by decide +kernel
theorem dX8_odds_27 : decode cX8_odds 27 = .ok (.ifCond .eq 29, 3) := by decide +kernel
theorem dX8_odds_30 : decode cX8_odds 30 = .ok (.iload 4, 2) := by decide +kernel
theorem dX8_odds_32 : decode cX8_odds 32 = .ok (.iconst 1, 1) := by decide +kernel
theorem dX8_odds_33 : decode cX8_odds 33 = .ok (.if_icmp .lt 23, 3) := by decide +kernel
theorem dX8_odds_36 : decode cX8_odds 36 = .ok (.iload 4, 2) := by decide +kernel
theorem dX8_odds_38 : decode cX8_odds 38 = .ok (.bipush 20, 2) := by decide +kernel
theorem dX8_odds_40 : decode cX8_odds 40 = .ok (.if_icmp .gt 16, 3) := by decide +kernel
theorem dX8_odds_43 : decode cX8_odds 43 = .ok (.aload_n 0, 1) := by decide +kernel
theorem dX8_odds_44 : decode cX8_odds 44 = .ok (.iload_n 3, 1) := by decide +kernel
theorem dX8_odds_45 : decode cX8_odds 45 = .ok (.iload 4, 2) := by decide +kernel
theorem dX8_odds_47 : decode cX8_odds 47 = .ok (.iadd, 1) := by decide +kernel
theorem dX8_odds_48 : decode cX8_odds 48 = .ok (.iconst 1, 1) := by decide +kernel
theorem dX8_odds_49 : decode cX8_odds 49 = .ok (.isub, 1) := by decide +kernel
theorem dX8_odds_50 : decode cX8_odds 50 = .ok (.invokevirtual 270, 3) := by decide +kernel
theorem dX8_odds_53 : decode cX8_odds 53 = .ok (.ifCond .ne 9, 3) := by decide +kernel
theorem dX8_odds_56 : decode cX8_odds 56 = .ok (.aload_n 0, 1) := by decide +kernel
theorem dX8_odds_57 : decode cX8_odds 57 = .ok (.iconst 5, 1) := by decide +kernel
theorem dX8_odds_58 : decode cX8_odds 58 = .ok (.invokevirtual 95, 3) := by decide +kernel
theorem dX8_odds_61 : decode cX8_odds 61 = .ok (.ireturn, 1) := by decide +kernel
theorem dX8_odds_62 : decode cX8_odds 62 = .ok (.iconst 0, 1) := by decide +kernel
theorem dX8_odds_63 : decode cX8_odds 63 = .ok (.istore 5, 2) := by decide +kernel
theorem dX8_odds_65 : decode cX8_odds 65 = .ok (.iconst 0, 1) := by decide +kernel
theorem dX8_odds_66 : decode cX8_odds 66 = .ok (.istore 6, 2) := by decide +kernel
theorem dX8_odds_68 : decode cX8_odds 68 = .ok (.iload 6, 2) := by decide +kernel
theorem dX8_odds_70 : decode cX8_odds 70 = .ok (.iload 4, 2) := by decide +kernel
theorem dX8_odds_72 : decode cX8_odds 72 = .ok (.if_icmp .ge 32, 3) := by decide +kernel
theorem dX8_odds_75 : decode cX8_odds 75 = .ok (.aload_n 0, 1) := by decide +kernel
theorem dX8_odds_76 : decode cX8_odds 76 = .ok (.iload_n 2, 1) := by decide +kernel
theorem dX8_odds_77 : decode cX8_odds 77 = .ok (.iload_n 3, 1) := by decide +kernel
theorem dX8_odds_78 : decode cX8_odds 78 = .ok (.iload 6, 2) := by decide +kernel
theorem dX8_odds_80 : decode cX8_odds 80 = .ok (.iadd, 1) := by decide +kernel
theorem dX8_odds_81 : decode cX8_odds 81 = .ok (.invokevirtual 285, 3) := by decide +kernel
theorem dX8_odds_84 : decode cX8_odds 84 = .ok (.aload_n 0, 1) := by decide +kernel
theorem dX8_odds_85 : decode cX8_odds 85 = .ok (.getfield 30, 3) := by decide +kernel
theorem dX8_odds_88 : decode cX8_odds 88 = .ok (.iload_n 1, 1) := by decide +kernel
theorem dX8_odds_89 : decode cX8_odds 89 = .ok (.invokevirtual 276, 3) := by decide +kernel
theorem dX8_odds_92 : decode cX8_odds 92 = .ok (.ifCond .eq 6, 3) := by decide +kernel
theorem dX8_odds_95 : decode cX8_odds 95 = .ok (.iinc 5 1, 3) := by decide +kernel
theorem dX8_odds_98 : decode cX8_odds 98 = .ok (.iinc 6 1, 3) := by decide +kernel
theorem dX8_odds_101 : decode cX8_odds 101 = .ok (.goto (-33), 3) := by decide +kernel
theorem dX8_odds_104 : decode cX8_odds 104 = .ok (.aload_n 0, 1) := by decide +kernel
theorem dX8_odds_105 : decode cX8_odds 105 = .ok (.iload 5, 2) := by decide +kernel
theorem dX8_odds_107 : decode cX8_odds 107 = .ok (.i2l, 1) := by decide +kernel
theorem dX8_odds_108 : decode cX8_odds 108 = .ok (.iload 4, 2) := by decide +kernel
theorem dX8_odds_110 : decode cX8_odds 110 = .ok (.i2l, 1) := by decide +kernel
theorem dX8_odds_111 : decode cX8_odds 111 = .ok (.invokevirtual 294, 3) := by decide +kernel
theorem dX8_odds_114 : decode cX8_odds 114 = .ok (.ireturn, 1) := by decide +kernel
def fX8_odds_104 (l0 : Nat) (l4 : Int32) (l5 : Int32) : mM Int32 := bCallV 8 l0 (fX8_tellFraction l0 (Int32.toInt64 l5) (Int32.toInt64 l4)) (fun x1 => bRetZ x1)
set_option maxRecDepth 20000 in
theorem rX8_odds_104 (v : mE) (d : Nat) (l0 : Nat) (l4 : Int32) (l5 : Int32) : Rz v RX8 cX8_odds 7 (some .boolean) false emI (d + 7) 104 [(0, vR l0), (4, vI l4), (5, vI l5)] [] (fX8_odds_104 l0 l4 l5) := by
  unfold fX8_odds_104
  refine rz_aload_n 105 0 dX8_odds_104 rfl rfl ?_
  refine rz_iload 107 2 dX8_odds_105 rfl rfl ?_
  refine rz_i2l 108 dX8_odds_107 rfl ?_
  refine rz_iload 110 1 dX8_odds_108 rfl rfl ?_
  refine rz_i2l 111 dX8_odds_110 rfl ?_
  refine rz_callV 114 dX8_odds_111 rfl (tX8_tellFraction v (d + 5) l0 (Int32.toInt64 l5) (Int32.toInt64 l4)) rfl rfl rfl rfl ml_X8_294 im_X8_tellFraction se_X8_X8_tellFraction in_X8 co_X8_tellFraction rfl rfl (fun x1 => ?_)
  exact rz_zreturn rfl rfl dX8_odds_114
def fX8_odds_68 : Nat → Nat → Int32 → Int32 → Int32 → Int32 → Int32 → Int32 → mM Int32
  | 0 => fun _ _ _ _ _ _ _ => fun _ => none
  | n + 1 => fun l0 l1 l2 l3 l4 l5 l6 => let r68 := fX8_odds_68 n; bIf (l4 ≤ l6) (fX8_odds_104 l0 l4 l5) (bCallV 8 l0 (fX8_lookAhead l0 l2 (l3 + l6)) (fun _ => bGR 8 l0 4 (fun x1 => bCallV 7 x1 (fX7_isDrinking x1 l1) (fun x2 => bIf (x2 = 0) (r68 l0 l1 l2 l3 l4 l5 (l6 + 1)) (r68 l0 l1 l2 l3 l4 (l5 + 1) (l6 + 1))))))
theorem qX8_odds_68  (n : Nat) (l0 : Nat) (l1 : Int32) (l2 : Int32) (l3 : Int32) (l4 : Int32) (l5 : Int32) (l6 : Int32) : fX8_odds_68 (n + 1) l0 l1 l2 l3 l4 l5 l6 = bIf (l4 ≤ l6) (fX8_odds_104 l0 l4 l5) (bCallV 8 l0 (fX8_lookAhead l0 l2 (l3 + l6)) (fun _ => bGR 8 l0 4 (fun x1 => bCallV 7 x1 (fX7_isDrinking x1 l1) (fun x2 => bIf (x2 = 0) ((fX8_odds_68 n) l0 l1 l2 l3 l4 l5 (l6 + 1)) ((fX8_odds_68 n) l0 l1 l2 l3 l4 (l5 + 1) (l6 + 1)))))) := rfl
set_option maxRecDepth 20000 in
theorem rX8_odds_68 (v : mE) (d : Nat) : ∀ (n : Nat) (l0 : Nat) (l1 : Int32) (l2 : Int32) (l3 : Int32) (l4 : Int32) (l5 : Int32) (l6 : Int32), Rz v RX8 cX8_odds 7 (some .boolean) false emI (d + 7) 68 [(0, vR l0), (1, vI l1), (2, vI l2), (3, vI l3), (4, vI l4), (5, vI l5), (6, vI l6)] [] (fX8_odds_68 n l0 l1 l2 l3 l4 l5 l6)
  | 0, _, _, _, _, _, _, _ => fun _ _ _ hm => by cases hm
  | n + 1, l0, l1, l2, l3, l4, l5, l6 => by
    have h68 := rX8_odds_68 v d n
    unfold fX8_odds_68
    generalize fX8_odds_68 n = r68 at h68 ⊢
    refine rz_iload 70 6 dX8_odds_68 rfl rfl ?_
    refine rz_iload 72 4 dX8_odds_70 rfl rfl ?_
    refine rz_icmp_ge 104 75 dX8_odds_72 rfl rfl ?_ ?_
    · exact rz_sub [0, 4, 5] rfl (rX8_odds_104 v d l0 l4 l5)
    · refine rz_aload_n 76 0 dX8_odds_75 rfl rfl ?_
      refine rz_iload_n 77 2 dX8_odds_76 rfl rfl ?_
      refine rz_iload_n 78 3 dX8_odds_77 rfl rfl ?_
      refine rz_iload 80 6 dX8_odds_78 rfl rfl ?_
      refine rz_iadd 81 dX8_odds_80 rfl ?_
      refine rz_callV 84 dX8_odds_81 rfl (tX8_lookAhead v (d + 0) l0 l2 (l3 + l6)) rfl rfl rfl rfl ml_X8_285 im_X8_lookAhead se_X8_X8_lookAhead in_X8 co_X8_lookAhead rfl rfl (fun _ => ?_)
      refine rz_aload_n 85 0 dX8_odds_84 rfl rfl ?_
      refine rz_gR 88 dX8_odds_85 rfl rfl fl_X8_30 (fun x1 => ?_)
      refine rz_iload_n 89 1 dX8_odds_88 rfl rfl ?_
      refine rz_callV 92 dX8_odds_89 rfl (tX7_isDrinking v (d + 2) x1 l1) rfl rfl rfl rfl ml_X8_276 im_X7_isDrinking se_X7_X7_isDrinking in_X7 co_X7_isDrinking rfl rfl (fun x2 => ?_)
      refine rz_if_eq 98 95 dX8_odds_92 rfl rfl ?_ ?_
      · refine rz_iinc (lv' := [(6, vI (l6 + 1)), (0, vR l0), (1, vI l1), (2, vI l2), (3, vI l3), (4, vI l4), (5, vI l5)]) 101 6 dX8_odds_98 rfl rfl (cn_1 _) rfl rfl ?_
        refine rz_goto 68 dX8_odds_101 rfl ?_
        exact rz_sub [1, 2, 3, 4, 5, 6, 0] rfl (h68 l0 l1 l2 l3 l4 l5 (l6 + 1))
      · refine rz_iinc (lv' := [(5, vI (l5 + 1)), (0, vR l0), (1, vI l1), (2, vI l2), (3, vI l3), (4, vI l4), (6, vI l6)]) 98 5 dX8_odds_95 rfl rfl (cn_1 _) rfl rfl ?_
        refine rz_iinc (lv' := [(6, vI (l6 + 1)), (5, vI (l5 + 1)), (0, vR l0), (1, vI l1), (2, vI l2), (3, vI l3), (4, vI l4)]) 101 6 dX8_odds_98 rfl rfl (cn_1 _) rfl rfl ?_
        refine rz_goto 68 dX8_odds_101 rfl ?_
        exact rz_sub [2, 3, 4, 5, 6, 1, 0] rfl (h68 l0 l1 l2 l3 l4 (l5 + 1) (l6 + 1))
def fX8_odds_56 (l0 : Nat) : mM Int32 := bCallV 8 l0 (fX8_refuse l0 (5 : Int32)) (fun x1 => bRetZ x1)
set_option maxRecDepth 20000 in
theorem rX8_odds_56 (v : mE) (d : Nat) (l0 : Nat) : Rz v RX8 cX8_odds 7 (some .boolean) false emI (d + 7) 56 [(0, vR l0)] [] (fX8_odds_56 l0) := by
  unfold fX8_odds_56
  refine rz_aload_n 57 0 dX8_odds_56 rfl rfl ?_
  refine rz_iconst 58 dX8_odds_57 rfl ci_5 ?_
  refine rz_callV 61 dX8_odds_58 rfl (tX8_refuse v (d + 6) l0 (5 : Int32)) rfl rfl rfl rfl ml_X8_95 im_X8_refuse se_X8_X8_refuse in_X8 co_X8_refuse rfl rfl (fun x1 => ?_)
  exact rz_zreturn rfl rfl dX8_odds_61
def fX8_odds (l0 : Nat) (l1 : Int32) (l2 : Int32) (l3 : Int32) (l4 : Int32) : mM Int32 := bCallV 8 l0 (fX8_isPerson l0 l1) (fun x1 => bIf (x1 = 0) (bCallV 8 l0 (fX8_refuse l0 (2 : Int32)) (fun x5 => bRetZ x5)) (bCallV 8 l0 (fX8_isAhead l0 l2) (fun x2 => bIf (x2 = 0) (fX8_odds_56 l0) (bCallV 8 l0 (fX8_isSeed l0 l3) (fun x3 => bIf (x3 = 0) (fX8_odds_56 l0) (bIf (l4 < (1 : Int32)) (fX8_odds_56 l0) (bIf ((20 : Int32) < l4) (fX8_odds_56 l0) (bCallV 8 l0 (fX8_isSeed l0 ((l3 + l4) - (1 : Int32))) (fun x4 => bIf (x4 = 0) (fX8_odds_56 l0) (fX8_odds_68 fu l0 l1 l2 l3 l4 (0 : Int32) (0 : Int32)))))))))))
set_option maxRecDepth 20000 in
theorem rX8_odds (v : mE) (d : Nat) (l0 : Nat) (l1 : Int32) (l2 : Int32) (l3 : Int32) (l4 : Int32) : Rz v RX8 cX8_odds 7 (some .boolean) false emI (d + 7) 0 [(0, vR l0), (1, vI l1), (2, vI l2), (3, vI l3), (4, vI l4)] [] (fX8_odds l0 l1 l2 l3 l4) := by
  unfold fX8_odds
  refine rz_aload_n 1 0 dX8_odds_0 rfl rfl ?_
  refine rz_iload_n 2 1 dX8_odds_1 rfl rfl ?_
  refine rz_callV 5 dX8_odds_2 rfl (tX8_isPerson v (d + 6) l0 l1) rfl rfl rfl rfl ml_X8_207 im_X8_isPerson se_X8_X8_isPerson in_X8 co_X8_isPerson rfl rfl (fun x1 => ?_)
  refine rz_if_ne 14 8 dX8_odds_5 rfl rfl ?_ ?_
  · refine rz_aload_n 15 0 dX8_odds_14 rfl rfl ?_
    refine rz_iload_n 16 2 dX8_odds_15 rfl rfl ?_
    refine rz_callV 19 dX8_odds_16 rfl (tX8_isAhead v (d + 4) l0 l2) rfl rfl rfl rfl ml_X8_282 im_X8_isAhead se_X8_X8_isAhead in_X8 co_X8_isAhead rfl rfl (fun x2 => ?_)
    refine rz_if_eq 56 22 dX8_odds_19 rfl rfl ?_ ?_
    · exact rz_sub [0] rfl (rX8_odds_56 v d l0)
    · refine rz_aload_n 23 0 dX8_odds_22 rfl rfl ?_
      refine rz_iload_n 24 3 dX8_odds_23 rfl rfl ?_
      refine rz_callV 27 dX8_odds_24 rfl (tX8_isSeed v (d + 6) l0 l3) rfl rfl rfl rfl ml_X8_270 im_X8_isSeed se_X8_X8_isSeed in_X8 co_X8_isSeed rfl rfl (fun x3 => ?_)
      refine rz_if_eq 56 30 dX8_odds_27 rfl rfl ?_ ?_
      · exact rz_sub [0] rfl (rX8_odds_56 v d l0)
      · refine rz_iload 32 4 dX8_odds_30 rfl rfl ?_
        refine rz_iconst 33 dX8_odds_32 rfl ci_1 ?_
        refine rz_icmp_lt 56 36 dX8_odds_33 rfl rfl ?_ ?_
        · exact rz_sub [0] rfl (rX8_odds_56 v d l0)
        · refine rz_iload 38 4 dX8_odds_36 rfl rfl ?_
          refine rz_bipush 40 dX8_odds_38 rfl cb_20 ?_
          refine rz_icmp_gt 56 43 dX8_odds_40 rfl rfl ?_ ?_
          · exact rz_sub [0] rfl (rX8_odds_56 v d l0)
          · refine rz_aload_n 44 0 dX8_odds_43 rfl rfl ?_
            refine rz_iload_n 45 3 dX8_odds_44 rfl rfl ?_
            refine rz_iload 47 4 dX8_odds_45 rfl rfl ?_
            refine rz_iadd 48 dX8_odds_47 rfl ?_
            refine rz_iconst 49 dX8_odds_48 rfl ci_1 ?_
            refine rz_isub 50 dX8_odds_49 rfl ?_
            refine rz_callV 53 dX8_odds_50 rfl (tX8_isSeed v (d + 6) l0 ((l3 + l4) - (1 : Int32))) rfl rfl rfl rfl ml_X8_270 im_X8_isSeed se_X8_X8_isSeed in_X8 co_X8_isSeed rfl rfl (fun x4 => ?_)
            refine rz_if_ne 62 56 dX8_odds_53 rfl rfl ?_ ?_
            · refine rz_iconst 63 dX8_odds_62 rfl ci_0 ?_
              refine rz_istore (lv' := [(5, vI (0 : Int32)), (0, vR l0), (1, vI l1), (2, vI l2), (3, vI l3), (4, vI l4)]) 65 dX8_odds_63 rfl rfl rfl ?_
              refine rz_iconst 66 dX8_odds_65 rfl ci_0 ?_
              refine rz_istore (lv' := [(6, vI (0 : Int32)), (5, vI (0 : Int32)), (0, vR l0), (1, vI l1), (2, vI l2), (3, vI l3), (4, vI l4)]) 68 dX8_odds_66 rfl rfl rfl ?_
              exact rz_sub [2, 3, 4, 5, 6, 1, 0] rfl (rX8_odds_68 v d fu l0 l1 l2 l3 l4 (0 : Int32) (0 : Int32))
            · exact rz_sub [0] rfl (rX8_odds_56 v d l0)
  · refine rz_aload_n 9 0 dX8_odds_8 rfl rfl ?_
    refine rz_iconst 10 dX8_odds_9 rfl ci_2 ?_
    refine rz_callV 13 dX8_odds_10 rfl (tX8_refuse v (d + 6) l0 (2 : Int32)) rfl rfl rfl rfl ml_X8_95 im_X8_refuse se_X8_X8_refuse in_X8 co_X8_refuse rfl rfl (fun x5 => ?_)
    exact rz_zreturn rfl rfl dX8_odds_13
theorem tX8_odds (v : mE) (d : Nat) (l0 : Nat) (l1 : Int32) (l2 : Int32) (l3 : Int32) (l4 : Int32) : Mt v yX8_odds cX8_odds 7 (some .boolean) emI (d + 7) [vR l0, vI l1, vI l2, vI l3, vI l4] (fX8_odds l0 l1 l2 l3 l4) := mt_of rfl rfl (fun h => by cases h) rfl rfl (rX8_odds v d l0 l1 l2 l3 l4)
theorem dX8_knot_0 : decode cX8_knot 0 = .ok (.aload_n 0, 1) := by decide +kernel
theorem dX8_knot_1 : decode cX8_knot 1 = .ok (.iload_n 1, 1) := by decide +kernel
theorem dX8_knot_2 : decode cX8_knot 2 = .ok (.invokevirtual 232, 3) := by decide +kernel
theorem dX8_knot_5 : decode cX8_knot 5 = .ok (.ifCond .eq 16, 3) := by decide +kernel
theorem dX8_knot_8 : decode cX8_knot 8 = .ok (.aload_n 0, 1) := by decide +kernel
theorem dX8_knot_9 : decode cX8_knot 9 = .ok (.iload_n 2, 1) := by decide +kernel
theorem dX8_knot_10 : decode cX8_knot 10 = .ok (.invokevirtual 232, 3) := by decide +kernel
theorem dX8_knot_13 : decode cX8_knot 13 = .ok (.ifCond .eq 8, 3) := by decide +kernel
theorem dX8_knot_16 : decode cX8_knot 16 = .ok (.iload_n 1, 1) := by decide +kernel
theorem dX8_knot_17 : decode cX8_knot 17 = .ok (.iload_n 2, 1) := by decide +kernel
theorem dX8_knot_18 : decode cX8_knot 18 = .ok (.if_icmp .ne 9, 3) := by decide +kernel
theorem dX8_knot_21 : decode cX8_knot 21 = .ok (.aload_n 0, 1) := by decide +kernel
theorem dX8_knot_22 : decode cX8_knot 22 = .ok (.iconst 2, 1) := by decide +kernel
theorem dX8_knot_23 : decode cX8_knot 23 = .ok (.invokevirtual 114, 3) := by decide +kernel
theorem dX8_knot_26 : decode cX8_knot 26 = .ok (.ireturn, 1) := by decide +kernel
theorem dX8_knot_27 : decode cX8_knot 27 = .ok (.aload_n 0, 1) := by decide +kernel
theorem dX8_knot_28 : decode cX8_knot 28 = .ok (.getfield 26, 3) := by decide +kernel
theorem dX8_knot_31 : decode cX8_knot 31 = .ok (.getfield 235, 3) := by decide +kernel
theorem dX8_knot_34 : decode cX8_knot 34 = .ok (.iload_n 1, 1) := by decide +kernel
theorem dX8_knot_35 : decode cX8_knot 35 = .ok (.aaload, 1) := by decide +kernel
theorem dX8_knot_36 : decode cX8_knot 36 = .ok (.astore_n 3, 1) := by decide +kernel
theorem dX8_knot_37 : decode cX8_knot 37 = .ok (.aload_n 0, 1) := by decide +kernel
theorem dX8_knot_38 : decode cX8_knot 38 = .ok (.getfield 26, 3) := by decide +kernel
theorem dX8_knot_41 : decode cX8_knot 41 = .ok (.getfield 235, 3) := by decide +kernel
theorem dX8_knot_44 : decode cX8_knot 44 = .ok (.iload_n 2, 1) := by decide +kernel
theorem dX8_knot_45 : decode cX8_knot 45 = .ok (.aaload, 1) := by decide +kernel
theorem dX8_knot_46 : decode cX8_knot 46 = .ok (.astore 4, 2) := by decide +kernel
theorem dX8_knot_48 : decode cX8_knot 48 = .ok (.aload_n 3, 1) := by decide +kernel
theorem dX8_knot_49 : decode cX8_knot 49 = .ok (.getfield 247, 3) := by decide +kernel
theorem dX8_knot_52 : decode cX8_knot 52 = .ok (.aload 4, 2) := by decide +kernel
theorem dX8_knot_54 : decode cX8_knot 54 = .ok (.getfield 247, 3) := by decide +kernel
theorem dX8_knot_57 : decode cX8_knot 57 = .ok (.iadd, 1) := by decide +kernel
theorem dX8_knot_58 : decode cX8_knot 58 = .ok (.bipush 8, 2) := by decide +kernel
theorem dX8_knot_60 : decode cX8_knot 60 = .ok (.if_icmp .le 10, 3) := by decide +kernel
theorem dX8_knot_63 : decode cX8_knot 63 = .ok (.aload_n 0, 1) := by decide +kernel
theorem dX8_knot_64 : decode cX8_knot 64 = .ok (.bipush 7, 2) := by decide +kernel
theorem dX8_knot_66 : decode cX8_knot 66 = .ok (.invokevirtual 114, 3) := by decide +kernel
theorem dX8_knot_69 : decode cX8_knot 69 = .ok (.ireturn, 1) := by decide +kernel
theorem dX8_knot_70 : decode cX8_knot 70 = .ok (.aload_n 3, 1) := by decide +kernel
theorem dX8_knot_71 : decode cX8_knot 71 = .ok (.getfield 239, 3) := by decide +kernel
theorem dX8_knot_74 : decode cX8_knot 74 = .ok (.aload 4, 2) := by decide +kernel
theorem dX8_knot_76 : decode cX8_knot 76 = .ok (.getfield 239, 3) := by decide +kernel
theorem dX8_knot_79 : decode cX8_knot 79 = .ok (.if_icmp .ne 18, 3) := by decide +kernel
theorem dX8_knot_82 : decode cX8_knot 82 = .ok (.aload_n 3, 1) := by decide +kernel
theorem dX8_knot_83 : decode cX8_knot 83 = .ok (.invokevirtual 303, 3) := by decide +kernel
theorem dX8_knot_86 : decode cX8_knot 86 = .ok (.ifCond .eq 11, 3) := by decide +kernel
theorem dX8_knot_89 : decode cX8_knot 89 = .ok (.aload 4, 2) := by decide +kernel
theorem dX8_knot_91 : decode cX8_knot 91 = .ok (.invokevirtual 303, 3) := by decide +kernel
theorem dX8_knot_94 : decode cX8_knot 94 = .ok (.ifCond .ne 10, 3) := by decide +kernel
theorem dX8_knot_97 : decode cX8_knot 97 = .ok (.aload_n 0, 1) := by decide +kernel
theorem dX8_knot_98 : decode cX8_knot 98 = .ok (.bipush 9, 2) := by decide +kernel
theorem dX8_knot_100 : decode cX8_knot 100 = .ok (.invokevirtual 114, 3) := by decide +kernel
theorem dX8_knot_103 : decode cX8_knot 103 = .ok (.ireturn, 1) := by decide +kernel
theorem dX8_knot_104 : decode cX8_knot 104 = .ok (.aload_n 3, 1) := by decide +kernel
theorem dX8_knot_105 : decode cX8_knot 105 = .ok (.aload 4, 2) := by decide +kernel
theorem dX8_knot_107 : decode cX8_knot 107 = .ok (.invokevirtual 306, 3) := by decide +kernel
theorem dX8_knot_110 : decode cX8_knot 110 = .ok (.aload_n 0, 1) := by decide +kernel
theorem dX8_knot_111 : decode cX8_knot 111 = .ok (.aload_n 3, 1) := by decide +kernel
theorem dX8_knot_112 : decode cX8_knot 112 = .ok (.getfield 247, 3) := by decide +kernel
theorem dX8_knot_115 : decode cX8_knot 115 = .ok (.invokevirtual 166, 3) := by decide +kernel
theorem dX8_knot_118 : decode cX8_knot 118 = .ok (.ireturn, 1) := by decide +kernel
def fX8_knot_97 (l0 : Nat) : mM Int32 := bCallV 8 l0 (fX8_none l0 (9 : Int32)) (fun x1 => bRet x1)
set_option maxRecDepth 20000 in
theorem rX8_knot_97 (v : mE) (d : Nat) (l0 : Nat) : Rz v RX8 cX8_knot 5 (some .int) false emI (d + 2) 97 [(0, vR l0)] [] (fX8_knot_97 l0) := by
  unfold fX8_knot_97
  refine rz_aload_n 98 0 dX8_knot_97 rfl rfl ?_
  refine rz_bipush 100 dX8_knot_98 rfl cb_9 ?_
  refine rz_callV 103 dX8_knot_100 rfl (tX8_none v (d + 1) l0 (9 : Int32)) rfl rfl rfl rfl ml_X8_114 im_X8_none se_X8_X8_none in_X8 co_X8_none rfl rfl (fun x1 => ?_)
  exact rz_ireturn rfl rfl dX8_knot_103
def fX8_knot_21 (l0 : Nat) : mM Int32 := bCallV 8 l0 (fX8_none l0 (2 : Int32)) (fun x1 => bRet x1)
set_option maxRecDepth 20000 in
theorem rX8_knot_21 (v : mE) (d : Nat) (l0 : Nat) : Rz v RX8 cX8_knot 5 (some .int) false emI (d + 2) 21 [(0, vR l0)] [] (fX8_knot_21 l0) := by
  unfold fX8_knot_21
  refine rz_aload_n 22 0 dX8_knot_21 rfl rfl ?_
  refine rz_iconst 23 dX8_knot_22 rfl ci_2 ?_
  refine rz_callV 26 dX8_knot_23 rfl (tX8_none v (d + 1) l0 (2 : Int32)) rfl rfl rfl rfl ml_X8_114 im_X8_none se_X8_X8_none in_X8 co_X8_none rfl rfl (fun x1 => ?_)
  exact rz_ireturn rfl rfl dX8_knot_26
def fX8_knot (l0 : Nat) (l1 : Int32) (l2 : Int32) : mM Int32 := bCallV 8 l0 (fX8_isRope l0 l1) (fun x1 => bIf (x1 = 0) (fX8_knot_21 l0) (bCallV 8 l0 (fX8_isRope l0 l2) (fun x2 => bIf (x2 = 0) (fX8_knot_21 l0) (bIf (l1 = l2) (fX8_knot_21 l0) (bGR 8 l0 3 (fun x3 => bGR 7 x3 10 (fun x4 => bAR 14 x4 l1 (fun x5 => bGR 8 l0 3 (fun x6 => bGR 7 x6 10 (fun x7 => bAR 14 x7 l2 (fun x8 => bGI 3 x5 2 (fun x9 => bGI 3 x8 2 (fun x10 => bIf ((x9 + x10) ≤ (8 : Int32)) (bGI 3 x5 0 (fun x11 => bGI 3 x8 0 (fun x12 => bIf (x11 = x12) (bCallV 3 x5 (fX3_isFree x5) (fun x13 => bIf (x13 = 0) (fX8_knot_97 l0) (bCallV 3 x8 (fX3_isFree x8) (fun x14 => bIf (x14 = 0) (fX8_knot_97 l0) (bCallV 3 x5 (fX3_tieOn x5 x8) (fun _ => bGI 3 x5 2 (fun x15 => bCallV 8 l0 (fX8_tell l0 x15) (fun x16 => bRet x16)))))))) (fX8_knot_97 l0)))) (bCallV 8 l0 (fX8_none l0 (7 : Int32)) (fun x17 => bRet x17)))))))))))))))
set_option maxRecDepth 20000 in
theorem rX8_knot (v : mE) (d : Nat) (l0 : Nat) (l1 : Int32) (l2 : Int32) : Rz v RX8 cX8_knot 5 (some .int) false emI (d + 2) 0 [(0, vR l0), (1, vI l1), (2, vI l2)] [] (fX8_knot l0 l1 l2) := by
  unfold fX8_knot
  refine rz_aload_n 1 0 dX8_knot_0 rfl rfl ?_
  refine rz_iload_n 2 1 dX8_knot_1 rfl rfl ?_
  refine rz_callV 5 dX8_knot_2 rfl (tX8_isRope v (d + 0) l0 l1) rfl rfl rfl rfl ml_X8_232 im_X8_isRope se_X8_X8_isRope in_X8 co_X8_isRope rfl rfl (fun x1 => ?_)
  refine rz_if_eq 21 8 dX8_knot_5 rfl rfl ?_ ?_
  · exact rz_sub [0] rfl (rX8_knot_21 v d l0)
  · refine rz_aload_n 9 0 dX8_knot_8 rfl rfl ?_
    refine rz_iload_n 10 2 dX8_knot_9 rfl rfl ?_
    refine rz_callV 13 dX8_knot_10 rfl (tX8_isRope v (d + 0) l0 l2) rfl rfl rfl rfl ml_X8_232 im_X8_isRope se_X8_X8_isRope in_X8 co_X8_isRope rfl rfl (fun x2 => ?_)
    refine rz_if_eq 21 16 dX8_knot_13 rfl rfl ?_ ?_
    · exact rz_sub [0] rfl (rX8_knot_21 v d l0)
    · refine rz_iload_n 17 1 dX8_knot_16 rfl rfl ?_
      refine rz_iload_n 18 2 dX8_knot_17 rfl rfl ?_
      refine rz_icmp_ne 27 21 dX8_knot_18 rfl rfl ?_ ?_
      · refine rz_aload_n 28 0 dX8_knot_27 rfl rfl ?_
        refine rz_gR 31 dX8_knot_28 rfl rfl fl_X8_26 (fun x3 => ?_)
        refine rz_gR 34 dX8_knot_31 rfl rfl fl_X8_235 (fun x4 => ?_)
        refine rz_iload_n 35 1 dX8_knot_34 rfl rfl ?_
        refine rz_aald 36 dX8_knot_35 rfl (by decide) (fun x5 => ?_)
        refine rz_astore_n (lv' := [(3, vR x5), (0, vR l0), (1, vI l1), (2, vI l2)]) 37 dX8_knot_36 rfl rfl rfl ?_
        refine rz_aload_n 38 1 dX8_knot_37 rfl rfl ?_
        refine rz_gR 41 dX8_knot_38 rfl rfl fl_X8_26 (fun x6 => ?_)
        refine rz_gR 44 dX8_knot_41 rfl rfl fl_X8_235 (fun x7 => ?_)
        refine rz_iload_n 45 3 dX8_knot_44 rfl rfl ?_
        refine rz_aald 46 dX8_knot_45 rfl (by decide) (fun x8 => ?_)
        refine rz_astore (lv' := [(4, vR x8), (3, vR x5), (0, vR l0), (1, vI l1), (2, vI l2)]) 48 dX8_knot_46 rfl rfl rfl ?_
        refine rz_aload_n 49 1 dX8_knot_48 rfl rfl ?_
        refine rz_gI 52 dX8_knot_49 rfl rfl fl_X8_247 (fun x9 => ?_)
        refine rz_aload 54 0 dX8_knot_52 rfl rfl ?_
        refine rz_gI 57 dX8_knot_54 rfl rfl fl_X8_247 (fun x10 => ?_)
        refine rz_iadd 58 dX8_knot_57 rfl ?_
        refine rz_bipush 60 dX8_knot_58 rfl cb_8 ?_
        refine rz_icmp_le 70 63 dX8_knot_60 rfl rfl ?_ ?_
        · refine rz_aload_n 71 1 dX8_knot_70 rfl rfl ?_
          refine rz_gI 74 dX8_knot_71 rfl rfl fl_X8_239 (fun x11 => ?_)
          refine rz_aload 76 0 dX8_knot_74 rfl rfl ?_
          refine rz_gI 79 dX8_knot_76 rfl rfl fl_X8_239 (fun x12 => ?_)
          refine rz_icmp_ne 97 82 dX8_knot_79 rfl rfl ?_ ?_
          · exact rz_sub [2] rfl (rX8_knot_97 v d l0)
          · refine rz_aload_n 83 1 dX8_knot_82 rfl rfl ?_
            refine rz_callV 86 dX8_knot_83 rfl (tX3_isFree v (d + 1) x5) rfl rfl rfl rfl ml_X8_303 im_X3_isFree se_X3_X3_isFree in_X3 co_X3_isFree rfl rfl (fun x13 => ?_)
            refine rz_if_eq 97 89 dX8_knot_86 rfl rfl ?_ ?_
            · exact rz_sub [2] rfl (rX8_knot_97 v d l0)
            · refine rz_aload 91 0 dX8_knot_89 rfl rfl ?_
              refine rz_callV 94 dX8_knot_91 rfl (tX3_isFree v (d + 1) x8) rfl rfl rfl rfl ml_X8_303 im_X3_isFree se_X3_X3_isFree in_X3 co_X3_isFree rfl rfl (fun x14 => ?_)
              refine rz_if_ne 104 97 dX8_knot_94 rfl rfl ?_ ?_
              · refine rz_aload_n 105 1 dX8_knot_104 rfl rfl ?_
                refine rz_aload 107 0 dX8_knot_105 rfl rfl ?_
                refine rz_callV 110 dX8_knot_107 rfl (tX3_tieOn v (d + 0) x5 x8) rfl rfl rfl rfl ml_X8_306 im_X3_tieOn se_X3_X3_tieOn in_X3 co_X3_tieOn rfl rfl (fun _ => ?_)
                refine rz_aload_n 111 2 dX8_knot_110 rfl rfl ?_
                refine rz_aload_n 112 1 dX8_knot_111 rfl rfl ?_
                refine rz_gI 115 dX8_knot_112 rfl rfl fl_X8_247 (fun x15 => ?_)
                refine rz_callV 118 dX8_knot_115 rfl (tX8_tell v (d + 1) l0 x15) rfl rfl rfl rfl ml_X8_166 im_X8_tell se_X8_X8_tell in_X8 co_X8_tell rfl rfl (fun x16 => ?_)
                exact rz_ireturn rfl rfl dX8_knot_118
              · exact rz_sub [2] rfl (rX8_knot_97 v d l0)
        · refine rz_aload_n 64 2 dX8_knot_63 rfl rfl ?_
          refine rz_bipush 66 dX8_knot_64 rfl cb_7 ?_
          refine rz_callV 69 dX8_knot_66 rfl (tX8_none v (d + 1) l0 (7 : Int32)) rfl rfl rfl rfl ml_X8_114 im_X8_none se_X8_X8_none in_X8 co_X8_none rfl rfl (fun x17 => ?_)
          exact rz_ireturn rfl rfl dX8_knot_69
      · exact rz_sub [0] rfl (rX8_knot_21 v d l0)
theorem tX8_knot (v : mE) (d : Nat) (l0 : Nat) (l1 : Int32) (l2 : Int32) : Mt v yX8_knot cX8_knot 5 (some .int) emI (d + 2) [vR l0, vI l1, vI l2] (fX8_knot l0 l1 l2) := mt_of rfl rfl (fun h => by cases h) rfl rfl (rX8_knot v d l0 l1 l2)
theorem dX8_part_0 : decode cX8_part 0 = .ok (.aload_n 0, 1) := by decide +kernel
theorem dX8_part_1 : decode cX8_part 1 = .ok (.getfield 26, 3) := by decide +kernel
theorem dX8_part_4 : decode cX8_part 4 = .ok (.invokevirtual 317, 3) := by decide +kernel
theorem dX8_part_7 : decode cX8_part 7 = .ok (.istore_n 3, 1) := by decide +kernel
theorem dX8_part_8 : decode cX8_part 8 = .ok (.iload_n 3, 1) := by decide +kernel
theorem dX8_part_9 : decode cX8_part 9 = .ok (.iconst (-1), 1) := by decide +kernel
theorem dX8_part_10 : decode cX8_part 10 = .ok (.if_icmp .ne 10, 3) := by decide +kernel
theorem dX8_part_13 : decode cX8_part 13 = .ok (.aload_n 0, 1) := by decide +kernel
theorem dX8_part_14 : decode cX8_part 14 = .ok (.bipush 7, 2) := by decide +kernel
theorem dX8_part_16 : decode cX8_part 16 = .ok (.invokevirtual 114, 3) := by decide +kernel
theorem dX8_part_19 : decode cX8_part 19 = .ok (.ireturn, 1) := by decide +kernel
theorem dX8_part_20 : decode cX8_part 20 = .ok (.aload_n 1, 1) := by decide +kernel
theorem dX8_part_21 : decode cX8_part 21 = .ok (.invokevirtual 303, 3) := by decide +kernel
theorem dX8_part_24 : decode cX8_part 24 = .ok (.ifCond .ne 10, 3) := by decide +kernel
theorem dX8_part_27 : decode cX8_part 27 = .ok (.aload_n 0, 1) := by decide +kernel
theorem dX8_part_28 : decode cX8_part 28 = .ok (.bipush 9, 2) := by decide +kernel
theorem dX8_part_30 : decode cX8_part 30 = .ok (.invokevirtual 114, 3) := by decide +kernel
theorem dX8_part_33 : decode cX8_part 33 = .ok (.ireturn, 1) := by decide +kernel
theorem dX8_part_34 : decode cX8_part 34 = .ok (.aload_n 1, 1) := by decide +kernel
theorem dX8_part_35 : decode cX8_part 35 = .ok (.iload_n 2, 1) := by decide +kernel
theorem dX8_part_36 : decode cX8_part 36 = .ok (.aload_n 0, 1) := by decide +kernel
theorem dX8_part_37 : decode cX8_part 37 = .ok (.getfield 26, 3) := by decide +kernel
theorem dX8_part_40 : decode cX8_part 40 = .ok (.getfield 235, 3) := by decide +kernel
theorem dX8_part_43 : decode cX8_part 43 = .ok (.iload_n 3, 1) := by decide +kernel
theorem dX8_part_44 : decode cX8_part 44 = .ok (.aaload, 1) := by decide +kernel
theorem dX8_part_45 : decode cX8_part 45 = .ok (.invokevirtual 320, 3) := by decide +kernel
theorem dX8_part_48 : decode cX8_part 48 = .ok (.aload_n 0, 1) := by decide +kernel
theorem dX8_part_49 : decode cX8_part 49 = .ok (.iload_n 3, 1) := by decide +kernel
theorem dX8_part_50 : decode cX8_part 50 = .ok (.invokevirtual 166, 3) := by decide +kernel
theorem dX8_part_53 : decode cX8_part 53 = .ok (.ireturn, 1) := by decide +kernel
def fX8_part (l0 : Nat) (l1 : Nat) (l2 : Int32) : mM Int32 := bGR 8 l0 3 (fun x1 => bCallV 7 x1 (fX7_freeRope x1) (fun x2 => bIf (x2 = (-1 : Int32)) (bCallV 8 l0 (fX8_none l0 (7 : Int32)) (fun x9 => bRet x9)) (bCallV 3 l1 (fX3_isFree l1) (fun x3 => bIf (x3 = 0) (bCallV 8 l0 (fX8_none l0 (9 : Int32)) (fun x8 => bRet x8)) (bGR 8 l0 3 (fun x4 => bGR 7 x4 10 (fun x5 => bAR 14 x5 x2 (fun x6 => bCallV 3 l1 (fX3_splitAt l1 l2 x6) (fun _ => bCallV 8 l0 (fX8_tell l0 x2) (fun x7 => bRet x7))))))))))
set_option maxRecDepth 20000 in
theorem rX8_part (v : mE) (d : Nat) (l0 : Nat) (l1 : Nat) (l2 : Int32) : Rz v RX8 cX8_part 4 (some .int) false emI (d + 2) 0 [(0, vR l0), (1, vR l1), (2, vI l2)] [] (fX8_part l0 l1 l2) := by
  unfold fX8_part
  refine rz_aload_n 1 0 dX8_part_0 rfl rfl ?_
  refine rz_gR 4 dX8_part_1 rfl rfl fl_X8_26 (fun x1 => ?_)
  refine rz_callV 7 dX8_part_4 rfl (tX7_freeRope v (d + 0) x1) rfl rfl rfl rfl ml_X8_317 im_X7_freeRope se_X7_X7_freeRope in_X7 co_X7_freeRope rfl rfl (fun x2 => ?_)
  refine rz_istore_n (lv' := [(3, vI x2), (0, vR l0), (1, vR l1), (2, vI l2)]) 8 dX8_part_7 rfl rfl rfl ?_
  refine rz_iload_n 9 0 dX8_part_8 rfl rfl ?_
  refine rz_iconst 10 dX8_part_9 rfl ci_m1 ?_
  refine rz_icmp_ne 20 13 dX8_part_10 rfl rfl ?_ ?_
  · refine rz_aload_n 21 2 dX8_part_20 rfl rfl ?_
    refine rz_callV 24 dX8_part_21 rfl (tX3_isFree v (d + 1) l1) rfl rfl rfl rfl ml_X8_303 im_X3_isFree se_X3_X3_isFree in_X3 co_X3_isFree rfl rfl (fun x3 => ?_)
    refine rz_if_ne 34 27 dX8_part_24 rfl rfl ?_ ?_
    · refine rz_aload_n 35 2 dX8_part_34 rfl rfl ?_
      refine rz_iload_n 36 3 dX8_part_35 rfl rfl ?_
      refine rz_aload_n 37 1 dX8_part_36 rfl rfl ?_
      refine rz_gR 40 dX8_part_37 rfl rfl fl_X8_26 (fun x4 => ?_)
      refine rz_gR 43 dX8_part_40 rfl rfl fl_X8_235 (fun x5 => ?_)
      refine rz_iload_n 44 0 dX8_part_43 rfl rfl ?_
      refine rz_aald 45 dX8_part_44 rfl (by decide) (fun x6 => ?_)
      refine rz_callV 48 dX8_part_45 rfl (tX3_splitAt v (d + 0) l1 l2 x6) rfl rfl rfl rfl ml_X8_320 im_X3_splitAt se_X3_X3_splitAt in_X3 co_X3_splitAt rfl rfl (fun _ => ?_)
      refine rz_aload_n 49 1 dX8_part_48 rfl rfl ?_
      refine rz_iload_n 50 0 dX8_part_49 rfl rfl ?_
      refine rz_callV 53 dX8_part_50 rfl (tX8_tell v (d + 1) l0 x2) rfl rfl rfl rfl ml_X8_166 im_X8_tell se_X8_X8_tell in_X8 co_X8_tell rfl rfl (fun x7 => ?_)
      exact rz_ireturn rfl rfl dX8_part_53
    · refine rz_aload_n 28 1 dX8_part_27 rfl rfl ?_
      refine rz_bipush 30 dX8_part_28 rfl cb_9 ?_
      refine rz_callV 33 dX8_part_30 rfl (tX8_none v (d + 1) l0 (9 : Int32)) rfl rfl rfl rfl ml_X8_114 im_X8_none se_X8_X8_none in_X8 co_X8_none rfl rfl (fun x8 => ?_)
      exact rz_ireturn rfl rfl dX8_part_33
  · refine rz_aload_n 14 1 dX8_part_13 rfl rfl ?_
    refine rz_bipush 16 dX8_part_14 rfl cb_7 ?_
    refine rz_callV 19 dX8_part_16 rfl (tX8_none v (d + 1) l0 (7 : Int32)) rfl rfl rfl rfl ml_X8_114 im_X8_none se_X8_X8_none in_X8 co_X8_none rfl rfl (fun x9 => ?_)
    exact rz_ireturn rfl rfl dX8_part_19
theorem tX8_part (v : mE) (d : Nat) (l0 : Nat) (l1 : Nat) (l2 : Int32) : Mt v yX8_part cX8_part 4 (some .int) emI (d + 2) [vR l0, vR l1, vI l2] (fX8_part l0 l1 l2) := mt_of rfl rfl (fun h => by cases h) rfl rfl (rX8_part v d l0 l1 l2)
theorem dX8_undo_0 : decode cX8_undo 0 = .ok (.aload_n 0, 1) := by decide +kernel
theorem dX8_undo_1 : decode cX8_undo 1 = .ok (.iload_n 1, 1) := by decide +kernel
theorem dX8_undo_2 : decode cX8_undo 2 = .ok (.invokevirtual 232, 3) := by decide +kernel
theorem dX8_undo_5 : decode cX8_undo 5 = .ok (.ifCond .ne 9, 3) := by decide +kernel
theorem dX8_undo_8 : decode cX8_undo 8 = .ok (.aload_n 0, 1) := by decide +kernel
theorem dX8_undo_9 : decode cX8_undo 9 = .ok (.iconst 2, 1) := by decide +kernel
theorem dX8_undo_10 : decode cX8_undo 10 = .ok (.invokevirtual 114, 3) := by decide +kernel
theorem dX8_undo_13 : decode cX8_undo 13 = .ok (.ireturn, 1) := by decide +kernel
theorem dX8_undo_14 : decode cX8_undo 14 = .ok (.aload_n 0, 1) := by decide +kernel
theorem dX8_undo_15 : decode cX8_undo 15 = .ok (.getfield 26, 3) := by decide +kernel
theorem dX8_undo_18 : decode cX8_undo 18 = .ok (.getfield 235, 3) := by decide +kernel
theorem dX8_undo_21 : decode cX8_undo 21 = .ok (.iload_n 1, 1) := by decide +kernel
theorem dX8_undo_22 : decode cX8_undo 22 = .ok (.aaload, 1) := by decide +kernel
theorem dX8_undo_23 : decode cX8_undo 23 = .ok (.astore_n 3, 1) := by decide +kernel
theorem dX8_undo_24 : decode cX8_undo 24 = .ok (.iload_n 2, 1) := by decide +kernel
theorem dX8_undo_25 : decode cX8_undo 25 = .ok (.iconst 1, 1) := by decide +kernel
theorem dX8_undo_26 : decode cX8_undo 26 = .ok (.if_icmp .lt 11, 3) := by decide +kernel
theorem dX8_undo_29 : decode cX8_undo 29 = .ok (.iload_n 2, 1) := by decide +kernel
theorem dX8_undo_30 : decode cX8_undo 30 = .ok (.aload_n 3, 1) := by decide +kernel
theorem dX8_undo_31 : decode cX8_undo 31 = .ok (.getfield 247, 3) := by decide +kernel
theorem dX8_undo_34 : decode cX8_undo 34 = .ok (.if_icmp .lt 9, 3) := by decide +kernel
theorem dX8_undo_37 : decode cX8_undo 37 = .ok (.aload_n 0, 1) := by decide +kernel
theorem dX8_undo_38 : decode cX8_undo 38 = .ok (.iconst 5, 1) := by decide +kernel
theorem dX8_undo_39 : decode cX8_undo 39 = .ok (.invokevirtual 114, 3) := by decide +kernel
theorem dX8_undo_42 : decode cX8_undo 42 = .ok (.ireturn, 1) := by decide +kernel
theorem dX8_undo_43 : decode cX8_undo 43 = .ok (.aload_n 0, 1) := by decide +kernel
theorem dX8_undo_44 : decode cX8_undo 44 = .ok (.aload_n 3, 1) := by decide +kernel
theorem dX8_undo_45 : decode cX8_undo 45 = .ok (.aload_n 3, 1) := by decide +kernel
theorem dX8_undo_46 : decode cX8_undo 46 = .ok (.iload_n 2, 1) := by decide +kernel
theorem dX8_undo_47 : decode cX8_undo 47 = .ok (.invokevirtual 310, 3) := by decide +kernel
theorem dX8_undo_50 : decode cX8_undo 50 = .ok (.invokevirtual 313, 3) := by decide +kernel
theorem dX8_undo_53 : decode cX8_undo 53 = .ok (.ireturn, 1) := by decide +kernel
def fX8_undo_37 (l0 : Nat) : mM Int32 := bCallV 8 l0 (fX8_none l0 (5 : Int32)) (fun x1 => bRet x1)
set_option maxRecDepth 20000 in
theorem rX8_undo_37 (v : mE) (d : Nat) (l0 : Nat) : Rz v RX8 cX8_undo 4 (some .int) false emI (d + 3) 37 [(0, vR l0)] [] (fX8_undo_37 l0) := by
  unfold fX8_undo_37
  refine rz_aload_n 38 0 dX8_undo_37 rfl rfl ?_
  refine rz_iconst 39 dX8_undo_38 rfl ci_5 ?_
  refine rz_callV 42 dX8_undo_39 rfl (tX8_none v (d + 2) l0 (5 : Int32)) rfl rfl rfl rfl ml_X8_114 im_X8_none se_X8_X8_none in_X8 co_X8_none rfl rfl (fun x1 => ?_)
  exact rz_ireturn rfl rfl dX8_undo_42
def fX8_undo (l0 : Nat) (l1 : Int32) (l2 : Int32) : mM Int32 := bCallV 8 l0 (fX8_isRope l0 l1) (fun x1 => bIf (x1 = 0) (bCallV 8 l0 (fX8_none l0 (2 : Int32)) (fun x8 => bRet x8)) (bGR 8 l0 3 (fun x2 => bGR 7 x2 10 (fun x3 => bAR 14 x3 l1 (fun x4 => bIf (l2 < (1 : Int32)) (fX8_undo_37 l0) (bGI 3 x4 2 (fun x5 => bIf (l2 < x5) (bCallV 3 x4 (fX3_lengthOf x4 l2) (fun x6 => bCallV 8 l0 (fX8_part l0 x4 x6) (fun x7 => bRet x7))) (fX8_undo_37 l0))))))))
set_option maxRecDepth 20000 in
theorem rX8_undo (v : mE) (d : Nat) (l0 : Nat) (l1 : Int32) (l2 : Int32) : Rz v RX8 cX8_undo 4 (some .int) false emI (d + 3) 0 [(0, vR l0), (1, vI l1), (2, vI l2)] [] (fX8_undo l0 l1 l2) := by
  unfold fX8_undo
  refine rz_aload_n 1 0 dX8_undo_0 rfl rfl ?_
  refine rz_iload_n 2 1 dX8_undo_1 rfl rfl ?_
  refine rz_callV 5 dX8_undo_2 rfl (tX8_isRope v (d + 1) l0 l1) rfl rfl rfl rfl ml_X8_232 im_X8_isRope se_X8_X8_isRope in_X8 co_X8_isRope rfl rfl (fun x1 => ?_)
  refine rz_if_ne 14 8 dX8_undo_5 rfl rfl ?_ ?_
  · refine rz_aload_n 15 0 dX8_undo_14 rfl rfl ?_
    refine rz_gR 18 dX8_undo_15 rfl rfl fl_X8_26 (fun x2 => ?_)
    refine rz_gR 21 dX8_undo_18 rfl rfl fl_X8_235 (fun x3 => ?_)
    refine rz_iload_n 22 1 dX8_undo_21 rfl rfl ?_
    refine rz_aald 23 dX8_undo_22 rfl (by decide) (fun x4 => ?_)
    refine rz_astore_n (lv' := [(3, vR x4), (0, vR l0), (1, vI l1), (2, vI l2)]) 24 dX8_undo_23 rfl rfl rfl ?_
    refine rz_iload_n 25 3 dX8_undo_24 rfl rfl ?_
    refine rz_iconst 26 dX8_undo_25 rfl ci_1 ?_
    refine rz_icmp_lt 37 29 dX8_undo_26 rfl rfl ?_ ?_
    · exact rz_sub [1] rfl (rX8_undo_37 v d l0)
    · refine rz_iload_n 30 3 dX8_undo_29 rfl rfl ?_
      refine rz_aload_n 31 0 dX8_undo_30 rfl rfl ?_
      refine rz_gI 34 dX8_undo_31 rfl rfl fl_X8_247 (fun x5 => ?_)
      refine rz_icmp_lt 43 37 dX8_undo_34 rfl rfl ?_ ?_
      · refine rz_aload_n 44 1 dX8_undo_43 rfl rfl ?_
        refine rz_aload_n 45 0 dX8_undo_44 rfl rfl ?_
        refine rz_aload_n 46 0 dX8_undo_45 rfl rfl ?_
        refine rz_iload_n 47 3 dX8_undo_46 rfl rfl ?_
        refine rz_callV 50 dX8_undo_47 rfl (tX3_lengthOf v (d + 2) x4 l2) rfl rfl rfl rfl ml_X8_310 im_X3_lengthOf se_X3_X3_lengthOf in_X3 co_X3_lengthOf rfl rfl (fun x6 => ?_)
        refine rz_callV 53 dX8_undo_50 rfl (tX8_part v (d + 0) l0 x4 x6) rfl rfl rfl rfl ml_X8_313 im_X8_part se_X8_X8_part in_X8 co_X8_part rfl rfl (fun x7 => ?_)
        exact rz_ireturn rfl rfl dX8_undo_53
      · exact rz_sub [1] rfl (rX8_undo_37 v d l0)
  · refine rz_aload_n 9 0 dX8_undo_8 rfl rfl ?_
    refine rz_iconst 10 dX8_undo_9 rfl ci_2 ?_
    refine rz_callV 13 dX8_undo_10 rfl (tX8_none v (d + 2) l0 (2 : Int32)) rfl rfl rfl rfl ml_X8_114 im_X8_none se_X8_X8_none in_X8 co_X8_none rfl rfl (fun x8 => ?_)
    exact rz_ireturn rfl rfl dX8_undo_13
theorem tX8_undo (v : mE) (d : Nat) (l0 : Nat) (l1 : Int32) (l2 : Int32) : Mt v yX8_undo cX8_undo 4 (some .int) emI (d + 3) [vR l0, vI l1, vI l2] (fX8_undo l0 l1 l2) := mt_of rfl rfl (fun h => by cases h) rfl rfl (rX8_undo v d l0 l1 l2)
theorem dX8_cut_0 : decode cX8_cut 0 = .ok (.aload_n 0, 1) := by decide +kernel
theorem dX8_cut_1 : decode cX8_cut 1 = .ok (.iload_n 1, 1) := by decide +kernel
theorem dX8_cut_2 : decode cX8_cut 2 = .ok (.invokevirtual 232, 3) := by decide +kernel
theorem dX8_cut_5 : decode cX8_cut 5 = .ok (.ifCond .ne 9, 3) := by decide +kernel
theorem dX8_cut_8 : decode cX8_cut 8 = .ok (.aload_n 0, 1) := by decide +kernel
theorem dX8_cut_9 : decode cX8_cut 9 = .ok (.iconst 2, 1) := by decide +kernel
theorem dX8_cut_10 : decode cX8_cut 10 = .ok (.invokevirtual 114, 3) := by decide +kernel
theorem dX8_cut_13 : decode cX8_cut 13 = .ok (.ireturn, 1) := by decide +kernel
theorem dX8_cut_14 : decode cX8_cut 14 = .ok (.aload_n 0, 1) := by decide +kernel
theorem dX8_cut_15 : decode cX8_cut 15 = .ok (.getfield 26, 3) := by decide +kernel
theorem dX8_cut_18 : decode cX8_cut 18 = .ok (.getfield 235, 3) := by decide +kernel
theorem dX8_cut_21 : decode cX8_cut 21 = .ok (.iload_n 1, 1) := by decide +kernel
theorem dX8_cut_22 : decode cX8_cut 22 = .ok (.aaload, 1) := by decide +kernel
theorem dX8_cut_23 : decode cX8_cut 23 = .ok (.astore_n 3, 1) := by decide +kernel
theorem dX8_cut_24 : decode cX8_cut 24 = .ok (.aload_n 3, 1) := by decide +kernel
theorem dX8_cut_25 : decode cX8_cut 25 = .ok (.getfield 250, 3) := by decide +kernel
theorem dX8_cut_28 : decode cX8_cut 28 = .ok (.istore 4, 2) := by decide +kernel
theorem dX8_cut_30 : decode cX8_cut 30 = .ok (.iload_n 2, 1) := by decide +kernel
theorem dX8_cut_31 : decode cX8_cut 31 = .ok (.iconst 1, 1) := by decide +kernel
theorem dX8_cut_32 : decode cX8_cut 32 = .ok (.if_icmp .lt 9, 3) := by decide +kernel
theorem dX8_cut_35 : decode cX8_cut 35 = .ok (.iload_n 2, 1) := by decide +kernel
theorem dX8_cut_36 : decode cX8_cut 36 = .ok (.iload 4, 2) := by decide +kernel
theorem dX8_cut_38 : decode cX8_cut 38 = .ok (.if_icmp .lt 9, 3) := by decide +kernel
theorem dX8_cut_41 : decode cX8_cut 41 = .ok (.aload_n 0, 1) := by decide +kernel
theorem dX8_cut_42 : decode cX8_cut 42 = .ok (.iconst 5, 1) := by decide +kernel
theorem dX8_cut_43 : decode cX8_cut 43 = .ok (.invokevirtual 114, 3) := by decide +kernel
theorem dX8_cut_46 : decode cX8_cut 46 = .ok (.ireturn, 1) := by decide +kernel
theorem dX8_cut_47 : decode cX8_cut 47 = .ok (.aload_n 0, 1) := by decide +kernel
theorem dX8_cut_48 : decode cX8_cut 48 = .ok (.aload_n 3, 1) := by decide +kernel
theorem dX8_cut_49 : decode cX8_cut 49 = .ok (.iload 4, 2) := by decide +kernel
theorem dX8_cut_51 : decode cX8_cut 51 = .ok (.iload_n 2, 1) := by decide +kernel
theorem dX8_cut_52 : decode cX8_cut 52 = .ok (.isub, 1) := by decide +kernel
theorem dX8_cut_53 : decode cX8_cut 53 = .ok (.invokevirtual 313, 3) := by decide +kernel
theorem dX8_cut_56 : decode cX8_cut 56 = .ok (.ireturn, 1) := by decide +kernel
def fX8_cut_41 (l0 : Nat) : mM Int32 := bCallV 8 l0 (fX8_none l0 (5 : Int32)) (fun x1 => bRet x1)
set_option maxRecDepth 20000 in
theorem rX8_cut_41 (v : mE) (d : Nat) (l0 : Nat) : Rz v RX8 cX8_cut 5 (some .int) false emI (d + 3) 41 [(0, vR l0)] [] (fX8_cut_41 l0) := by
  unfold fX8_cut_41
  refine rz_aload_n 42 0 dX8_cut_41 rfl rfl ?_
  refine rz_iconst 43 dX8_cut_42 rfl ci_5 ?_
  refine rz_callV 46 dX8_cut_43 rfl (tX8_none v (d + 2) l0 (5 : Int32)) rfl rfl rfl rfl ml_X8_114 im_X8_none se_X8_X8_none in_X8 co_X8_none rfl rfl (fun x1 => ?_)
  exact rz_ireturn rfl rfl dX8_cut_46
def fX8_cut (l0 : Nat) (l1 : Int32) (l2 : Int32) : mM Int32 := bCallV 8 l0 (fX8_isRope l0 l1) (fun x1 => bIf (x1 = 0) (bCallV 8 l0 (fX8_none l0 (2 : Int32)) (fun x7 => bRet x7)) (bGR 8 l0 3 (fun x2 => bGR 7 x2 10 (fun x3 => bAR 14 x3 l1 (fun x4 => bGI 3 x4 3 (fun x5 => bIf (l2 < (1 : Int32)) (fX8_cut_41 l0) (bIf (l2 < x5) (bCallV 8 l0 (fX8_part l0 x4 (x5 - l2)) (fun x6 => bRet x6)) (fX8_cut_41 l0))))))))
set_option maxRecDepth 20000 in
theorem rX8_cut (v : mE) (d : Nat) (l0 : Nat) (l1 : Int32) (l2 : Int32) : Rz v RX8 cX8_cut 5 (some .int) false emI (d + 3) 0 [(0, vR l0), (1, vI l1), (2, vI l2)] [] (fX8_cut l0 l1 l2) := by
  unfold fX8_cut
  refine rz_aload_n 1 0 dX8_cut_0 rfl rfl ?_
  refine rz_iload_n 2 1 dX8_cut_1 rfl rfl ?_
  refine rz_callV 5 dX8_cut_2 rfl (tX8_isRope v (d + 1) l0 l1) rfl rfl rfl rfl ml_X8_232 im_X8_isRope se_X8_X8_isRope in_X8 co_X8_isRope rfl rfl (fun x1 => ?_)
  refine rz_if_ne 14 8 dX8_cut_5 rfl rfl ?_ ?_
  · refine rz_aload_n 15 0 dX8_cut_14 rfl rfl ?_
    refine rz_gR 18 dX8_cut_15 rfl rfl fl_X8_26 (fun x2 => ?_)
    refine rz_gR 21 dX8_cut_18 rfl rfl fl_X8_235 (fun x3 => ?_)
    refine rz_iload_n 22 1 dX8_cut_21 rfl rfl ?_
    refine rz_aald 23 dX8_cut_22 rfl (by decide) (fun x4 => ?_)
    refine rz_astore_n (lv' := [(3, vR x4), (0, vR l0), (1, vI l1), (2, vI l2)]) 24 dX8_cut_23 rfl rfl rfl ?_
    refine rz_aload_n 25 0 dX8_cut_24 rfl rfl ?_
    refine rz_gI 28 dX8_cut_25 rfl rfl fl_X8_250 (fun x5 => ?_)
    refine rz_istore (lv' := [(4, vI x5), (3, vR x4), (0, vR l0), (1, vI l1), (2, vI l2)]) 30 dX8_cut_28 rfl rfl rfl ?_
    refine rz_iload_n 31 4 dX8_cut_30 rfl rfl ?_
    refine rz_iconst 32 dX8_cut_31 rfl ci_1 ?_
    refine rz_icmp_lt 41 35 dX8_cut_32 rfl rfl ?_ ?_
    · exact rz_sub [2] rfl (rX8_cut_41 v d l0)
    · refine rz_iload_n 36 4 dX8_cut_35 rfl rfl ?_
      refine rz_iload 38 0 dX8_cut_36 rfl rfl ?_
      refine rz_icmp_lt 47 41 dX8_cut_38 rfl rfl ?_ ?_
      · refine rz_aload_n 48 2 dX8_cut_47 rfl rfl ?_
        refine rz_aload_n 49 1 dX8_cut_48 rfl rfl ?_
        refine rz_iload 51 0 dX8_cut_49 rfl rfl ?_
        refine rz_iload_n 52 4 dX8_cut_51 rfl rfl ?_
        refine rz_isub 53 dX8_cut_52 rfl ?_
        refine rz_callV 56 dX8_cut_53 rfl (tX8_part v (d + 0) l0 x4 (x5 - l2)) rfl rfl rfl rfl ml_X8_313 im_X8_part se_X8_X8_part in_X8 co_X8_part rfl rfl (fun x6 => ?_)
        exact rz_ireturn rfl rfl dX8_cut_56
      · exact rz_sub [2] rfl (rX8_cut_41 v d l0)
  · refine rz_aload_n 9 0 dX8_cut_8 rfl rfl ?_
    refine rz_iconst 10 dX8_cut_9 rfl ci_2 ?_
    refine rz_callV 13 dX8_cut_10 rfl (tX8_none v (d + 2) l0 (2 : Int32)) rfl rfl rfl rfl ml_X8_114 im_X8_none se_X8_X8_none in_X8 co_X8_none rfl rfl (fun x7 => ?_)
    exact rz_ireturn rfl rfl dX8_cut_13
theorem tX8_cut (v : mE) (d : Nat) (l0 : Nat) (l1 : Int32) (l2 : Int32) : Mt v yX8_cut cX8_cut 5 (some .int) emI (d + 3) [vR l0, vI l1, vI l2] (fX8_cut l0 l1 l2) := mt_of rfl rfl (fun h => by cases h) rfl rfl (rX8_cut v d l0 l1 l2)
theorem dX8_sell_0 : decode cX8_sell 0 = .ok (.aload_n 0, 1) := by decide +kernel
theorem dX8_sell_1 : decode cX8_sell 1 = .ok (.iload_n 1, 1) := by decide +kernel
theorem dX8_sell_2 : decode cX8_sell 2 = .ok (.invokevirtual 232, 3) := by decide +kernel
theorem dX8_sell_5 : decode cX8_sell 5 = .ok (.ifCond .eq 11, 3) := by decide +kernel
theorem dX8_sell_8 : decode cX8_sell 8 = .ok (.aload_n 0, 1) := by decide +kernel
theorem dX8_sell_9 : decode cX8_sell 9 = .ok (.iload_n 3, 1) := by decide +kernel
theorem dX8_sell_10 : decode cX8_sell 10 = .ok (.invokevirtual 207, 3) := by decide +kernel
theorem dX8_sell_13 : decode cX8_sell 13 = .ok (.ifCond .ne 9, 3) := by decide +kernel
theorem dX8_sell_16 : decode cX8_sell 16 = .ok (.aload_n 0, 1) := by decide +kernel
theorem dX8_sell_17 : decode cX8_sell 17 = .ok (.iconst 2, 1) := by decide +kernel
theorem dX8_sell_18 : decode cX8_sell 18 = .ok (.invokevirtual 114, 3) := by decide +kernel
theorem dX8_sell_21 : decode cX8_sell 21 = .ok (.ireturn, 1) := by decide +kernel
theorem dX8_sell_22 : decode cX8_sell 22 = .ok (.aload_n 0, 1) := by decide +kernel
theorem dX8_sell_23 : decode cX8_sell 23 = .ok (.getfield 26, 3) := by decide +kernel
theorem dX8_sell_26 : decode cX8_sell 26 = .ok (.getfield 235, 3) := by decide +kernel
theorem dX8_sell_29 : decode cX8_sell 29 = .ok (.iload_n 1, 1) := by decide +kernel
theorem dX8_sell_30 : decode cX8_sell 30 = .ok (.aaload, 1) := by decide +kernel
theorem dX8_sell_31 : decode cX8_sell 31 = .ok (.astore 4, 2) := by decide +kernel
theorem dX8_sell_33 : decode cX8_sell 33 = .ok (.aload 4, 2) := by decide +kernel
theorem dX8_sell_35 : decode cX8_sell 35 = .ok (.getfield 250, 3) := by decide +kernel
theorem dX8_sell_38 : decode cX8_sell 38 = .ok (.istore 5, 2) := by decide +kernel
theorem dX8_sell_40 : decode cX8_sell 40 = .ok (.iload_n 2, 1) := by decide +kernel
theorem dX8_sell_41 : decode cX8_sell 41 = .ok (.iconst 1, 1) := by decide +kernel
theorem dX8_sell_42 : decode cX8_sell 42 = .ok (.if_icmp .lt 9, 3) := by decide +kernel
theorem dX8_sell_45 : decode cX8_sell 45 = .ok (.iload_n 2, 1) := by decide +kernel
theorem dX8_sell_46 : decode cX8_sell 46 = .ok (.iload 5, 2) := by decide +kernel
theorem dX8_sell_48 : decode cX8_sell 48 = .ok (.if_icmp .le 9, 3) := by decide +kernel
theorem dX8_sell_51 : decode cX8_sell 51 = .ok (.aload_n 0, 1) := by decide +kernel
theorem dX8_sell_52 : decode cX8_sell 52 = .ok (.iconst 5, 1) := by decide +kernel
theorem dX8_sell_53 : decode cX8_sell 53 = .ok (.invokevirtual 114, 3) := by decide +kernel
theorem dX8_sell_56 : decode cX8_sell 56 = .ok (.ireturn, 1) := by decide +kernel
theorem dX8_sell_57 : decode cX8_sell 57 = .ok (.iload_n 2, 1) := by decide +kernel
theorem dX8_sell_58 : decode cX8_sell 58 = .ok (.iload 5, 2) := by decide +kernel
theorem dX8_sell_60 : decode cX8_sell 60 = .ok (.if_icmp .ne 7, 3) := by decide +kernel
theorem dX8_sell_63 : decode cX8_sell 63 = .ok (.iload_n 1, 1) := by decide +kernel
theorem dX8_sell_64 : decode cX8_sell 64 = .ok (.goto 10, 3) := by decide +kernel
theorem dX8_sell_67 : decode cX8_sell 67 = .ok (.aload_n 0, 1) := by decide +kernel
theorem dX8_sell_68 : decode cX8_sell 68 = .ok (.getfield 26, 3) := by decide +kernel
theorem dX8_sell_71 : decode cX8_sell 71 = .ok (.invokevirtual 317, 3) := by decide +kernel
theorem dX8_sell_74 : decode cX8_sell 74 = .ok (.istore 6, 2) := by decide +kernel
theorem dX8_sell_76 : decode cX8_sell 76 = .ok (.iload 6, 2) := by decide +kernel
theorem dX8_sell_78 : decode cX8_sell 78 = .ok (.iconst (-1), 1) := by decide +kernel
theorem dX8_sell_79 : decode cX8_sell 79 = .ok (.if_icmp .ne 10, 3) := by decide +kernel
theorem dX8_sell_82 : decode cX8_sell 82 = .ok (.aload_n 0, 1) := by decide +kernel
theorem dX8_sell_83 : decode cX8_sell 83 = .ok (.bipush 7, 2) := by decide +kernel
theorem dX8_sell_85 : decode cX8_sell 85 = .ok (.invokevirtual 114, 3) := by decide +kernel
theorem dX8_sell_88 : decode cX8_sell 88 = .ok (.ireturn, 1) := by decide +kernel
theorem dX8_sell_89 : decode cX8_sell 89 = .ok (.aload 4, 2) := by decide +kernel
theorem dX8_sell_91 : decode cX8_sell 91 = .ok (.invokevirtual 303, 3) := by decide +kernel
theorem dX8_sell_94 : decode cX8_sell 94 = .ok (.ifCond .eq 23, 3) := by decide +kernel
theorem dX8_sell_97 : decode cX8_sell 97 = .ok (.aload_n 0, 1) := by decide +kernel
theorem dX8_sell_98 : decode cX8_sell 98 = .ok (.getfield 26, 3) := by decide +kernel
theorem dX8_sell_101 : decode cX8_sell 101 = .ok (.iload_n 3, 1) := by decide +kernel
theorem dX8_sell_102 : decode cX8_sell 102 = .ok (.invokevirtual 220, 3) := by decide +kernel
theorem dX8_sell_105 : decode cX8_sell 105 = .ok (.ifCond .eq 12, 3) := by decide +kernel
theorem dX8_sell_108 : decode cX8_sell 108 = .ok (.aload 4, 2) := by decide +kernel
theorem dX8_sell_110 : decode cX8_sell 110 = .ok (.getfield 239, 3) := by decide +kernel
theorem dX8_sell_113 : decode cX8_sell 113 = .ok (.iload_n 3, 1) := by decide +kernel
theorem dX8_sell_114 : decode cX8_sell 114 = .ok (.if_icmp .ne 10, 3) := by decide +kernel
theorem dX8_sell_117 : decode cX8_sell 117 = .ok (.aload_n 0, 1) := by decide +kernel
theorem dX8_sell_118 : decode cX8_sell 118 = .ok (.bipush 9, 2) := by decide +kernel
theorem dX8_sell_120 : decode cX8_sell 120 = .ok (.invokevirtual 114, 3) := by decide +kernel
theorem dX8_sell_123 : decode cX8_sell 123 = .ok (.ireturn, 1) := by decide +kernel
theorem dX8_sell_124 : decode cX8_sell 124 = .ok (.iload_n 2, 1) := by decide +kernel
theorem dX8_sell_125 : decode cX8_sell 125 = .ok (.iconst 1, 1) := by decide +kernel
theorem dX8_sell_126 : decode cX8_sell 126 = .ok (.aload_n 0, 1) := by decide +kernel
theorem dX8_sell_127 : decode cX8_sell 127 = .ok (.getfield 26, 3) := by decide +kernel
theorem dX8_sell_130 : decode cX8_sell 130 = .ok (.invokevirtual 324, 3) := by decide +kernel
theorem dX8_sell_133 : decode cX8_sell 133 = .ok (.iadd, 1) := by decide +kernel
theorem dX8_sell_134 : decode cX8_sell 134 = .ok (.imul, 1) := by decide +kernel
theorem dX8_sell_135 : decode cX8_sell 135 = .ok (.istore 7, 2) := by decide +kernel
theorem dX8_sell_137 : decode cX8_sell 137 = .ok (.iload 6, 2) := by decide +kernel
theorem dX8_sell_139 : decode cX8_sell 139 = .ok (.iload_n 1, 1) := by decide +kernel
theorem dX8_sell_140 : decode cX8_sell 140 = .ok (.if_icmp .eq 22, 3) := by decide +kernel
theorem dX8_sell_143 : decode cX8_sell 143 = .ok (.aload 4, 2) := by decide +kernel
theorem dX8_sell_145 : decode cX8_sell 145 = .ok (.iload 5, 2) := by decide +kernel
theorem dX8_sell_147 : decode cX8_sell 147 = .ok (.iload_n 2, 1) := by decide +kernel
theorem dX8_sell_148 : decode cX8_sell 148 = .ok (.isub, 1) := by decide +kernel
theorem dX8_sell_149 : decode cX8_sell 149 = .ok (.aload_n 0, 1) := by decide +kernel
theorem dX8_sell_150 : decode cX8_sell 150 = .ok (.getfield 26, 3) := by decide +kernel
theorem dX8_sell_153 : decode cX8_sell 153 = .ok (.getfield 235, 3) := by decide +kernel
theorem dX8_sell_156 : decode cX8_sell 156 = .ok (.iload 6, 2) := by decide +kernel
theorem dX8_sell_158 : decode cX8_sell 158 = .ok (.aaload, 1) := by decide +kernel
theorem dX8_sell_159 : decode cX8_sell 159 = .ok (.invokevirtual 320, 3) := by decide +kernel
theorem dX8_sell_162 : decode cX8_sell 162 = .ok (.aload_n 0, 1) := by decide +kernel
theorem dX8_sell_163 : decode cX8_sell 163 = .ok (.getfield 26, 3) := by decide +kernel
theorem dX8_sell_166 : decode cX8_sell 166 = .ok (.getfield 235, 3) := by decide +kernel
theorem dX8_sell_169 : decode cX8_sell 169 = .ok (.iload 6, 2) := by decide +kernel
theorem dX8_sell_171 : decode cX8_sell 171 = .ok (.aaload, 1) := by decide +kernel
theorem dX8_sell_172 : decode cX8_sell 172 = .ok (.iload_n 3, 1) := by decide +kernel
theorem dX8_sell_173 : decode cX8_sell 173 = .ok (.putfield 239, 3) := by decide +kernel
theorem dX8_sell_176 : decode cX8_sell 176 = .ok (.aload_n 0, 1) := by decide +kernel
theorem dX8_sell_177 : decode cX8_sell 177 = .ok (.iload 7, 2) := by decide +kernel
theorem dX8_sell_179 : decode cX8_sell 179 = .ok (.invokevirtual 166, 3) := by decide +kernel
theorem dX8_sell_182 : decode cX8_sell 182 = .ok (.ireturn, 1) := by decide +kernel
def fX8_sell_162 (l0 : Nat) (l3 : Int32) (l6 : Int32) (l7 : Int32) : mM Int32 := bGR 8 l0 3 (fun x1 => bGR 7 x1 10 (fun x2 => bAR 14 x2 l6 (fun x3 => bPI 3 x3 0 l3 (bCallV 8 l0 (fX8_tell l0 l7) (fun x4 => bRet x4)))))
set_option maxRecDepth 20000 in
theorem rX8_sell_162 (v : mE) (d : Nat) (l0 : Nat) (l3 : Int32) (l6 : Int32) (l7 : Int32) : Rz v RX8 cX8_sell 8 (some .int) false emI (d + 5) 162 [(0, vR l0), (3, vI l3), (6, vI l6), (7, vI l7)] [] (fX8_sell_162 l0 l3 l6 l7) := by
  unfold fX8_sell_162
  refine rz_aload_n 163 0 dX8_sell_162 rfl rfl ?_
  refine rz_gR 166 dX8_sell_163 rfl rfl fl_X8_26 (fun x1 => ?_)
  refine rz_gR 169 dX8_sell_166 rfl rfl fl_X8_235 (fun x2 => ?_)
  refine rz_iload 171 2 dX8_sell_169 rfl rfl ?_
  refine rz_aald 172 dX8_sell_171 rfl (by decide) (fun x3 => ?_)
  refine rz_iload_n 173 1 dX8_sell_172 rfl rfl ?_
  refine rz_pI 176 dX8_sell_173 rfl rfl rfl rfl fl_X8_239 ?_
  refine rz_aload_n 177 0 dX8_sell_176 rfl rfl ?_
  refine rz_iload 179 3 dX8_sell_177 rfl rfl ?_
  refine rz_callV 182 dX8_sell_179 rfl (tX8_tell v (d + 4) l0 l7) rfl rfl rfl rfl ml_X8_166 im_X8_tell se_X8_X8_tell in_X8 co_X8_tell rfl rfl (fun x4 => ?_)
  exact rz_ireturn rfl rfl dX8_sell_182
def fX8_sell_117 (l0 : Nat) : mM Int32 := bCallV 8 l0 (fX8_none l0 (9 : Int32)) (fun x1 => bRet x1)
set_option maxRecDepth 20000 in
theorem rX8_sell_117 (v : mE) (d : Nat) (l0 : Nat) : Rz v RX8 cX8_sell 8 (some .int) false emI (d + 5) 117 [(0, vR l0)] [] (fX8_sell_117 l0) := by
  unfold fX8_sell_117
  refine rz_aload_n 118 0 dX8_sell_117 rfl rfl ?_
  refine rz_bipush 120 dX8_sell_118 rfl cb_9 ?_
  refine rz_callV 123 dX8_sell_120 rfl (tX8_none v (d + 4) l0 (9 : Int32)) rfl rfl rfl rfl ml_X8_114 im_X8_none se_X8_X8_none in_X8 co_X8_none rfl rfl (fun x1 => ?_)
  exact rz_ireturn rfl rfl dX8_sell_123
def fX8_sell_74 (l0 : Nat) (l1 : Int32) (l2 : Int32) (l3 : Int32) (l4 : Nat) (l5 : Int32) (s0 : Int32) : mM Int32 := bIf (s0 = (-1 : Int32)) (bCallV 8 l0 (fX8_none l0 (7 : Int32)) (fun x10 => bRet x10)) (bCallV 3 l4 (fX3_isFree l4) (fun x1 => bIf (x1 = 0) (fX8_sell_117 l0) (bGR 8 l0 3 (fun x2 => bCallV 7 x2 (fX7_isAlive x2 l3) (fun x3 => bIf (x3 = 0) (fX8_sell_117 l0) (bGI 3 l4 0 (fun x4 => bIf (x4 = l3) (fX8_sell_117 l0) (bGR 8 l0 3 (fun x5 => bCallV 7 x5 (fX7_countThirsty x5) (fun x6 => bIf (s0 = l1) (fX8_sell_162 l0 l3 s0 (l2 * ((1 : Int32) + x6))) (bGR 8 l0 3 (fun x7 => bGR 7 x7 10 (fun x8 => bAR 14 x8 s0 (fun x9 => bCallV 3 l4 (fX3_splitAt l4 (l5 - l2) x9) (fun _ => fX8_sell_162 l0 l3 s0 (l2 * ((1 : Int32) + x6)))))))))))))))))
set_option maxRecDepth 20000 in
theorem rX8_sell_74 (v : mE) (d : Nat) (l0 : Nat) (l1 : Int32) (l2 : Int32) (l3 : Int32) (l4 : Nat) (l5 : Int32) (s0 : Int32) : Rz v RX8 cX8_sell 8 (some .int) false emI (d + 5) 74 [(0, vR l0), (1, vI l1), (2, vI l2), (3, vI l3), (4, vR l4), (5, vI l5)] [vI s0] (fX8_sell_74 l0 l1 l2 l3 l4 l5 s0) := by
  unfold fX8_sell_74
  refine rz_istore (lv' := [(6, vI s0), (0, vR l0), (1, vI l1), (2, vI l2), (3, vI l3), (4, vR l4), (5, vI l5)]) 76 dX8_sell_74 rfl rfl rfl ?_
  refine rz_iload 78 0 dX8_sell_76 rfl rfl ?_
  refine rz_iconst 79 dX8_sell_78 rfl ci_m1 ?_
  refine rz_icmp_ne 89 82 dX8_sell_79 rfl rfl ?_ ?_
  · refine rz_aload 91 5 dX8_sell_89 rfl rfl ?_
    refine rz_callV 94 dX8_sell_91 rfl (tX3_isFree v (d + 4) l4) rfl rfl rfl rfl ml_X8_303 im_X3_isFree se_X3_X3_isFree in_X3 co_X3_isFree rfl rfl (fun x1 => ?_)
    refine rz_if_eq 117 97 dX8_sell_94 rfl rfl ?_ ?_
    · exact rz_sub [1] rfl (rX8_sell_117 v d l0)
    · refine rz_aload_n 98 1 dX8_sell_97 rfl rfl ?_
      refine rz_gR 101 dX8_sell_98 rfl rfl fl_X8_26 (fun x2 => ?_)
      refine rz_iload_n 102 4 dX8_sell_101 rfl rfl ?_
      refine rz_callV 105 dX8_sell_102 rfl (tX7_isAlive v (d + 4) x2 l3) rfl rfl rfl rfl ml_X8_220 im_X7_isAlive se_X7_X7_isAlive in_X7 co_X7_isAlive rfl rfl (fun x3 => ?_)
      refine rz_if_eq 117 108 dX8_sell_105 rfl rfl ?_ ?_
      · exact rz_sub [1] rfl (rX8_sell_117 v d l0)
      · refine rz_aload 110 5 dX8_sell_108 rfl rfl ?_
        refine rz_gI 113 dX8_sell_110 rfl rfl fl_X8_239 (fun x4 => ?_)
        refine rz_iload_n 114 4 dX8_sell_113 rfl rfl ?_
        refine rz_icmp_ne 124 117 dX8_sell_114 rfl rfl ?_ ?_
        · refine rz_iload_n 125 3 dX8_sell_124 rfl rfl ?_
          refine rz_iconst 126 dX8_sell_125 rfl ci_1 ?_
          refine rz_aload_n 127 1 dX8_sell_126 rfl rfl ?_
          refine rz_gR 130 dX8_sell_127 rfl rfl fl_X8_26 (fun x5 => ?_)
          refine rz_callV 133 dX8_sell_130 rfl (tX7_countThirsty v (d + 0) x5) rfl rfl rfl rfl ml_X8_324 im_X7_countThirsty se_X7_X7_countThirsty in_X7 co_X7_countThirsty rfl rfl (fun x6 => ?_)
          refine rz_iadd 134 dX8_sell_133 rfl ?_
          refine rz_imul 135 dX8_sell_134 rfl ?_
          refine rz_istore (lv' := [(7, vI (l2 * ((1 : Int32) + x6))), (6, vI s0), (0, vR l0), (1, vI l1), (2, vI l2), (3, vI l3), (4, vR l4), (5, vI l5)]) 137 dX8_sell_135 rfl rfl rfl ?_
          refine rz_iload 139 1 dX8_sell_137 rfl rfl ?_
          refine rz_iload_n 140 3 dX8_sell_139 rfl rfl ?_
          refine rz_icmp_eq 162 143 dX8_sell_140 rfl rfl ?_ ?_
          · exact rz_sub [2, 5, 1, 0] rfl (rX8_sell_162 v d l0 l3 s0 (l2 * ((1 : Int32) + x6)))
          · refine rz_aload 145 6 dX8_sell_143 rfl rfl ?_
            refine rz_iload 147 7 dX8_sell_145 rfl rfl ?_
            refine rz_iload_n 148 4 dX8_sell_147 rfl rfl ?_
            refine rz_isub 149 dX8_sell_148 rfl ?_
            refine rz_aload_n 150 2 dX8_sell_149 rfl rfl ?_
            refine rz_gR 153 dX8_sell_150 rfl rfl fl_X8_26 (fun x7 => ?_)
            refine rz_gR 156 dX8_sell_153 rfl rfl fl_X8_235 (fun x8 => ?_)
            refine rz_iload 158 1 dX8_sell_156 rfl rfl ?_
            refine rz_aald 159 dX8_sell_158 rfl (by decide) (fun x9 => ?_)
            refine rz_callV 162 dX8_sell_159 rfl (tX3_splitAt v (d + 3) l4 (l5 - l2) x9) rfl rfl rfl rfl ml_X8_320 im_X3_splitAt se_X3_X3_splitAt in_X3 co_X3_splitAt rfl rfl (fun _ => ?_)
            exact rz_sub [2, 5, 1, 0] rfl (rX8_sell_162 v d l0 l3 s0 (l2 * ((1 : Int32) + x6)))
        · exact rz_sub [1] rfl (rX8_sell_117 v d l0)
  · refine rz_aload_n 83 1 dX8_sell_82 rfl rfl ?_
    refine rz_bipush 85 dX8_sell_83 rfl cb_7 ?_
    refine rz_callV 88 dX8_sell_85 rfl (tX8_none v (d + 4) l0 (7 : Int32)) rfl rfl rfl rfl ml_X8_114 im_X8_none se_X8_X8_none in_X8 co_X8_none rfl rfl (fun x10 => ?_)
    exact rz_ireturn rfl rfl dX8_sell_88
def fX8_sell_51 (l0 : Nat) : mM Int32 := bCallV 8 l0 (fX8_none l0 (5 : Int32)) (fun x1 => bRet x1)
set_option maxRecDepth 20000 in
theorem rX8_sell_51 (v : mE) (d : Nat) (l0 : Nat) : Rz v RX8 cX8_sell 8 (some .int) false emI (d + 5) 51 [(0, vR l0)] [] (fX8_sell_51 l0) := by
  unfold fX8_sell_51
  refine rz_aload_n 52 0 dX8_sell_51 rfl rfl ?_
  refine rz_iconst 53 dX8_sell_52 rfl ci_5 ?_
  refine rz_callV 56 dX8_sell_53 rfl (tX8_none v (d + 4) l0 (5 : Int32)) rfl rfl rfl rfl ml_X8_114 im_X8_none se_X8_X8_none in_X8 co_X8_none rfl rfl (fun x1 => ?_)
  exact rz_ireturn rfl rfl dX8_sell_56
def fX8_sell_16 (l0 : Nat) : mM Int32 := bCallV 8 l0 (fX8_none l0 (2 : Int32)) (fun x1 => bRet x1)
set_option maxRecDepth 20000 in
theorem rX8_sell_16 (v : mE) (d : Nat) (l0 : Nat) : Rz v RX8 cX8_sell 8 (some .int) false emI (d + 5) 16 [(0, vR l0)] [] (fX8_sell_16 l0) := by
  unfold fX8_sell_16
  refine rz_aload_n 17 0 dX8_sell_16 rfl rfl ?_
  refine rz_iconst 18 dX8_sell_17 rfl ci_2 ?_
  refine rz_callV 21 dX8_sell_18 rfl (tX8_none v (d + 4) l0 (2 : Int32)) rfl rfl rfl rfl ml_X8_114 im_X8_none se_X8_X8_none in_X8 co_X8_none rfl rfl (fun x1 => ?_)
  exact rz_ireturn rfl rfl dX8_sell_21
def fX8_sell (l0 : Nat) (l1 : Int32) (l2 : Int32) (l3 : Int32) : mM Int32 := bCallV 8 l0 (fX8_isRope l0 l1) (fun x1 => bIf (x1 = 0) (fX8_sell_16 l0) (bCallV 8 l0 (fX8_isPerson l0 l3) (fun x2 => bIf (x2 = 0) (fX8_sell_16 l0) (bGR 8 l0 3 (fun x3 => bGR 7 x3 10 (fun x4 => bAR 14 x4 l1 (fun x5 => bGI 3 x5 3 (fun x6 => bIf (l2 < (1 : Int32)) (fX8_sell_51 l0) (bIf (l2 ≤ x6) (bIf (l2 = x6) (fX8_sell_74 l0 l1 l2 l3 x5 x6 l1) (bGR 8 l0 3 (fun x7 => bCallV 7 x7 (fX7_freeRope x7) (fun x8 => fX8_sell_74 l0 l1 l2 l3 x5 x6 x8)))) (fX8_sell_51 l0))))))))))
set_option maxRecDepth 20000 in
theorem rX8_sell (v : mE) (d : Nat) (l0 : Nat) (l1 : Int32) (l2 : Int32) (l3 : Int32) : Rz v RX8 cX8_sell 8 (some .int) false emI (d + 5) 0 [(0, vR l0), (1, vI l1), (2, vI l2), (3, vI l3)] [] (fX8_sell l0 l1 l2 l3) := by
  unfold fX8_sell
  refine rz_aload_n 1 0 dX8_sell_0 rfl rfl ?_
  refine rz_iload_n 2 1 dX8_sell_1 rfl rfl ?_
  refine rz_callV 5 dX8_sell_2 rfl (tX8_isRope v (d + 3) l0 l1) rfl rfl rfl rfl ml_X8_232 im_X8_isRope se_X8_X8_isRope in_X8 co_X8_isRope rfl rfl (fun x1 => ?_)
  refine rz_if_eq 16 8 dX8_sell_5 rfl rfl ?_ ?_
  · exact rz_sub [0] rfl (rX8_sell_16 v d l0)
  · refine rz_aload_n 9 0 dX8_sell_8 rfl rfl ?_
    refine rz_iload_n 10 3 dX8_sell_9 rfl rfl ?_
    refine rz_callV 13 dX8_sell_10 rfl (tX8_isPerson v (d + 4) l0 l3) rfl rfl rfl rfl ml_X8_207 im_X8_isPerson se_X8_X8_isPerson in_X8 co_X8_isPerson rfl rfl (fun x2 => ?_)
    refine rz_if_ne 22 16 dX8_sell_13 rfl rfl ?_ ?_
    · refine rz_aload_n 23 0 dX8_sell_22 rfl rfl ?_
      refine rz_gR 26 dX8_sell_23 rfl rfl fl_X8_26 (fun x3 => ?_)
      refine rz_gR 29 dX8_sell_26 rfl rfl fl_X8_235 (fun x4 => ?_)
      refine rz_iload_n 30 1 dX8_sell_29 rfl rfl ?_
      refine rz_aald 31 dX8_sell_30 rfl (by decide) (fun x5 => ?_)
      refine rz_astore (lv' := [(4, vR x5), (0, vR l0), (1, vI l1), (2, vI l2), (3, vI l3)]) 33 dX8_sell_31 rfl rfl rfl ?_
      refine rz_aload 35 0 dX8_sell_33 rfl rfl ?_
      refine rz_gI 38 dX8_sell_35 rfl rfl fl_X8_250 (fun x6 => ?_)
      refine rz_istore (lv' := [(5, vI x6), (4, vR x5), (0, vR l0), (1, vI l1), (2, vI l2), (3, vI l3)]) 40 dX8_sell_38 rfl rfl rfl ?_
      refine rz_iload_n 41 4 dX8_sell_40 rfl rfl ?_
      refine rz_iconst 42 dX8_sell_41 rfl ci_1 ?_
      refine rz_icmp_lt 51 45 dX8_sell_42 rfl rfl ?_ ?_
      · exact rz_sub [2] rfl (rX8_sell_51 v d l0)
      · refine rz_iload_n 46 4 dX8_sell_45 rfl rfl ?_
        refine rz_iload 48 0 dX8_sell_46 rfl rfl ?_
        refine rz_icmp_le 57 51 dX8_sell_48 rfl rfl ?_ ?_
        · refine rz_iload_n 58 4 dX8_sell_57 rfl rfl ?_
          refine rz_iload 60 0 dX8_sell_58 rfl rfl ?_
          refine rz_icmp_ne 67 63 dX8_sell_60 rfl rfl ?_ ?_
          · refine rz_aload_n 68 2 dX8_sell_67 rfl rfl ?_
            refine rz_gR 71 dX8_sell_68 rfl rfl fl_X8_26 (fun x7 => ?_)
            refine rz_callV 74 dX8_sell_71 rfl (tX7_freeRope v (d + 3) x7) rfl rfl rfl rfl ml_X8_317 im_X7_freeRope se_X7_X7_freeRope in_X7 co_X7_freeRope rfl rfl (fun x8 => ?_)
            exact rz_sub [2, 3, 4, 5, 1, 0] rfl (rX8_sell_74 v d l0 l1 l2 l3 x5 x6 x8)
          · refine rz_iload_n 64 3 dX8_sell_63 rfl rfl ?_
            refine rz_goto 74 dX8_sell_64 rfl ?_
            exact rz_sub [2, 3, 4, 5, 1, 0] rfl (rX8_sell_74 v d l0 l1 l2 l3 x5 x6 l1)
        · exact rz_sub [2] rfl (rX8_sell_51 v d l0)
    · exact rz_sub [0] rfl (rX8_sell_16 v d l0)
theorem tX8_sell (v : mE) (d : Nat) (l0 : Nat) (l1 : Int32) (l2 : Int32) (l3 : Int32) : Mt v yX8_sell cX8_sell 8 (some .int) emI (d + 5) [vR l0, vI l1, vI l2, vI l3] (fX8_sell l0 l1 l2 l3) := mt_of rfl rfl (fun h => by cases h) rfl rfl (rX8_sell v d l0 l1 l2 l3)
theorem dX8_lend_0 : decode cX8_lend 0 = .ok (.aload_n 0, 1) := by decide +kernel
theorem dX8_lend_1 : decode cX8_lend 1 = .ok (.iload_n 1, 1) := by decide +kernel
theorem dX8_lend_2 : decode cX8_lend 2 = .ok (.invokevirtual 232, 3) := by decide +kernel
theorem dX8_lend_5 : decode cX8_lend 5 = .ok (.ifCond .eq 11, 3) := by decide +kernel
theorem dX8_lend_8 : decode cX8_lend 8 = .ok (.aload_n 0, 1) := by decide +kernel
theorem dX8_lend_9 : decode cX8_lend 9 = .ok (.iload_n 2, 1) := by decide +kernel
theorem dX8_lend_10 : decode cX8_lend 10 = .ok (.invokevirtual 207, 3) := by decide +kernel
theorem dX8_lend_13 : decode cX8_lend 13 = .ok (.ifCond .ne 9, 3) := by decide +kernel
theorem dX8_lend_16 : decode cX8_lend 16 = .ok (.aload_n 0, 1) := by decide +kernel
theorem dX8_lend_17 : decode cX8_lend 17 = .ok (.iconst 2, 1) := by decide +kernel
theorem dX8_lend_18 : decode cX8_lend 18 = .ok (.invokevirtual 114, 3) := by decide +kernel
theorem dX8_lend_21 : decode cX8_lend 21 = .ok (.ireturn, 1) := by decide +kernel
theorem dX8_lend_22 : decode cX8_lend 22 = .ok (.aload_n 0, 1) := by decide +kernel
theorem dX8_lend_23 : decode cX8_lend 23 = .ok (.getfield 26, 3) := by decide +kernel
theorem dX8_lend_26 : decode cX8_lend 26 = .ok (.getfield 235, 3) := by decide +kernel
theorem dX8_lend_29 : decode cX8_lend 29 = .ok (.iload_n 1, 1) := by decide +kernel
theorem dX8_lend_30 : decode cX8_lend 30 = .ok (.aaload, 1) := by decide +kernel
theorem dX8_lend_31 : decode cX8_lend 31 = .ok (.astore_n 3, 1) := by decide +kernel
theorem dX8_lend_32 : decode cX8_lend 32 = .ok (.aload_n 3, 1) := by decide +kernel
theorem dX8_lend_33 : decode cX8_lend 33 = .ok (.getfield 244, 3) := by decide +kernel
theorem dX8_lend_36 : decode cX8_lend 36 = .ok (.iconst (-1), 1) := by decide +kernel
theorem dX8_lend_37 : decode cX8_lend 37 = .ok (.if_icmp .ne 22, 3) := by decide +kernel
theorem dX8_lend_40 : decode cX8_lend 40 = .ok (.aload_n 0, 1) := by decide +kernel
theorem dX8_lend_41 : decode cX8_lend 41 = .ok (.getfield 26, 3) := by decide +kernel
theorem dX8_lend_44 : decode cX8_lend 44 = .ok (.iload_n 2, 1) := by decide +kernel
theorem dX8_lend_45 : decode cX8_lend 45 = .ok (.invokevirtual 220, 3) := by decide +kernel
theorem dX8_lend_48 : decode cX8_lend 48 = .ok (.ifCond .eq 11, 3) := by decide +kernel
theorem dX8_lend_51 : decode cX8_lend 51 = .ok (.aload_n 3, 1) := by decide +kernel
theorem dX8_lend_52 : decode cX8_lend 52 = .ok (.getfield 239, 3) := by decide +kernel
theorem dX8_lend_55 : decode cX8_lend 55 = .ok (.iload_n 2, 1) := by decide +kernel
theorem dX8_lend_56 : decode cX8_lend 56 = .ok (.if_icmp .ne 10, 3) := by decide +kernel
theorem dX8_lend_59 : decode cX8_lend 59 = .ok (.aload_n 0, 1) := by decide +kernel
theorem dX8_lend_60 : decode cX8_lend 60 = .ok (.bipush 9, 2) := by decide +kernel
theorem dX8_lend_62 : decode cX8_lend 62 = .ok (.invokevirtual 114, 3) := by decide +kernel
theorem dX8_lend_65 : decode cX8_lend 65 = .ok (.ireturn, 1) := by decide +kernel
theorem dX8_lend_66 : decode cX8_lend 66 = .ok (.aload_n 3, 1) := by decide +kernel
theorem dX8_lend_67 : decode cX8_lend 67 = .ok (.iload_n 2, 1) := by decide +kernel
theorem dX8_lend_68 : decode cX8_lend 68 = .ok (.putfield 244, 3) := by decide +kernel
theorem dX8_lend_71 : decode cX8_lend 71 = .ok (.aload_n 0, 1) := by decide +kernel
theorem dX8_lend_72 : decode cX8_lend 72 = .ok (.aload_n 0, 1) := by decide +kernel
theorem dX8_lend_73 : decode cX8_lend 73 = .ok (.getfield 26, 3) := by decide +kernel
theorem dX8_lend_76 : decode cX8_lend 76 = .ok (.iload_n 2, 1) := by decide +kernel
theorem dX8_lend_77 : decode cX8_lend 77 = .ok (.invokevirtual 226, 3) := by decide +kernel
theorem dX8_lend_80 : decode cX8_lend 80 = .ok (.invokevirtual 166, 3) := by decide +kernel
theorem dX8_lend_83 : decode cX8_lend 83 = .ok (.ireturn, 1) := by decide +kernel
def fX8_lend_59 (l0 : Nat) : mM Int32 := bCallV 8 l0 (fX8_none l0 (9 : Int32)) (fun x1 => bRet x1)
set_option maxRecDepth 20000 in
theorem rX8_lend_59 (v : mE) (d : Nat) (l0 : Nat) : Rz v RX8 cX8_lend 4 (some .int) false emI (d + 2) 59 [(0, vR l0)] [] (fX8_lend_59 l0) := by
  unfold fX8_lend_59
  refine rz_aload_n 60 0 dX8_lend_59 rfl rfl ?_
  refine rz_bipush 62 dX8_lend_60 rfl cb_9 ?_
  refine rz_callV 65 dX8_lend_62 rfl (tX8_none v (d + 1) l0 (9 : Int32)) rfl rfl rfl rfl ml_X8_114 im_X8_none se_X8_X8_none in_X8 co_X8_none rfl rfl (fun x1 => ?_)
  exact rz_ireturn rfl rfl dX8_lend_65
def fX8_lend_16 (l0 : Nat) : mM Int32 := bCallV 8 l0 (fX8_none l0 (2 : Int32)) (fun x1 => bRet x1)
set_option maxRecDepth 20000 in
theorem rX8_lend_16 (v : mE) (d : Nat) (l0 : Nat) : Rz v RX8 cX8_lend 4 (some .int) false emI (d + 2) 16 [(0, vR l0)] [] (fX8_lend_16 l0) := by
  unfold fX8_lend_16
  refine rz_aload_n 17 0 dX8_lend_16 rfl rfl ?_
  refine rz_iconst 18 dX8_lend_17 rfl ci_2 ?_
  refine rz_callV 21 dX8_lend_18 rfl (tX8_none v (d + 1) l0 (2 : Int32)) rfl rfl rfl rfl ml_X8_114 im_X8_none se_X8_X8_none in_X8 co_X8_none rfl rfl (fun x1 => ?_)
  exact rz_ireturn rfl rfl dX8_lend_21
def fX8_lend (l0 : Nat) (l1 : Int32) (l2 : Int32) : mM Int32 := bCallV 8 l0 (fX8_isRope l0 l1) (fun x1 => bIf (x1 = 0) (fX8_lend_16 l0) (bCallV 8 l0 (fX8_isPerson l0 l2) (fun x2 => bIf (x2 = 0) (fX8_lend_16 l0) (bGR 8 l0 3 (fun x3 => bGR 7 x3 10 (fun x4 => bAR 14 x4 l1 (fun x5 => bGI 3 x5 1 (fun x6 => bIf (x6 = (-1 : Int32)) (bGR 8 l0 3 (fun x7 => bCallV 7 x7 (fX7_isAlive x7 l2) (fun x8 => bIf (x8 = 0) (fX8_lend_59 l0) (bGI 3 x5 0 (fun x9 => bIf (x9 = l2) (fX8_lend_59 l0) (bPI 3 x5 1 l2 (bGR 8 l0 3 (fun x10 => bCallV 7 x10 (fX7_heldYards x10 l2) (fun x11 => bCallV 8 l0 (fX8_tell l0 x11) (fun x12 => bRet x12)))))))))) (fX8_lend_59 l0)))))))))
set_option maxRecDepth 20000 in
theorem rX8_lend (v : mE) (d : Nat) (l0 : Nat) (l1 : Int32) (l2 : Int32) : Rz v RX8 cX8_lend 4 (some .int) false emI (d + 2) 0 [(0, vR l0), (1, vI l1), (2, vI l2)] [] (fX8_lend l0 l1 l2) := by
  unfold fX8_lend
  refine rz_aload_n 1 0 dX8_lend_0 rfl rfl ?_
  refine rz_iload_n 2 1 dX8_lend_1 rfl rfl ?_
  refine rz_callV 5 dX8_lend_2 rfl (tX8_isRope v (d + 0) l0 l1) rfl rfl rfl rfl ml_X8_232 im_X8_isRope se_X8_X8_isRope in_X8 co_X8_isRope rfl rfl (fun x1 => ?_)
  refine rz_if_eq 16 8 dX8_lend_5 rfl rfl ?_ ?_
  · exact rz_sub [0] rfl (rX8_lend_16 v d l0)
  · refine rz_aload_n 9 0 dX8_lend_8 rfl rfl ?_
    refine rz_iload_n 10 2 dX8_lend_9 rfl rfl ?_
    refine rz_callV 13 dX8_lend_10 rfl (tX8_isPerson v (d + 1) l0 l2) rfl rfl rfl rfl ml_X8_207 im_X8_isPerson se_X8_X8_isPerson in_X8 co_X8_isPerson rfl rfl (fun x2 => ?_)
    refine rz_if_ne 22 16 dX8_lend_13 rfl rfl ?_ ?_
    · refine rz_aload_n 23 0 dX8_lend_22 rfl rfl ?_
      refine rz_gR 26 dX8_lend_23 rfl rfl fl_X8_26 (fun x3 => ?_)
      refine rz_gR 29 dX8_lend_26 rfl rfl fl_X8_235 (fun x4 => ?_)
      refine rz_iload_n 30 1 dX8_lend_29 rfl rfl ?_
      refine rz_aald 31 dX8_lend_30 rfl (by decide) (fun x5 => ?_)
      refine rz_astore_n (lv' := [(3, vR x5), (0, vR l0), (1, vI l1), (2, vI l2)]) 32 dX8_lend_31 rfl rfl rfl ?_
      refine rz_aload_n 33 0 dX8_lend_32 rfl rfl ?_
      refine rz_gI 36 dX8_lend_33 rfl rfl fl_X8_244 (fun x6 => ?_)
      refine rz_iconst 37 dX8_lend_36 rfl ci_m1 ?_
      refine rz_icmp_ne 59 40 dX8_lend_37 rfl rfl ?_ ?_
      · exact rz_sub [1] rfl (rX8_lend_59 v d l0)
      · refine rz_aload_n 41 1 dX8_lend_40 rfl rfl ?_
        refine rz_gR 44 dX8_lend_41 rfl rfl fl_X8_26 (fun x7 => ?_)
        refine rz_iload_n 45 3 dX8_lend_44 rfl rfl ?_
        refine rz_callV 48 dX8_lend_45 rfl (tX7_isAlive v (d + 1) x7 l2) rfl rfl rfl rfl ml_X8_220 im_X7_isAlive se_X7_X7_isAlive in_X7 co_X7_isAlive rfl rfl (fun x8 => ?_)
        refine rz_if_eq 59 51 dX8_lend_48 rfl rfl ?_ ?_
        · exact rz_sub [1] rfl (rX8_lend_59 v d l0)
        · refine rz_aload_n 52 0 dX8_lend_51 rfl rfl ?_
          refine rz_gI 55 dX8_lend_52 rfl rfl fl_X8_239 (fun x9 => ?_)
          refine rz_iload_n 56 3 dX8_lend_55 rfl rfl ?_
          refine rz_icmp_ne 66 59 dX8_lend_56 rfl rfl ?_ ?_
          · refine rz_aload_n 67 0 dX8_lend_66 rfl rfl ?_
            refine rz_iload_n 68 3 dX8_lend_67 rfl rfl ?_
            refine rz_pI 71 dX8_lend_68 rfl rfl rfl rfl fl_X8_244 ?_
            refine rz_aload_n 72 1 dX8_lend_71 rfl rfl ?_
            refine rz_aload_n 73 1 dX8_lend_72 rfl rfl ?_
            refine rz_gR 76 dX8_lend_73 rfl rfl fl_X8_26 (fun x10 => ?_)
            refine rz_iload_n 77 3 dX8_lend_76 rfl rfl ?_
            refine rz_callV 80 dX8_lend_77 rfl (tX7_heldYards v (d + 0) x10 l2) rfl rfl rfl rfl ml_X8_226 im_X7_heldYards se_X7_X7_heldYards in_X7 co_X7_heldYards rfl rfl (fun x11 => ?_)
            refine rz_callV 83 dX8_lend_80 rfl (tX8_tell v (d + 1) l0 x11) rfl rfl rfl rfl ml_X8_166 im_X8_tell se_X8_X8_tell in_X8 co_X8_tell rfl rfl (fun x12 => ?_)
            exact rz_ireturn rfl rfl dX8_lend_83
          · exact rz_sub [1] rfl (rX8_lend_59 v d l0)
    · exact rz_sub [0] rfl (rX8_lend_16 v d l0)
theorem tX8_lend (v : mE) (d : Nat) (l0 : Nat) (l1 : Int32) (l2 : Int32) : Mt v yX8_lend cX8_lend 4 (some .int) emI (d + 2) [vR l0, vI l1, vI l2] (fX8_lend l0 l1 l2) := mt_of rfl rfl (fun h => by cases h) rfl rfl (rX8_lend v d l0 l1 l2)
theorem dX8_takeBack_0 : decode cX8_takeBack 0 = .ok (.aload_n 0, 1) := by decide +kernel
theorem dX8_takeBack_1 : decode cX8_takeBack 1 = .ok (.iload_n 1, 1) := by decide +kernel
theorem dX8_takeBack_2 : decode cX8_takeBack 2 = .ok (.invokevirtual 232, 3) := by decide +kernel
theorem dX8_takeBack_5 : decode cX8_takeBack 5 = .ok (.ifCond .ne 9, 3) := by decide +kernel
theorem dX8_takeBack_8 : decode cX8_takeBack 8 = .ok (.aload_n 0, 1) := by decide +kernel
theorem dX8_takeBack_9 : decode cX8_takeBack 9 = .ok (.iconst 2, 1) := by decide +kernel
theorem dX8_takeBack_10 : decode cX8_takeBack 10 = .ok (.invokevirtual 114, 3) := by decide +kernel
theorem dX8_takeBack_13 : decode cX8_takeBack 13 = .ok (.ireturn, 1) := by decide +kernel
theorem dX8_takeBack_14 : decode cX8_takeBack 14 = .ok (.aload_n 0, 1) := by decide +kernel
theorem dX8_takeBack_15 : decode cX8_takeBack 15 = .ok (.getfield 26, 3) := by decide +kernel
theorem dX8_takeBack_18 : decode cX8_takeBack 18 = .ok (.getfield 235, 3) := by decide +kernel
theorem dX8_takeBack_21 : decode cX8_takeBack 21 = .ok (.iload_n 1, 1) := by decide +kernel
theorem dX8_takeBack_22 : decode cX8_takeBack 22 = .ok (.aaload, 1) := by decide +kernel
theorem dX8_takeBack_23 : decode cX8_takeBack 23 = .ok (.getfield 244, 3) := by decide +kernel
theorem dX8_takeBack_26 : decode cX8_takeBack 26 = .ok (.istore_n 2, 1) := by decide +kernel
theorem dX8_takeBack_27 : decode cX8_takeBack 27 = .ok (.aload_n 0, 1) := by decide +kernel
theorem dX8_takeBack_28 : decode cX8_takeBack 28 = .ok (.getfield 26, 3) := by decide +kernel
theorem dX8_takeBack_31 : decode cX8_takeBack 31 = .ok (.getfield 235, 3) := by decide +kernel
theorem dX8_takeBack_34 : decode cX8_takeBack 34 = .ok (.iload_n 1, 1) := by decide +kernel
theorem dX8_takeBack_35 : decode cX8_takeBack 35 = .ok (.aaload, 1) := by decide +kernel
theorem dX8_takeBack_36 : decode cX8_takeBack 36 = .ok (.iconst (-1), 1) := by decide +kernel
theorem dX8_takeBack_37 : decode cX8_takeBack 37 = .ok (.putfield 244, 3) := by decide +kernel
theorem dX8_takeBack_40 : decode cX8_takeBack 40 = .ok (.aload_n 0, 1) := by decide +kernel
theorem dX8_takeBack_41 : decode cX8_takeBack 41 = .ok (.iload_n 2, 1) := by decide +kernel
theorem dX8_takeBack_42 : decode cX8_takeBack 42 = .ok (.iconst (-1), 1) := by decide +kernel
theorem dX8_takeBack_43 : decode cX8_takeBack 43 = .ok (.if_icmp .eq 7, 3) := by decide +kernel
theorem dX8_takeBack_46 : decode cX8_takeBack 46 = .ok (.iconst 1, 1) := by decide +kernel
theorem dX8_takeBack_47 : decode cX8_takeBack 47 = .ok (.goto 4, 3) := by decide +kernel
theorem dX8_takeBack_50 : decode cX8_takeBack 50 = .ok (.iconst 0, 1) := by decide +kernel
theorem dX8_takeBack_51 : decode cX8_takeBack 51 = .ok (.iload_n 2, 1) := by decide +kernel
theorem dX8_takeBack_52 : decode cX8_takeBack 52 = .ok (.invokevirtual 213, 3) := by decide +kernel
theorem dX8_takeBack_55 : decode cX8_takeBack 55 = .ok (.ireturn, 1) := by decide +kernel
def fX8_takeBack_51 (l2 : Int32) (s0 : Int32) (s1 : Nat) : mM Int32 := bCallV 8 s1 (fX8_tellIf s1 s0 l2) (fun x1 => bRet x1)
set_option maxRecDepth 20000 in
theorem rX8_takeBack_51 (v : mE) (d : Nat) (l2 : Int32) (s0 : Int32) (s1 : Nat) : Rz v RX8 cX8_takeBack 3 (some .int) false emI (d + 2) 51 [(2, vI l2)] [vI s0, vR s1] (fX8_takeBack_51 l2 s0 s1) := by
  unfold fX8_takeBack_51
  refine rz_iload_n 52 0 dX8_takeBack_51 rfl rfl ?_
  refine rz_callV 55 dX8_takeBack_52 rfl (tX8_tellIf v (d + 0) s1 s0 l2) rfl rfl rfl rfl ml_X8_213 im_X8_tellIf se_X8_X8_tellIf in_X8 co_X8_tellIf rfl rfl (fun x1 => ?_)
  exact rz_ireturn rfl rfl dX8_takeBack_55
def fX8_takeBack (l0 : Nat) (l1 : Int32) : mM Int32 := bCallV 8 l0 (fX8_isRope l0 l1) (fun x1 => bIf (x1 = 0) (bCallV 8 l0 (fX8_none l0 (2 : Int32)) (fun x9 => bRet x9)) (bGR 8 l0 3 (fun x2 => bGR 7 x2 10 (fun x3 => bAR 14 x3 l1 (fun x4 => bGI 3 x4 1 (fun x5 => bGR 8 l0 3 (fun x6 => bGR 7 x6 10 (fun x7 => bAR 14 x7 l1 (fun x8 => bPI 3 x8 1 (-1 : Int32) (bIf (x5 = (-1 : Int32)) (fX8_takeBack_51 x5 (0 : Int32) l0) (fX8_takeBack_51 x5 (1 : Int32) l0)))))))))))
set_option maxRecDepth 20000 in
theorem rX8_takeBack (v : mE) (d : Nat) (l0 : Nat) (l1 : Int32) : Rz v RX8 cX8_takeBack 3 (some .int) false emI (d + 2) 0 [(0, vR l0), (1, vI l1)] [] (fX8_takeBack l0 l1) := by
  unfold fX8_takeBack
  refine rz_aload_n 1 0 dX8_takeBack_0 rfl rfl ?_
  refine rz_iload_n 2 1 dX8_takeBack_1 rfl rfl ?_
  refine rz_callV 5 dX8_takeBack_2 rfl (tX8_isRope v (d + 0) l0 l1) rfl rfl rfl rfl ml_X8_232 im_X8_isRope se_X8_X8_isRope in_X8 co_X8_isRope rfl rfl (fun x1 => ?_)
  refine rz_if_ne 14 8 dX8_takeBack_5 rfl rfl ?_ ?_
  · refine rz_aload_n 15 0 dX8_takeBack_14 rfl rfl ?_
    refine rz_gR 18 dX8_takeBack_15 rfl rfl fl_X8_26 (fun x2 => ?_)
    refine rz_gR 21 dX8_takeBack_18 rfl rfl fl_X8_235 (fun x3 => ?_)
    refine rz_iload_n 22 1 dX8_takeBack_21 rfl rfl ?_
    refine rz_aald 23 dX8_takeBack_22 rfl (by decide) (fun x4 => ?_)
    refine rz_gI 26 dX8_takeBack_23 rfl rfl fl_X8_244 (fun x5 => ?_)
    refine rz_istore_n (lv' := [(2, vI x5), (0, vR l0), (1, vI l1)]) 27 dX8_takeBack_26 rfl rfl rfl ?_
    refine rz_aload_n 28 1 dX8_takeBack_27 rfl rfl ?_
    refine rz_gR 31 dX8_takeBack_28 rfl rfl fl_X8_26 (fun x6 => ?_)
    refine rz_gR 34 dX8_takeBack_31 rfl rfl fl_X8_235 (fun x7 => ?_)
    refine rz_iload_n 35 2 dX8_takeBack_34 rfl rfl ?_
    refine rz_aald 36 dX8_takeBack_35 rfl (by decide) (fun x8 => ?_)
    refine rz_iconst 37 dX8_takeBack_36 rfl ci_m1 ?_
    refine rz_pI 40 dX8_takeBack_37 rfl rfl rfl rfl fl_X8_244 ?_
    refine rz_aload_n 41 1 dX8_takeBack_40 rfl rfl ?_
    refine rz_iload_n 42 0 dX8_takeBack_41 rfl rfl ?_
    refine rz_iconst 43 dX8_takeBack_42 rfl ci_m1 ?_
    refine rz_icmp_eq 50 46 dX8_takeBack_43 rfl rfl ?_ ?_
    · refine rz_iconst 51 dX8_takeBack_50 rfl ci_0 ?_
      exact rz_sub [0] rfl (rX8_takeBack_51 v d x5 (0 : Int32) l0)
    · refine rz_iconst 47 dX8_takeBack_46 rfl ci_1 ?_
      refine rz_goto 51 dX8_takeBack_47 rfl ?_
      exact rz_sub [0] rfl (rX8_takeBack_51 v d x5 (1 : Int32) l0)
  · refine rz_aload_n 9 0 dX8_takeBack_8 rfl rfl ?_
    refine rz_iconst 10 dX8_takeBack_9 rfl ci_2 ?_
    refine rz_callV 13 dX8_takeBack_10 rfl (tX8_none v (d + 1) l0 (2 : Int32)) rfl rfl rfl rfl ml_X8_114 im_X8_none se_X8_X8_none in_X8 co_X8_none rfl rfl (fun x9 => ?_)
    exact rz_ireturn rfl rfl dX8_takeBack_13
theorem tX8_takeBack (v : mE) (d : Nat) (l0 : Nat) (l1 : Int32) : Mt v yX8_takeBack cX8_takeBack 3 (some .int) emI (d + 2) [vR l0, vI l1] (fX8_takeBack l0 l1) := mt_of rfl rfl (fun h => by cases h) rfl rfl (rX8_takeBack v d l0 l1)

theorem dX7_init_0 : decode cX7_init 0 = .ok (.aload_n 0, 1) := by decide +kernel
theorem dX7_init_1 : decode cX7_init 1 = .ok (.invokespecial 3, 3) := by decide +kernel
theorem dX7_init_4 : decode cX7_init 4 = .ok (.aload_n 0, 1) := by decide +kernel
theorem dX7_init_5 : decode cX7_init 5 = .ok (.iconst 0, 1) := by decide +kernel
theorem dX7_init_6 : decode cX7_init 6 = .ok (.putfield 9, 3) := by decide +kernel
theorem dX7_init_9 : decode cX7_init 9 = .ok (.aload_n 0, 1) := by decide +kernel
theorem dX7_init_10 : decode cX7_init 10 = .ok (.iconst 0, 1) := by decide +kernel
theorem dX7_init_11 : decode cX7_init 11 = .ok (.putfield 15, 3) := by decide +kernel
theorem dX7_init_14 : decode cX7_init 14 = .ok (.aload_n 0, 1) := by decide +kernel
theorem dX7_init_15 : decode cX7_init 15 = .ok (.iconst 0, 1) := by decide +kernel
theorem dX7_init_16 : decode cX7_init 16 = .ok (.putfield 18, 3) := by decide +kernel
theorem dX7_init_19 : decode cX7_init 19 = .ok (.aload_n 0, 1) := by decide +kernel
theorem dX7_init_20 : decode cX7_init 20 = .ok (.iconst 0, 1) := by decide +kernel
theorem dX7_init_21 : decode cX7_init 21 = .ok (.putfield 21, 3) := by decide +kernel
theorem dX7_init_24 : decode cX7_init 24 = .ok (.aload_n 0, 1) := by decide +kernel
theorem dX7_init_25 : decode cX7_init 25 = .ok (.iconst 0, 1) := by decide +kernel
theorem dX7_init_26 : decode cX7_init 26 = .ok (.putfield 24, 3) := by decide +kernel
theorem dX7_init_29 : decode cX7_init 29 = .ok (.aload_n 0, 1) := by decide +kernel
theorem dX7_init_30 : decode cX7_init 30 = .ok (.iconst 0, 1) := by decide +kernel
theorem dX7_init_31 : decode cX7_init 31 = .ok (.putfield 27, 3) := by decide +kernel
theorem dX7_init_34 : decode cX7_init 34 = .ok (.aload_n 0, 1) := by decide +kernel
theorem dX7_init_35 : decode cX7_init 35 = .ok (.iconst 0, 1) := by decide +kernel
theorem dX7_init_36 : decode cX7_init 36 = .ok (.putfield 30, 3) := by decide +kernel
theorem dX7_init_39 : decode cX7_init 39 = .ok (.aload_n 0, 1) := by decide +kernel
theorem dX7_init_40 : decode cX7_init 40 = .ok (.iconst 0, 1) := by decide +kernel
theorem dX7_init_41 : decode cX7_init 41 = .ok (.putfield 33, 3) := by decide +kernel
theorem dX7_init_44 : decode cX7_init 44 = .ok (.aload_n 0, 1) := by decide +kernel
theorem dX7_init_45 : decode cX7_init 45 = .ok (.bipush 8, 2) := by decide +kernel
theorem dX7_init_47 : decode cX7_init 47 = .ok (.newarray .int, 2) := by decide +kernel
theorem dX7_init_49 : decode cX7_init 49 = .ok (.putfield 36, 3) := by decide +kernel
theorem dX7_init_52 : decode cX7_init 52 = .ok (.aload_n 0, 1) := by decide +kernel
theorem dX7_init_53 : decode cX7_init 53 = .ok (.bipush 8, 2) := by decide +kernel
theorem dX7_init_55 : decode cX7_init 55 = .ok (.newarray .int, 2) := by decide +kernel
theorem dX7_init_57 : decode cX7_init 57 = .ok (.putfield 40, 3) := by decide +kernel
theorem dX7_init_60 : decode cX7_init 60 = .ok (.aload_n 0, 1) := by decide +kernel
theorem dX7_init_61 : decode cX7_init 61 = .ok (.bipush 12, 2) := by decide +kernel
theorem dX7_init_63 : decode cX7_init 63 = .ok (.anewarray 43, 3) := by decide +kernel
theorem dX7_init_66 : decode cX7_init 66 = .ok (.putfield 45, 3) := by decide +kernel
theorem dX7_init_69 : decode cX7_init 69 = .ok (.aload_n 0, 1) := by decide +kernel
theorem dX7_init_70 : decode cX7_init 70 = .ok (.iconst 0, 1) := by decide +kernel
theorem dX7_init_71 : decode cX7_init 71 = .ok (.putfield 49, 3) := by decide +kernel
theorem dX7_init_74 : decode cX7_init 74 = .ok (.aload_n 0, 1) := by decide +kernel
theorem dX7_init_75 : decode cX7_init 75 = .ok (.iconst 4, 1) := by decide +kernel
theorem dX7_init_76 : decode cX7_init 76 = .ok (.newarray .int, 2) := by decide +kernel
theorem dX7_init_78 : decode cX7_init 78 = .ok (.putfield 52, 3) := by decide +kernel
theorem dX7_init_81 : decode cX7_init 81 = .ok (.aload_n 0, 1) := by decide +kernel
theorem dX7_init_82 : decode cX7_init 82 = .ok (.iconst 4, 1) := by decide +kernel
theorem dX7_init_83 : decode cX7_init 83 = .ok (.newarray .int, 2) := by decide +kernel
theorem dX7_init_85 : decode cX7_init 85 = .ok (.putfield 55, 3) := by decide +kernel
theorem dX7_init_88 : decode cX7_init 88 = .ok (.aload_n 0, 1) := by decide +kernel
theorem dX7_init_89 : decode cX7_init 89 = .ok (.iconst 4, 1) := by decide +kernel
theorem dX7_init_90 : decode cX7_init 90 = .ok (.newarray .int, 2) := by decide +kernel
theorem dX7_init_92 : decode cX7_init 92 = .ok (.putfield 58, 3) := by decide +kernel
theorem dX7_init_95 : decode cX7_init 95 = .ok (.aload_n 0, 1) := by decide +kernel
theorem dX7_init_96 : decode cX7_init 96 = .ok (.bipush 8, 2) := by decide +kernel
theorem dX7_init_98 : decode cX7_init 98 = .ok (.newarray .int, 2) := by decide +kernel
theorem dX7_init_100 : decode cX7_init 100 = .ok (.putfield 61, 3) := by decide +kernel
theorem dX7_init_103 : decode cX7_init 103 = .ok (.aload_n 0, 1) := by decide +kernel
theorem dX7_init_104 : decode cX7_init 104 = .ok (.aconst_null, 1) := by decide +kernel
theorem dX7_init_105 : decode cX7_init 105 = .ok (.putfield 64, 3) := by decide +kernel
theorem dX7_init_108 : decode cX7_init 108 = .ok (.iconst 0, 1) := by decide +kernel
theorem dX7_init_109 : decode cX7_init 109 = .ok (.istore_n 1, 1) := by decide +kernel
theorem dX7_init_110 : decode cX7_init 110 = .ok (.iload_n 1, 1) := by decide +kernel
theorem dX7_init_111 : decode cX7_init 111 = .ok (.bipush 12, 2) := by decide +kernel
theorem dX7_init_113 : decode cX7_init 113 = .ok (.if_icmp .ge 22, 3) := by decide +kernel
theorem dX7_init_116 : decode cX7_init 116 = .ok (.aload_n 0, 1) := by decide +kernel
theorem dX7_init_117 : decode cX7_init 117 = .ok (.getfield 45, 3) := by decide +kernel
theorem dX7_init_120 : decode cX7_init 120 = .ok (.iload_n 1, 1) := by decide +kernel
theorem dX7_init_121 : decode cX7_init 121 = .ok (.new 43, 3) := by decide +kernel
theorem dX7_init_124 : decode cX7_init 124 = .ok (.dup, 1) := by decide +kernel
theorem dX7_init_125 : decode cX7_init 125 = .ok (.invokespecial 68, 3) := by decide +kernel
theorem dX7_init_128 : decode cX7_init 128 = .ok (.aastore, 1) := by decide +kernel
theorem dX7_init_129 : decode cX7_init 129 = .ok (.iinc 1 1, 3) := by decide +kernel
theorem dX7_init_132 : decode cX7_init 132 = .ok (.goto (-22), 3) := by decide +kernel
theorem dX7_init_135 : decode cX7_init 135 = .ok (.return_, 1) := by decide +kernel
def fX7_init_110 : Nat → Nat → Int32 → mM Unit
  | 0 => fun _ _ => fun _ => none
  | n + 1 => fun l0 l1 => let r110 := fX7_init_110 n; bIf ((12 : Int32) ≤ l1) (bRet ()) (bGR 7 l0 10 (fun x1 => bNew 3 (fun x2 => bCallV 3 x2 (fX3_init x2) (fun _ => bSR 14 x1 l1 x2 (r110 l0 (l1 + 1))))))
theorem qX7_init_110  (n : Nat) (l0 : Nat) (l1 : Int32) : fX7_init_110 (n + 1) l0 l1 = bIf ((12 : Int32) ≤ l1) (bRet ()) (bGR 7 l0 10 (fun x1 => bNew 3 (fun x2 => bCallV 3 x2 (fX3_init x2) (fun _ => bSR 14 x1 l1 x2 ((fX7_init_110 n) l0 (l1 + 1)))))) := rfl
set_option maxRecDepth 20000 in
theorem rX7_init_110 (v : mE) (d : Nat) : ∀ (n : Nat) (l0 : Nat) (l1 : Int32), Rz v RX7 cX7_init 2 none true emU (d + 2) 110 [(0, vR l0), (1, vI l1)] [] (fX7_init_110 n l0 l1)
  | 0, _, _ => fun _ _ _ hm => by cases hm
  | n + 1, l0, l1 => by
    have h110 := rX7_init_110 v d n
    unfold fX7_init_110
    generalize fX7_init_110 n = r110 at h110 ⊢
    refine rz_iload_n 111 1 dX7_init_110 rfl rfl ?_
    refine rz_bipush 113 dX7_init_111 rfl cb_12 ?_
    refine rz_icmp_ge 135 116 dX7_init_113 rfl rfl ?_ ?_
    · exact rz_return rfl rfl dX7_init_135
    · refine rz_aload_n 117 0 dX7_init_116 rfl rfl ?_
      refine rz_gR 120 dX7_init_117 rfl rfl fl_X7_45 (fun x1 => ?_)
      refine rz_iload_n 121 1 dX7_init_120 rfl rfl ?_
      refine rz_new 124 dX7_init_121 rfl rfl cl_X7_43 it_X3 in_X3 (fun x2 => ?_)
      refine rz_dup 125 dX7_init_124 rfl rfl ?_
      refine rz_callN (kc := 3) (host := RX8) 128 dX7_init_125 rfl (tX3_init v (d + 0) x2) rfl rfl rfl rfl nw_X7_68 im_X3_init in_X3 co_X3_init rfl rfl (fun _ => ?_)
      refine rz_aast 129 dX7_init_128 rfl (by decide) ?_
      refine rz_iinc (lv' := [(1, vI (l1 + 1)), (0, vR l0)]) 132 1 dX7_init_129 rfl rfl (cn_1 _) rfl rfl ?_
      refine rz_goto 110 dX7_init_132 rfl ?_
      exact rz_sub [1, 0] rfl (h110 l0 (l1 + 1))
def fX7_init (l0 : Nat) : mM Unit := bObj l0 (bPI 7 l0 0 (0 : Int32) (bPI 7 l0 1 (0 : Int32) (bPI 7 l0 2 (0 : Int32) (bPI 7 l0 3 (0 : Int32) (bPI 7 l0 4 (0 : Int32) (bPI 7 l0 5 (0 : Int32) (bPI 7 l0 6 (0 : Int32) (bPI 7 l0 7 (0 : Int32) (bNa 11 (8 : Int32) (fun x1 => bPR 7 l0 8 x1 (bNa 11 (8 : Int32) (fun x2 => bPR 7 l0 9 x2 (bNa 14 (12 : Int32) (fun x3 => bPR 7 l0 10 x3 (bPI 7 l0 11 (0 : Int32) (bNa 11 (4 : Int32) (fun x4 => bPR 7 l0 12 x4 (bNa 11 (4 : Int32) (fun x5 => bPR 7 l0 13 x5 (bNa 11 (4 : Int32) (fun x6 => bPR 7 l0 14 x6 (bNa 11 (8 : Int32) (fun x7 => bPR 7 l0 15 x7 (bPR 7 l0 16 0 (fX7_init_110 fu l0 (0 : Int32))))))))))))))))))))))))))
set_option maxRecDepth 20000 in
theorem rX7_init (v : mE) (d : Nat) (l0 : Nat) : Rz v RX7 cX7_init 2 none true emU (d + 2) 0 [(0, vR l0)] [] (fX7_init l0) := by
  unfold fX7_init
  refine rz_aload_n 1 0 dX7_init_0 rfl rfl ?_
  refine rz_obj 4 dX7_init_1 rfl ml_X7_3 im_java_lang_Object__init____V co_java_lang_Object__init____V rfl rfl ?_
  refine rz_aload_n 5 0 dX7_init_4 rfl rfl ?_
  refine rz_iconst 6 dX7_init_5 rfl ci_0 ?_
  refine rz_pI 9 dX7_init_6 rfl rfl rfl rfl fl_X7_9 ?_
  refine rz_aload_n 10 0 dX7_init_9 rfl rfl ?_
  refine rz_iconst 11 dX7_init_10 rfl ci_0 ?_
  refine rz_pI 14 dX7_init_11 rfl rfl rfl rfl fl_X7_15 ?_
  refine rz_aload_n 15 0 dX7_init_14 rfl rfl ?_
  refine rz_iconst 16 dX7_init_15 rfl ci_0 ?_
  refine rz_pI 19 dX7_init_16 rfl rfl rfl rfl fl_X7_18 ?_
  refine rz_aload_n 20 0 dX7_init_19 rfl rfl ?_
  refine rz_iconst 21 dX7_init_20 rfl ci_0 ?_
  refine rz_pI 24 dX7_init_21 rfl rfl rfl rfl fl_X7_21 ?_
  refine rz_aload_n 25 0 dX7_init_24 rfl rfl ?_
  refine rz_iconst 26 dX7_init_25 rfl ci_0 ?_
  refine rz_pI 29 dX7_init_26 rfl rfl rfl rfl fl_X7_24 ?_
  refine rz_aload_n 30 0 dX7_init_29 rfl rfl ?_
  refine rz_iconst 31 dX7_init_30 rfl ci_0 ?_
  refine rz_pI 34 dX7_init_31 rfl rfl rfl rfl fl_X7_27 ?_
  refine rz_aload_n 35 0 dX7_init_34 rfl rfl ?_
  refine rz_iconst 36 dX7_init_35 rfl ci_0 ?_
  refine rz_pI 39 dX7_init_36 rfl rfl rfl rfl fl_X7_30 ?_
  refine rz_aload_n 40 0 dX7_init_39 rfl rfl ?_
  refine rz_iconst 41 dX7_init_40 rfl ci_0 ?_
  refine rz_pI 44 dX7_init_41 rfl rfl rfl rfl fl_X7_33 ?_
  refine rz_aload_n 45 0 dX7_init_44 rfl rfl ?_
  refine rz_bipush 47 dX7_init_45 rfl cb_8 ?_
  refine rz_newa 49 dX7_init_47 rfl (by decide) ac_int (fun x1 => ?_)
  refine rz_pR 52 dX7_init_49 rfl rfl rfl fl_X7_36 ?_
  refine rz_aload_n 53 0 dX7_init_52 rfl rfl ?_
  refine rz_bipush 55 dX7_init_53 rfl cb_8 ?_
  refine rz_newa 57 dX7_init_55 rfl (by decide) ac_int (fun x2 => ?_)
  refine rz_pR 60 dX7_init_57 rfl rfl rfl fl_X7_40 ?_
  refine rz_aload_n 61 0 dX7_init_60 rfl rfl ?_
  refine rz_bipush 63 dX7_init_61 rfl cb_12 ?_
  refine rz_newq 66 dX7_init_63 rfl (by decide) cl_X7_43 (ao_14 v) (fun x3 => ?_)
  refine rz_pR 69 dX7_init_66 rfl rfl rfl fl_X7_45 ?_
  refine rz_aload_n 70 0 dX7_init_69 rfl rfl ?_
  refine rz_iconst 71 dX7_init_70 rfl ci_0 ?_
  refine rz_pI 74 dX7_init_71 rfl rfl rfl rfl fl_X7_49 ?_
  refine rz_aload_n 75 0 dX7_init_74 rfl rfl ?_
  refine rz_iconst 76 dX7_init_75 rfl ci_4 ?_
  refine rz_newa 78 dX7_init_76 rfl (by decide) ac_int (fun x4 => ?_)
  refine rz_pR 81 dX7_init_78 rfl rfl rfl fl_X7_52 ?_
  refine rz_aload_n 82 0 dX7_init_81 rfl rfl ?_
  refine rz_iconst 83 dX7_init_82 rfl ci_4 ?_
  refine rz_newa 85 dX7_init_83 rfl (by decide) ac_int (fun x5 => ?_)
  refine rz_pR 88 dX7_init_85 rfl rfl rfl fl_X7_55 ?_
  refine rz_aload_n 89 0 dX7_init_88 rfl rfl ?_
  refine rz_iconst 90 dX7_init_89 rfl ci_4 ?_
  refine rz_newa 92 dX7_init_90 rfl (by decide) ac_int (fun x6 => ?_)
  refine rz_pR 95 dX7_init_92 rfl rfl rfl fl_X7_58 ?_
  refine rz_aload_n 96 0 dX7_init_95 rfl rfl ?_
  refine rz_bipush 98 dX7_init_96 rfl cb_8 ?_
  refine rz_newa 100 dX7_init_98 rfl (by decide) ac_int (fun x7 => ?_)
  refine rz_pR 103 dX7_init_100 rfl rfl rfl fl_X7_61 ?_
  refine rz_aload_n 104 0 dX7_init_103 rfl rfl ?_
  refine rz_null 105 dX7_init_104 rfl ?_
  refine rz_pR 108 dX7_init_105 rfl rfl rfl fl_X7_64 ?_
  refine rz_iconst 109 dX7_init_108 rfl ci_0 ?_
  refine rz_istore_n (lv' := [(1, vI (0 : Int32)), (0, vR l0)]) 110 dX7_init_109 rfl rfl rfl ?_
  exact rz_sub [1, 0] rfl (rX7_init_110 v d fu l0 (0 : Int32))
theorem tX7_init (v : mE) (d : Nat) (l0 : Nat) : Mt v yX7_init cX7_init 2 none emU (d + 2) [vR l0] (fX7_init l0) := mt_of rfl rfl (fun _ => rfl) rfl rfl (rX7_init v d l0)
theorem dX7_clear_0 : decode cX7_clear 0 = .ok (.aload_n 0, 1) := by decide +kernel
theorem dX7_clear_1 : decode cX7_clear 1 = .ok (.iconst 0, 1) := by decide +kernel
theorem dX7_clear_2 : decode cX7_clear 2 = .ok (.putfield 9, 3) := by decide +kernel
theorem dX7_clear_5 : decode cX7_clear 5 = .ok (.aload_n 0, 1) := by decide +kernel
theorem dX7_clear_6 : decode cX7_clear 6 = .ok (.iconst 0, 1) := by decide +kernel
theorem dX7_clear_7 : decode cX7_clear 7 = .ok (.putfield 15, 3) := by decide +kernel
theorem dX7_clear_10 : decode cX7_clear 10 = .ok (.aload_n 0, 1) := by decide +kernel
theorem dX7_clear_11 : decode cX7_clear 11 = .ok (.iconst 0, 1) := by decide +kernel
theorem dX7_clear_12 : decode cX7_clear 12 = .ok (.putfield 18, 3) := by decide +kernel
theorem dX7_clear_15 : decode cX7_clear 15 = .ok (.aload_n 0, 1) := by decide +kernel
theorem dX7_clear_16 : decode cX7_clear 16 = .ok (.iconst 0, 1) := by decide +kernel
theorem dX7_clear_17 : decode cX7_clear 17 = .ok (.putfield 21, 3) := by decide +kernel
theorem dX7_clear_20 : decode cX7_clear 20 = .ok (.aload_n 0, 1) := by decide +kernel
theorem dX7_clear_21 : decode cX7_clear 21 = .ok (.iconst 0, 1) := by decide +kernel
theorem dX7_clear_22 : decode cX7_clear 22 = .ok (.putfield 24, 3) := by decide +kernel
theorem dX7_clear_25 : decode cX7_clear 25 = .ok (.aload_n 0, 1) := by decide +kernel
theorem dX7_clear_26 : decode cX7_clear 26 = .ok (.iconst 0, 1) := by decide +kernel
theorem dX7_clear_27 : decode cX7_clear 27 = .ok (.putfield 27, 3) := by decide +kernel
theorem dX7_clear_30 : decode cX7_clear 30 = .ok (.aload_n 0, 1) := by decide +kernel
theorem dX7_clear_31 : decode cX7_clear 31 = .ok (.iconst 0, 1) := by decide +kernel
theorem dX7_clear_32 : decode cX7_clear 32 = .ok (.putfield 30, 3) := by decide +kernel
theorem dX7_clear_35 : decode cX7_clear 35 = .ok (.aload_n 0, 1) := by decide +kernel
theorem dX7_clear_36 : decode cX7_clear 36 = .ok (.iconst 0, 1) := by decide +kernel
theorem dX7_clear_37 : decode cX7_clear 37 = .ok (.putfield 33, 3) := by decide +kernel
theorem dX7_clear_40 : decode cX7_clear 40 = .ok (.aload_n 0, 1) := by decide +kernel
theorem dX7_clear_41 : decode cX7_clear 41 = .ok (.iconst 0, 1) := by decide +kernel
theorem dX7_clear_42 : decode cX7_clear 42 = .ok (.putfield 49, 3) := by decide +kernel
theorem dX7_clear_45 : decode cX7_clear 45 = .ok (.aload_n 0, 1) := by decide +kernel
theorem dX7_clear_46 : decode cX7_clear 46 = .ok (.aconst_null, 1) := by decide +kernel
theorem dX7_clear_47 : decode cX7_clear 47 = .ok (.putfield 64, 3) := by decide +kernel
theorem dX7_clear_50 : decode cX7_clear 50 = .ok (.iconst 0, 1) := by decide +kernel
theorem dX7_clear_51 : decode cX7_clear 51 = .ok (.istore_n 1, 1) := by decide +kernel
theorem dX7_clear_52 : decode cX7_clear 52 = .ok (.iload_n 1, 1) := by decide +kernel
theorem dX7_clear_53 : decode cX7_clear 53 = .ok (.bipush 12, 2) := by decide +kernel
theorem dX7_clear_55 : decode cX7_clear 55 = .ok (.if_icmp .ge 18, 3) := by decide +kernel
theorem dX7_clear_58 : decode cX7_clear 58 = .ok (.aload_n 0, 1) := by decide +kernel
theorem dX7_clear_59 : decode cX7_clear 59 = .ok (.getfield 45, 3) := by decide +kernel
theorem dX7_clear_62 : decode cX7_clear 62 = .ok (.iload_n 1, 1) := by decide +kernel
theorem dX7_clear_63 : decode cX7_clear 63 = .ok (.aaload, 1) := by decide +kernel
theorem dX7_clear_64 : decode cX7_clear 64 = .ok (.invokevirtual 69, 3) := by decide +kernel
theorem dX7_clear_67 : decode cX7_clear 67 = .ok (.iinc 1 1, 3) := by decide +kernel
theorem dX7_clear_70 : decode cX7_clear 70 = .ok (.goto (-18), 3) := by decide +kernel
theorem dX7_clear_73 : decode cX7_clear 73 = .ok (.return_, 1) := by decide +kernel
def fX7_clear_52 : Nat → Nat → Int32 → mM Unit
  | 0 => fun _ _ => fun _ => none
  | n + 1 => fun l0 l1 => let r52 := fX7_clear_52 n; bIf ((12 : Int32) ≤ l1) (bRet ()) (bGR 7 l0 10 (fun x1 => bAR 14 x1 l1 (fun x2 => bCallV 3 x2 (fX3_clear x2) (fun _ => r52 l0 (l1 + 1)))))
theorem qX7_clear_52  (n : Nat) (l0 : Nat) (l1 : Int32) : fX7_clear_52 (n + 1) l0 l1 = bIf ((12 : Int32) ≤ l1) (bRet ()) (bGR 7 l0 10 (fun x1 => bAR 14 x1 l1 (fun x2 => bCallV 3 x2 (fX3_clear x2) (fun _ => (fX7_clear_52 n) l0 (l1 + 1))))) := rfl
set_option maxRecDepth 20000 in
theorem rX7_clear_52 (v : mE) (d : Nat) : ∀ (n : Nat) (l0 : Nat) (l1 : Int32), Rz v RX7 cX7_clear 2 none false emU (d + 1) 52 [(0, vR l0), (1, vI l1)] [] (fX7_clear_52 n l0 l1)
  | 0, _, _ => fun _ _ _ hm => by cases hm
  | n + 1, l0, l1 => by
    have h52 := rX7_clear_52 v d n
    unfold fX7_clear_52
    generalize fX7_clear_52 n = r52 at h52 ⊢
    refine rz_iload_n 53 1 dX7_clear_52 rfl rfl ?_
    refine rz_bipush 55 dX7_clear_53 rfl cb_12 ?_
    refine rz_icmp_ge 73 58 dX7_clear_55 rfl rfl ?_ ?_
    · exact rz_return rfl rfl dX7_clear_73
    · refine rz_aload_n 59 0 dX7_clear_58 rfl rfl ?_
      refine rz_gR 62 dX7_clear_59 rfl rfl fl_X7_45 (fun x1 => ?_)
      refine rz_iload_n 63 1 dX7_clear_62 rfl rfl ?_
      refine rz_aald 64 dX7_clear_63 rfl (by decide) (fun x2 => ?_)
      refine rz_callV 67 dX7_clear_64 rfl (tX3_clear v (d + 0) x2) rfl rfl rfl rfl ml_X7_69 im_X3_clear se_X3_X3_clear in_X3 co_X3_clear rfl rfl (fun _ => ?_)
      refine rz_iinc (lv' := [(1, vI (l1 + 1)), (0, vR l0)]) 70 1 dX7_clear_67 rfl rfl (cn_1 _) rfl rfl ?_
      refine rz_goto 52 dX7_clear_70 rfl ?_
      exact rz_sub [1, 0] rfl (h52 l0 (l1 + 1))
def fX7_clear (l0 : Nat) : mM Unit := bPI 7 l0 0 (0 : Int32) (bPI 7 l0 1 (0 : Int32) (bPI 7 l0 2 (0 : Int32) (bPI 7 l0 3 (0 : Int32) (bPI 7 l0 4 (0 : Int32) (bPI 7 l0 5 (0 : Int32) (bPI 7 l0 6 (0 : Int32) (bPI 7 l0 7 (0 : Int32) (bPI 7 l0 11 (0 : Int32) (bPR 7 l0 16 0 (fX7_clear_52 fu l0 (0 : Int32)))))))))))
set_option maxRecDepth 20000 in
theorem rX7_clear (v : mE) (d : Nat) (l0 : Nat) : Rz v RX7 cX7_clear 2 none false emU (d + 1) 0 [(0, vR l0)] [] (fX7_clear l0) := by
  unfold fX7_clear
  refine rz_aload_n 1 0 dX7_clear_0 rfl rfl ?_
  refine rz_iconst 2 dX7_clear_1 rfl ci_0 ?_
  refine rz_pI 5 dX7_clear_2 rfl rfl rfl rfl fl_X7_9 ?_
  refine rz_aload_n 6 0 dX7_clear_5 rfl rfl ?_
  refine rz_iconst 7 dX7_clear_6 rfl ci_0 ?_
  refine rz_pI 10 dX7_clear_7 rfl rfl rfl rfl fl_X7_15 ?_
  refine rz_aload_n 11 0 dX7_clear_10 rfl rfl ?_
  refine rz_iconst 12 dX7_clear_11 rfl ci_0 ?_
  refine rz_pI 15 dX7_clear_12 rfl rfl rfl rfl fl_X7_18 ?_
  refine rz_aload_n 16 0 dX7_clear_15 rfl rfl ?_
  refine rz_iconst 17 dX7_clear_16 rfl ci_0 ?_
  refine rz_pI 20 dX7_clear_17 rfl rfl rfl rfl fl_X7_21 ?_
  refine rz_aload_n 21 0 dX7_clear_20 rfl rfl ?_
  refine rz_iconst 22 dX7_clear_21 rfl ci_0 ?_
  refine rz_pI 25 dX7_clear_22 rfl rfl rfl rfl fl_X7_24 ?_
  refine rz_aload_n 26 0 dX7_clear_25 rfl rfl ?_
  refine rz_iconst 27 dX7_clear_26 rfl ci_0 ?_
  refine rz_pI 30 dX7_clear_27 rfl rfl rfl rfl fl_X7_27 ?_
  refine rz_aload_n 31 0 dX7_clear_30 rfl rfl ?_
  refine rz_iconst 32 dX7_clear_31 rfl ci_0 ?_
  refine rz_pI 35 dX7_clear_32 rfl rfl rfl rfl fl_X7_30 ?_
  refine rz_aload_n 36 0 dX7_clear_35 rfl rfl ?_
  refine rz_iconst 37 dX7_clear_36 rfl ci_0 ?_
  refine rz_pI 40 dX7_clear_37 rfl rfl rfl rfl fl_X7_33 ?_
  refine rz_aload_n 41 0 dX7_clear_40 rfl rfl ?_
  refine rz_iconst 42 dX7_clear_41 rfl ci_0 ?_
  refine rz_pI 45 dX7_clear_42 rfl rfl rfl rfl fl_X7_49 ?_
  refine rz_aload_n 46 0 dX7_clear_45 rfl rfl ?_
  refine rz_null 47 dX7_clear_46 rfl ?_
  refine rz_pR 50 dX7_clear_47 rfl rfl rfl fl_X7_64 ?_
  refine rz_iconst 51 dX7_clear_50 rfl ci_0 ?_
  refine rz_istore_n (lv' := [(1, vI (0 : Int32)), (0, vR l0)]) 52 dX7_clear_51 rfl rfl rfl ?_
  exact rz_sub [1, 0] rfl (rX7_clear_52 v d fu l0 (0 : Int32))
theorem tX7_clear (v : mE) (d : Nat) (l0 : Nat) : Mt v yX7_clear cX7_clear 2 none emU (d + 1) [vR l0] (fX7_clear l0) := mt_of rfl rfl (fun h => by cases h) rfl rfl (rX7_clear v d l0)
theorem dX7_copyFrom_0 : decode cX7_copyFrom 0 = .ok (.aload_n 0, 1) := by decide +kernel
theorem dX7_copyFrom_1 : decode cX7_copyFrom 1 = .ok (.aload_n 1, 1) := by decide +kernel
theorem dX7_copyFrom_2 : decode cX7_copyFrom 2 = .ok (.getfield 9, 3) := by decide +kernel
theorem dX7_copyFrom_5 : decode cX7_copyFrom 5 = .ok (.putfield 9, 3) := by decide +kernel
theorem dX7_copyFrom_8 : decode cX7_copyFrom 8 = .ok (.aload_n 0, 1) := by decide +kernel
theorem dX7_copyFrom_9 : decode cX7_copyFrom 9 = .ok (.aload_n 1, 1) := by decide +kernel
theorem dX7_copyFrom_10 : decode cX7_copyFrom 10 = .ok (.getfield 15, 3) := by decide +kernel
theorem dX7_copyFrom_13 : decode cX7_copyFrom 13 = .ok (.putfield 15, 3) := by decide +kernel
theorem dX7_copyFrom_16 : decode cX7_copyFrom 16 = .ok (.aload_n 0, 1) := by decide +kernel
theorem dX7_copyFrom_17 : decode cX7_copyFrom 17 = .ok (.aload_n 1, 1) := by decide +kernel
theorem dX7_copyFrom_18 : decode cX7_copyFrom 18 = .ok (.getfield 18, 3) := by decide +kernel
theorem dX7_copyFrom_21 : decode cX7_copyFrom 21 = .ok (.putfield 18, 3) := by decide +kernel
theorem dX7_copyFrom_24 : decode cX7_copyFrom 24 = .ok (.aload_n 0, 1) := by decide +kernel
theorem dX7_copyFrom_25 : decode cX7_copyFrom 25 = .ok (.aload_n 1, 1) := by decide +kernel
theorem dX7_copyFrom_26 : decode cX7_copyFrom 26 = .ok (.getfield 21, 3) := by decide +kernel
theorem dX7_copyFrom_29 : decode cX7_copyFrom 29 = .ok (.putfield 21, 3) := by decide +kernel
theorem dX7_copyFrom_32 : decode cX7_copyFrom 32 = .ok (.aload_n 0, 1) := by decide +kernel
theorem dX7_copyFrom_33 : decode cX7_copyFrom 33 = .ok (.aload_n 1, 1) := by decide +kernel
theorem dX7_copyFrom_34 : decode cX7_copyFrom 34 = .ok (.getfield 24, 3) := by decide +kernel
theorem dX7_copyFrom_37 : decode cX7_copyFrom 37 = .ok (.putfield 24, 3) := by decide +kernel
theorem dX7_copyFrom_40 : decode cX7_copyFrom 40 = .ok (.aload_n 0, 1) := by decide +kernel
theorem dX7_copyFrom_41 : decode cX7_copyFrom 41 = .ok (.aload_n 1, 1) := by decide +kernel
theorem dX7_copyFrom_42 : decode cX7_copyFrom 42 = .ok (.getfield 27, 3) := by decide +kernel
theorem dX7_copyFrom_45 : decode cX7_copyFrom 45 = .ok (.putfield 27, 3) := by decide +kernel
theorem dX7_copyFrom_48 : decode cX7_copyFrom 48 = .ok (.aload_n 0, 1) := by decide +kernel
theorem dX7_copyFrom_49 : decode cX7_copyFrom 49 = .ok (.aload_n 1, 1) := by decide +kernel
theorem dX7_copyFrom_50 : decode cX7_copyFrom 50 = .ok (.getfield 30, 3) := by decide +kernel
theorem dX7_copyFrom_53 : decode cX7_copyFrom 53 = .ok (.putfield 30, 3) := by decide +kernel
theorem dX7_copyFrom_56 : decode cX7_copyFrom 56 = .ok (.aload_n 0, 1) := by decide +kernel
theorem dX7_copyFrom_57 : decode cX7_copyFrom 57 = .ok (.aload_n 1, 1) := by decide +kernel
theorem dX7_copyFrom_58 : decode cX7_copyFrom 58 = .ok (.getfield 33, 3) := by decide +kernel
theorem dX7_copyFrom_61 : decode cX7_copyFrom 61 = .ok (.putfield 33, 3) := by decide +kernel
theorem dX7_copyFrom_64 : decode cX7_copyFrom 64 = .ok (.aload_n 0, 1) := by decide +kernel
theorem dX7_copyFrom_65 : decode cX7_copyFrom 65 = .ok (.aload_n 1, 1) := by decide +kernel
theorem dX7_copyFrom_66 : decode cX7_copyFrom 66 = .ok (.getfield 49, 3) := by decide +kernel
theorem dX7_copyFrom_69 : decode cX7_copyFrom 69 = .ok (.putfield 49, 3) := by decide +kernel
theorem dX7_copyFrom_72 : decode cX7_copyFrom 72 = .ok (.aload_n 0, 1) := by decide +kernel
theorem dX7_copyFrom_73 : decode cX7_copyFrom 73 = .ok (.aload_n 1, 1) := by decide +kernel
theorem dX7_copyFrom_74 : decode cX7_copyFrom 74 = .ok (.getfield 64, 3) := by decide +kernel
theorem dX7_copyFrom_77 : decode cX7_copyFrom 77 = .ok (.putfield 64, 3) := by decide +kernel
theorem dX7_copyFrom_80 : decode cX7_copyFrom 80 = .ok (.aload_n 1, 1) := by decide +kernel
theorem dX7_copyFrom_81 : decode cX7_copyFrom 81 = .ok (.getfield 36, 3) := by decide +kernel
theorem dX7_copyFrom_84 : decode cX7_copyFrom 84 = .ok (.iconst 0, 1) := by decide +kernel
theorem dX7_copyFrom_85 : decode cX7_copyFrom 85 = .ok (.aload_n 0, 1) := by decide +kernel
theorem dX7_copyFrom_86 : decode cX7_copyFrom 86 = .ok (.getfield 36, 3) := by decide +kernel
theorem dX7_copyFrom_89 : decode cX7_copyFrom 89 = .ok (.iconst 0, 1) := by decide +kernel
theorem dX7_copyFrom_90 : decode cX7_copyFrom 90 = .ok (.bipush 8, 2) := by decide +kernel
theorem dX7_copyFrom_92 : decode cX7_copyFrom 92 = .ok (.invokestatic 72, 3) := by decide +kernel
theorem dX7_copyFrom_95 : decode cX7_copyFrom 95 = .ok (.aload_n 1, 1) := by decide +kernel
theorem dX7_copyFrom_96 : decode cX7_copyFrom 96 = .ok (.getfield 40, 3) := by decide +kernel
theorem dX7_copyFrom_99 : decode cX7_copyFrom 99 = .ok (.iconst 0, 1) := by decide +kernel
theorem dX7_copyFrom_100 : decode cX7_copyFrom 100 = .ok (.aload_n 0, 1) := by decide +kernel
theorem dX7_copyFrom_101 : decode cX7_copyFrom 101 = .ok (.getfield 40, 3) := by decide +kernel
theorem dX7_copyFrom_104 : decode cX7_copyFrom 104 = .ok (.iconst 0, 1) := by decide +kernel
theorem dX7_copyFrom_105 : decode cX7_copyFrom 105 = .ok (.bipush 8, 2) := by decide +kernel
theorem dX7_copyFrom_107 : decode cX7_copyFrom 107 = .ok (.invokestatic 72, 3) := by decide +kernel
theorem dX7_copyFrom_110 : decode cX7_copyFrom 110 = .ok (.aload_n 1, 1) := by decide +kernel
theorem dX7_copyFrom_111 : decode cX7_copyFrom 111 = .ok (.getfield 52, 3) := by decide +kernel
theorem dX7_copyFrom_114 : decode cX7_copyFrom 114 = .ok (.iconst 0, 1) := by decide +kernel
theorem dX7_copyFrom_115 : decode cX7_copyFrom 115 = .ok (.aload_n 0, 1) := by decide +kernel
theorem dX7_copyFrom_116 : decode cX7_copyFrom 116 = .ok (.getfield 52, 3) := by decide +kernel
theorem dX7_copyFrom_119 : decode cX7_copyFrom 119 = .ok (.iconst 0, 1) := by decide +kernel
theorem dX7_copyFrom_120 : decode cX7_copyFrom 120 = .ok (.iconst 4, 1) := by decide +kernel
theorem dX7_copyFrom_121 : decode cX7_copyFrom 121 = .ok (.invokestatic 72, 3) := by decide +kernel
theorem dX7_copyFrom_124 : decode cX7_copyFrom 124 = .ok (.aload_n 1, 1) := by decide +kernel
theorem dX7_copyFrom_125 : decode cX7_copyFrom 125 = .ok (.getfield 55, 3) := by decide +kernel
theorem dX7_copyFrom_128 : decode cX7_copyFrom 128 = .ok (.iconst 0, 1) := by decide +kernel
theorem dX7_copyFrom_129 : decode cX7_copyFrom 129 = .ok (.aload_n 0, 1) := by decide +kernel
theorem dX7_copyFrom_130 : decode cX7_copyFrom 130 = .ok (.getfield 55, 3) := by decide +kernel
theorem dX7_copyFrom_133 : decode cX7_copyFrom 133 = .ok (.iconst 0, 1) := by decide +kernel
theorem dX7_copyFrom_134 : decode cX7_copyFrom 134 = .ok (.iconst 4, 1) := by decide +kernel
theorem dX7_copyFrom_135 : decode cX7_copyFrom 135 = .ok (.invokestatic 72, 3) := by decide +kernel
theorem dX7_copyFrom_138 : decode cX7_copyFrom 138 = .ok (.aload_n 1, 1) := by decide +kernel
theorem dX7_copyFrom_139 : decode cX7_copyFrom 139 = .ok (.getfield 58, 3) := by decide +kernel
theorem dX7_copyFrom_142 : decode cX7_copyFrom 142 = .ok (.iconst 0, 1) := by decide +kernel
theorem dX7_copyFrom_143 : decode cX7_copyFrom 143 = .ok (.aload_n 0, 1) := by decide +kernel
theorem dX7_copyFrom_144 : decode cX7_copyFrom 144 = .ok (.getfield 58, 3) := by decide +kernel
theorem dX7_copyFrom_147 : decode cX7_copyFrom 147 = .ok (.iconst 0, 1) := by decide +kernel
theorem dX7_copyFrom_148 : decode cX7_copyFrom 148 = .ok (.iconst 4, 1) := by decide +kernel
theorem dX7_copyFrom_149 : decode cX7_copyFrom 149 = .ok (.invokestatic 72, 3) := by decide +kernel
theorem dX7_copyFrom_152 : decode cX7_copyFrom 152 = .ok (.iconst 0, 1) := by decide +kernel
theorem dX7_copyFrom_153 : decode cX7_copyFrom 153 = .ok (.istore_n 2, 1) := by decide +kernel
theorem dX7_copyFrom_154 : decode cX7_copyFrom 154 = .ok (.iload_n 2, 1) := by decide +kernel
theorem dX7_copyFrom_155 : decode cX7_copyFrom 155 = .ok (.bipush 12, 2) := by decide +kernel
theorem dX7_copyFrom_157 : decode cX7_copyFrom 157 = .ok (.if_icmp .ge 24, 3) := by decide +kernel
theorem dX7_copyFrom_160 : decode cX7_copyFrom 160 = .ok (.aload_n 0, 1) := by decide +kernel
theorem dX7_copyFrom_161 : decode cX7_copyFrom 161 = .ok (.getfield 45, 3) := by decide +kernel
theorem dX7_copyFrom_164 : decode cX7_copyFrom 164 = .ok (.iload_n 2, 1) := by decide +kernel
theorem dX7_copyFrom_165 : decode cX7_copyFrom 165 = .ok (.aaload, 1) := by decide +kernel
theorem dX7_copyFrom_166 : decode cX7_copyFrom 166 = .ok (.aload_n 1, 1) := by decide +kernel
theorem dX7_copyFrom_167 : decode cX7_copyFrom 167 = .ok (.getfield 45, 3) := by decide +kernel
theorem dX7_copyFrom_170 : decode cX7_copyFrom 170 = .ok (.iload_n 2, 1) := by decide +kernel
theorem dX7_copyFrom_171 : decode cX7_copyFrom 171 = .ok (.aaload, 1) := by decide +kernel
theorem dX7_copyFrom_172 : decode cX7_copyFrom 172 = .ok (.invokevirtual 78, 3) := by decide +kernel
theorem dX7_copyFrom_175 : decode cX7_copyFrom 175 = .ok (.iinc 2 1, 3) := by decide +kernel
theorem dX7_copyFrom_178 : decode cX7_copyFrom 178 = .ok (.goto (-24), 3) := by decide +kernel
theorem dX7_copyFrom_181 : decode cX7_copyFrom 181 = .ok (.return_, 1) := by decide +kernel
def fX7_copyFrom_154 : Nat → Nat → Nat → Int32 → mM Unit
  | 0 => fun _ _ _ => fun _ => none
  | n + 1 => fun l0 l1 l2 => let r154 := fX7_copyFrom_154 n; bIf ((12 : Int32) ≤ l2) (bRet ()) (bGR 7 l0 10 (fun x1 => bAR 14 x1 l2 (fun x2 => bGR 7 l1 10 (fun x3 => bAR 14 x3 l2 (fun x4 => bCallV 3 x2 (fX3_copyFrom x2 x4) (fun _ => r154 l0 l1 (l2 + 1)))))))
theorem qX7_copyFrom_154  (n : Nat) (l0 : Nat) (l1 : Nat) (l2 : Int32) : fX7_copyFrom_154 (n + 1) l0 l1 l2 = bIf ((12 : Int32) ≤ l2) (bRet ()) (bGR 7 l0 10 (fun x1 => bAR 14 x1 l2 (fun x2 => bGR 7 l1 10 (fun x3 => bAR 14 x3 l2 (fun x4 => bCallV 3 x2 (fX3_copyFrom x2 x4) (fun _ => (fX7_copyFrom_154 n) l0 l1 (l2 + 1))))))) := rfl
set_option maxRecDepth 20000 in
theorem rX7_copyFrom_154 (v : mE) (d : Nat) : ∀ (n : Nat) (l0 : Nat) (l1 : Nat) (l2 : Int32), Rz v RX7 cX7_copyFrom 3 none false emU (d + 2) 154 [(0, vR l0), (1, vR l1), (2, vI l2)] [] (fX7_copyFrom_154 n l0 l1 l2)
  | 0, _, _, _ => fun _ _ _ hm => by cases hm
  | n + 1, l0, l1, l2 => by
    have h154 := rX7_copyFrom_154 v d n
    unfold fX7_copyFrom_154
    generalize fX7_copyFrom_154 n = r154 at h154 ⊢
    refine rz_iload_n 155 2 dX7_copyFrom_154 rfl rfl ?_
    refine rz_bipush 157 dX7_copyFrom_155 rfl cb_12 ?_
    refine rz_icmp_ge 181 160 dX7_copyFrom_157 rfl rfl ?_ ?_
    · exact rz_return rfl rfl dX7_copyFrom_181
    · refine rz_aload_n 161 0 dX7_copyFrom_160 rfl rfl ?_
      refine rz_gR 164 dX7_copyFrom_161 rfl rfl fl_X7_45 (fun x1 => ?_)
      refine rz_iload_n 165 2 dX7_copyFrom_164 rfl rfl ?_
      refine rz_aald 166 dX7_copyFrom_165 rfl (by decide) (fun x2 => ?_)
      refine rz_aload_n 167 1 dX7_copyFrom_166 rfl rfl ?_
      refine rz_gR 170 dX7_copyFrom_167 rfl rfl fl_X7_45 (fun x3 => ?_)
      refine rz_iload_n 171 2 dX7_copyFrom_170 rfl rfl ?_
      refine rz_aald 172 dX7_copyFrom_171 rfl (by decide) (fun x4 => ?_)
      refine rz_callV 175 dX7_copyFrom_172 rfl (tX3_copyFrom v (d + 0) x2 x4) rfl rfl rfl rfl ml_X7_78 im_X3_copyFrom se_X3_X3_copyFrom in_X3 co_X3_copyFrom rfl rfl (fun _ => ?_)
      refine rz_iinc (lv' := [(2, vI (l2 + 1)), (0, vR l0), (1, vR l1)]) 178 2 dX7_copyFrom_175 rfl rfl (cn_1 _) rfl rfl ?_
      refine rz_goto 154 dX7_copyFrom_178 rfl ?_
      exact rz_sub [1, 2, 0] rfl (h154 l0 l1 (l2 + 1))
def fX7_copyFrom (l0 : Nat) (l1 : Nat) : mM Unit := bGI 7 l1 0 (fun x1 => bPI 7 l0 0 x1 (bGI 7 l1 1 (fun x2 => bPI 7 l0 1 x2 (bGI 7 l1 2 (fun x3 => bPI 7 l0 2 x3 (bGI 7 l1 3 (fun x4 => bPI 7 l0 3 x4 (bGI 7 l1 4 (fun x5 => bPI 7 l0 4 x5 (bGI 7 l1 5 (fun x6 => bPI 7 l0 5 x6 (bGI 7 l1 6 (fun x7 => bPI 7 l0 6 x7 (bGI 7 l1 7 (fun x8 => bPI 7 l0 7 x8 (bGI 7 l1 11 (fun x9 => bPI 7 l0 11 x9 (bGR 7 l1 16 (fun x10 => bPR 7 l0 16 x10 (bGR 7 l1 8 (fun x11 => bGR 7 l0 8 (fun x12 => bCpI x11 (0 : Int32) x12 (0 : Int32) (8 : Int32) (bGR 7 l1 9 (fun x13 => bGR 7 l0 9 (fun x14 => bCpI x13 (0 : Int32) x14 (0 : Int32) (8 : Int32) (bGR 7 l1 12 (fun x15 => bGR 7 l0 12 (fun x16 => bCpI x15 (0 : Int32) x16 (0 : Int32) (4 : Int32) (bGR 7 l1 13 (fun x17 => bGR 7 l0 13 (fun x18 => bCpI x17 (0 : Int32) x18 (0 : Int32) (4 : Int32) (bGR 7 l1 14 (fun x19 => bGR 7 l0 14 (fun x20 => bCpI x19 (0 : Int32) x20 (0 : Int32) (4 : Int32) (fX7_copyFrom_154 fu l0 l1 (0 : Int32))))))))))))))))))))))))))))))))))))
set_option maxRecDepth 20000 in
theorem rX7_copyFrom (v : mE) (d : Nat) (l0 : Nat) (l1 : Nat) : Rz v RX7 cX7_copyFrom 3 none false emU (d + 2) 0 [(0, vR l0), (1, vR l1)] [] (fX7_copyFrom l0 l1) := by
  unfold fX7_copyFrom
  refine rz_aload_n 1 0 dX7_copyFrom_0 rfl rfl ?_
  refine rz_aload_n 2 1 dX7_copyFrom_1 rfl rfl ?_
  refine rz_gI 5 dX7_copyFrom_2 rfl rfl fl_X7_9 (fun x1 => ?_)
  refine rz_pI 8 dX7_copyFrom_5 rfl rfl rfl rfl fl_X7_9 ?_
  refine rz_aload_n 9 0 dX7_copyFrom_8 rfl rfl ?_
  refine rz_aload_n 10 1 dX7_copyFrom_9 rfl rfl ?_
  refine rz_gI 13 dX7_copyFrom_10 rfl rfl fl_X7_15 (fun x2 => ?_)
  refine rz_pI 16 dX7_copyFrom_13 rfl rfl rfl rfl fl_X7_15 ?_
  refine rz_aload_n 17 0 dX7_copyFrom_16 rfl rfl ?_
  refine rz_aload_n 18 1 dX7_copyFrom_17 rfl rfl ?_
  refine rz_gI 21 dX7_copyFrom_18 rfl rfl fl_X7_18 (fun x3 => ?_)
  refine rz_pI 24 dX7_copyFrom_21 rfl rfl rfl rfl fl_X7_18 ?_
  refine rz_aload_n 25 0 dX7_copyFrom_24 rfl rfl ?_
  refine rz_aload_n 26 1 dX7_copyFrom_25 rfl rfl ?_
  refine rz_gI 29 dX7_copyFrom_26 rfl rfl fl_X7_21 (fun x4 => ?_)
  refine rz_pI 32 dX7_copyFrom_29 rfl rfl rfl rfl fl_X7_21 ?_
  refine rz_aload_n 33 0 dX7_copyFrom_32 rfl rfl ?_
  refine rz_aload_n 34 1 dX7_copyFrom_33 rfl rfl ?_
  refine rz_gI 37 dX7_copyFrom_34 rfl rfl fl_X7_24 (fun x5 => ?_)
  refine rz_pI 40 dX7_copyFrom_37 rfl rfl rfl rfl fl_X7_24 ?_
  refine rz_aload_n 41 0 dX7_copyFrom_40 rfl rfl ?_
  refine rz_aload_n 42 1 dX7_copyFrom_41 rfl rfl ?_
  refine rz_gI 45 dX7_copyFrom_42 rfl rfl fl_X7_27 (fun x6 => ?_)
  refine rz_pI 48 dX7_copyFrom_45 rfl rfl rfl rfl fl_X7_27 ?_
  refine rz_aload_n 49 0 dX7_copyFrom_48 rfl rfl ?_
  refine rz_aload_n 50 1 dX7_copyFrom_49 rfl rfl ?_
  refine rz_gI 53 dX7_copyFrom_50 rfl rfl fl_X7_30 (fun x7 => ?_)
  refine rz_pI 56 dX7_copyFrom_53 rfl rfl rfl rfl fl_X7_30 ?_
  refine rz_aload_n 57 0 dX7_copyFrom_56 rfl rfl ?_
  refine rz_aload_n 58 1 dX7_copyFrom_57 rfl rfl ?_
  refine rz_gI 61 dX7_copyFrom_58 rfl rfl fl_X7_33 (fun x8 => ?_)
  refine rz_pI 64 dX7_copyFrom_61 rfl rfl rfl rfl fl_X7_33 ?_
  refine rz_aload_n 65 0 dX7_copyFrom_64 rfl rfl ?_
  refine rz_aload_n 66 1 dX7_copyFrom_65 rfl rfl ?_
  refine rz_gI 69 dX7_copyFrom_66 rfl rfl fl_X7_49 (fun x9 => ?_)
  refine rz_pI 72 dX7_copyFrom_69 rfl rfl rfl rfl fl_X7_49 ?_
  refine rz_aload_n 73 0 dX7_copyFrom_72 rfl rfl ?_
  refine rz_aload_n 74 1 dX7_copyFrom_73 rfl rfl ?_
  refine rz_gR 77 dX7_copyFrom_74 rfl rfl fl_X7_64 (fun x10 => ?_)
  refine rz_pR 80 dX7_copyFrom_77 rfl rfl rfl fl_X7_64 ?_
  refine rz_aload_n 81 1 dX7_copyFrom_80 rfl rfl ?_
  refine rz_gR 84 dX7_copyFrom_81 rfl rfl fl_X7_36 (fun x11 => ?_)
  refine rz_iconst 85 dX7_copyFrom_84 rfl ci_0 ?_
  refine rz_aload_n 86 0 dX7_copyFrom_85 rfl rfl ?_
  refine rz_gR 89 dX7_copyFrom_86 rfl rfl fl_X7_36 (fun x12 => ?_)
  refine rz_iconst 90 dX7_copyFrom_89 rfl ci_0 ?_
  refine rz_bipush 92 dX7_copyFrom_90 rfl cb_8 ?_
  refine rz_copyI 95 dX7_copyFrom_92 rfl ml_X7_72 rfl rfl ?_
  refine rz_aload_n 96 1 dX7_copyFrom_95 rfl rfl ?_
  refine rz_gR 99 dX7_copyFrom_96 rfl rfl fl_X7_40 (fun x13 => ?_)
  refine rz_iconst 100 dX7_copyFrom_99 rfl ci_0 ?_
  refine rz_aload_n 101 0 dX7_copyFrom_100 rfl rfl ?_
  refine rz_gR 104 dX7_copyFrom_101 rfl rfl fl_X7_40 (fun x14 => ?_)
  refine rz_iconst 105 dX7_copyFrom_104 rfl ci_0 ?_
  refine rz_bipush 107 dX7_copyFrom_105 rfl cb_8 ?_
  refine rz_copyI 110 dX7_copyFrom_107 rfl ml_X7_72 rfl rfl ?_
  refine rz_aload_n 111 1 dX7_copyFrom_110 rfl rfl ?_
  refine rz_gR 114 dX7_copyFrom_111 rfl rfl fl_X7_52 (fun x15 => ?_)
  refine rz_iconst 115 dX7_copyFrom_114 rfl ci_0 ?_
  refine rz_aload_n 116 0 dX7_copyFrom_115 rfl rfl ?_
  refine rz_gR 119 dX7_copyFrom_116 rfl rfl fl_X7_52 (fun x16 => ?_)
  refine rz_iconst 120 dX7_copyFrom_119 rfl ci_0 ?_
  refine rz_iconst 121 dX7_copyFrom_120 rfl ci_4 ?_
  refine rz_copyI 124 dX7_copyFrom_121 rfl ml_X7_72 rfl rfl ?_
  refine rz_aload_n 125 1 dX7_copyFrom_124 rfl rfl ?_
  refine rz_gR 128 dX7_copyFrom_125 rfl rfl fl_X7_55 (fun x17 => ?_)
  refine rz_iconst 129 dX7_copyFrom_128 rfl ci_0 ?_
  refine rz_aload_n 130 0 dX7_copyFrom_129 rfl rfl ?_
  refine rz_gR 133 dX7_copyFrom_130 rfl rfl fl_X7_55 (fun x18 => ?_)
  refine rz_iconst 134 dX7_copyFrom_133 rfl ci_0 ?_
  refine rz_iconst 135 dX7_copyFrom_134 rfl ci_4 ?_
  refine rz_copyI 138 dX7_copyFrom_135 rfl ml_X7_72 rfl rfl ?_
  refine rz_aload_n 139 1 dX7_copyFrom_138 rfl rfl ?_
  refine rz_gR 142 dX7_copyFrom_139 rfl rfl fl_X7_58 (fun x19 => ?_)
  refine rz_iconst 143 dX7_copyFrom_142 rfl ci_0 ?_
  refine rz_aload_n 144 0 dX7_copyFrom_143 rfl rfl ?_
  refine rz_gR 147 dX7_copyFrom_144 rfl rfl fl_X7_58 (fun x20 => ?_)
  refine rz_iconst 148 dX7_copyFrom_147 rfl ci_0 ?_
  refine rz_iconst 149 dX7_copyFrom_148 rfl ci_4 ?_
  refine rz_copyI 152 dX7_copyFrom_149 rfl ml_X7_72 rfl rfl ?_
  refine rz_iconst 153 dX7_copyFrom_152 rfl ci_0 ?_
  refine rz_istore_n (lv' := [(2, vI (0 : Int32)), (0, vR l0), (1, vR l1)]) 154 dX7_copyFrom_153 rfl rfl rfl ?_
  exact rz_sub [1, 2, 0] rfl (rX7_copyFrom_154 v d fu l0 l1 (0 : Int32))
theorem tX7_copyFrom (v : mE) (d : Nat) (l0 : Nat) (l1 : Nat) : Mt v yX7_copyFrom cX7_copyFrom 3 none emU (d + 2) [vR l0, vR l1] (fX7_copyFrom l0 l1) := mt_of rfl rfl (fun h => by cases h) rfl rfl (rX7_copyFrom v d l0 l1)
theorem dX7_isAlive_0 : decode cX7_isAlive 0 = .ok (.aload_n 0, 1) := by decide +kernel
theorem dX7_isAlive_1 : decode cX7_isAlive 1 = .ok (.getfield 40, 3) := by decide +kernel
theorem dX7_isAlive_4 : decode cX7_isAlive 4 = .ok (.iload_n 1, 1) := by decide +kernel
theorem dX7_isAlive_5 : decode cX7_isAlive 5 = .ok (.iaload, 1) := by decide +kernel
theorem dX7_isAlive_6 : decode cX7_isAlive 6 = .ok (.iconst (-1), 1) := by decide +kernel
theorem dX7_isAlive_7 : decode cX7_isAlive 7 = .ok (.if_icmp .eq 16, 3) := by decide +kernel
theorem dX7_isAlive_10 : decode cX7_isAlive 10 = .ok (.aload_n 0, 1) := by decide +kernel
theorem dX7_isAlive_11 : decode cX7_isAlive 11 = .ok (.getfield 9, 3) := by decide +kernel
theorem dX7_isAlive_14 : decode cX7_isAlive 14 = .ok (.aload_n 0, 1) := by decide +kernel
theorem dX7_isAlive_15 : decode cX7_isAlive 15 = .ok (.getfield 40, 3) := by decide +kernel
theorem dX7_isAlive_18 : decode cX7_isAlive 18 = .ok (.iload_n 1, 1) := by decide +kernel
theorem dX7_isAlive_19 : decode cX7_isAlive 19 = .ok (.iaload, 1) := by decide +kernel
theorem dX7_isAlive_20 : decode cX7_isAlive 20 = .ok (.if_icmp .ge 7, 3) := by decide +kernel
theorem dX7_isAlive_23 : decode cX7_isAlive 23 = .ok (.iconst 1, 1) := by decide +kernel
theorem dX7_isAlive_24 : decode cX7_isAlive 24 = .ok (.goto 4, 3) := by decide +kernel
theorem dX7_isAlive_27 : decode cX7_isAlive 27 = .ok (.iconst 0, 1) := by decide +kernel
theorem dX7_isAlive_28 : decode cX7_isAlive 28 = .ok (.ireturn, 1) := by decide +kernel
def fX7_isAlive (l0 : Nat) (l1 : Int32) : mM Int32 := bGR 7 l0 9 (fun x1 => bAI 11 x1 l1 (fun x2 => bIf (x2 = (-1 : Int32)) (bRetZ (1 : Int32)) (bGI 7 l0 0 (fun x3 => bGR 7 l0 9 (fun x4 => bAI 11 x4 l1 (fun x5 => bIf (x5 ≤ x3) (bRetZ (0 : Int32)) (bRetZ (1 : Int32))))))))
set_option maxRecDepth 20000 in
theorem rX7_isAlive (v : mE) (d : Nat) (l0 : Nat) (l1 : Int32) : Rz v RX7 cX7_isAlive 2 (some .boolean) false emI (d + 0) 0 [(0, vR l0), (1, vI l1)] [] (fX7_isAlive l0 l1) := by
  unfold fX7_isAlive
  refine rz_aload_n 1 0 dX7_isAlive_0 rfl rfl ?_
  refine rz_gR 4 dX7_isAlive_1 rfl rfl fl_X7_40 (fun x1 => ?_)
  refine rz_iload_n 5 1 dX7_isAlive_4 rfl rfl ?_
  refine rz_iald 6 dX7_isAlive_5 rfl (fun x2 => ?_)
  refine rz_iconst 7 dX7_isAlive_6 rfl ci_m1 ?_
  refine rz_icmp_eq 23 10 dX7_isAlive_7 rfl rfl ?_ ?_
  · refine rz_iconst 24 dX7_isAlive_23 rfl ci_1 ?_
    refine rz_goto 28 dX7_isAlive_24 rfl ?_
    exact rz_zreturn rfl rfl dX7_isAlive_28
  · refine rz_aload_n 11 0 dX7_isAlive_10 rfl rfl ?_
    refine rz_gI 14 dX7_isAlive_11 rfl rfl fl_X7_9 (fun x3 => ?_)
    refine rz_aload_n 15 0 dX7_isAlive_14 rfl rfl ?_
    refine rz_gR 18 dX7_isAlive_15 rfl rfl fl_X7_40 (fun x4 => ?_)
    refine rz_iload_n 19 1 dX7_isAlive_18 rfl rfl ?_
    refine rz_iald 20 dX7_isAlive_19 rfl (fun x5 => ?_)
    refine rz_icmp_ge 27 23 dX7_isAlive_20 rfl rfl ?_ ?_
    · refine rz_iconst 28 dX7_isAlive_27 rfl ci_0 ?_
      exact rz_zreturn rfl rfl dX7_isAlive_28
    · refine rz_iconst 24 dX7_isAlive_23 rfl ci_1 ?_
      refine rz_goto 28 dX7_isAlive_24 rfl ?_
      exact rz_zreturn rfl rfl dX7_isAlive_28
theorem tX7_isAlive (v : mE) (d : Nat) (l0 : Nat) (l1 : Int32) : Mt v yX7_isAlive cX7_isAlive 2 (some .boolean) emI (d + 0) [vR l0, vI l1] (fX7_isAlive l0 l1) := mt_of rfl rfl (fun h => by cases h) rfl rfl (rX7_isAlive v d l0 l1)
theorem dX7_countAlive_0 : decode cX7_countAlive 0 = .ok (.iconst 0, 1) := by decide +kernel
theorem dX7_countAlive_1 : decode cX7_countAlive 1 = .ok (.istore_n 1, 1) := by decide +kernel
theorem dX7_countAlive_2 : decode cX7_countAlive 2 = .ok (.iconst 0, 1) := by decide +kernel
theorem dX7_countAlive_3 : decode cX7_countAlive 3 = .ok (.istore_n 2, 1) := by decide +kernel
theorem dX7_countAlive_4 : decode cX7_countAlive 4 = .ok (.iload_n 2, 1) := by decide +kernel
theorem dX7_countAlive_5 : decode cX7_countAlive 5 = .ok (.aload_n 0, 1) := by decide +kernel
theorem dX7_countAlive_6 : decode cX7_countAlive 6 = .ok (.getfield 33, 3) := by decide +kernel
theorem dX7_countAlive_9 : decode cX7_countAlive 9 = .ok (.if_icmp .ge 20, 3) := by decide +kernel
theorem dX7_countAlive_12 : decode cX7_countAlive 12 = .ok (.aload_n 0, 1) := by decide +kernel
theorem dX7_countAlive_13 : decode cX7_countAlive 13 = .ok (.iload_n 2, 1) := by decide +kernel
theorem dX7_countAlive_14 : decode cX7_countAlive 14 = .ok (.invokevirtual 82, 3) := by decide +kernel
theorem dX7_countAlive_17 : decode cX7_countAlive 17 = .ok (.ifCond .eq 6, 3) := by decide +kernel
theorem dX7_countAlive_20 : decode cX7_countAlive 20 = .ok (.iinc 1 1, 3) := by decide +kernel
theorem dX7_countAlive_23 : decode cX7_countAlive 23 = .ok (.iinc 2 1, 3) := by decide +kernel
theorem dX7_countAlive_26 : decode cX7_countAlive 26 = .ok (.goto (-22), 3) := by decide +kernel
theorem dX7_countAlive_29 : decode cX7_countAlive 29 = .ok (.iload_n 1, 1) := by decide +kernel
theorem dX7_countAlive_30 : decode cX7_countAlive 30 = .ok (.ireturn, 1) := by decide +kernel
def fX7_countAlive_4 : Nat → Nat → Int32 → Int32 → mM Int32
  | 0 => fun _ _ _ => fun _ => none
  | n + 1 => fun l0 l1 l2 => let r4 := fX7_countAlive_4 n; bGI 7 l0 7 (fun x1 => bIf (x1 ≤ l2) (bRet l1) (bCallV 7 l0 (fX7_isAlive l0 l2) (fun x2 => bIf (x2 = 0) (r4 l0 l1 (l2 + 1)) (r4 l0 (l1 + 1) (l2 + 1)))))
theorem qX7_countAlive_4  (n : Nat) (l0 : Nat) (l1 : Int32) (l2 : Int32) : fX7_countAlive_4 (n + 1) l0 l1 l2 = bGI 7 l0 7 (fun x1 => bIf (x1 ≤ l2) (bRet l1) (bCallV 7 l0 (fX7_isAlive l0 l2) (fun x2 => bIf (x2 = 0) ((fX7_countAlive_4 n) l0 l1 (l2 + 1)) ((fX7_countAlive_4 n) l0 (l1 + 1) (l2 + 1))))) := rfl
set_option maxRecDepth 20000 in
theorem rX7_countAlive_4 (v : mE) (d : Nat) : ∀ (n : Nat) (l0 : Nat) (l1 : Int32) (l2 : Int32), Rz v RX7 cX7_countAlive 3 (some .int) false emI (d + 1) 4 [(0, vR l0), (1, vI l1), (2, vI l2)] [] (fX7_countAlive_4 n l0 l1 l2)
  | 0, _, _, _ => fun _ _ _ hm => by cases hm
  | n + 1, l0, l1, l2 => by
    have h4 := rX7_countAlive_4 v d n
    unfold fX7_countAlive_4
    generalize fX7_countAlive_4 n = r4 at h4 ⊢
    refine rz_iload_n 5 2 dX7_countAlive_4 rfl rfl ?_
    refine rz_aload_n 6 0 dX7_countAlive_5 rfl rfl ?_
    refine rz_gI 9 dX7_countAlive_6 rfl rfl fl_X7_33 (fun x1 => ?_)
    refine rz_icmp_ge 29 12 dX7_countAlive_9 rfl rfl ?_ ?_
    · refine rz_iload_n 30 1 dX7_countAlive_29 rfl rfl ?_
      exact rz_ireturn rfl rfl dX7_countAlive_30
    · refine rz_aload_n 13 0 dX7_countAlive_12 rfl rfl ?_
      refine rz_iload_n 14 2 dX7_countAlive_13 rfl rfl ?_
      refine rz_callV 17 dX7_countAlive_14 rfl (tX7_isAlive v (d + 0) l0 l2) rfl rfl rfl rfl ml_X7_82 im_X7_isAlive se_X7_X7_isAlive in_X7 co_X7_isAlive rfl rfl (fun x2 => ?_)
      refine rz_if_eq 23 20 dX7_countAlive_17 rfl rfl ?_ ?_
      · refine rz_iinc (lv' := [(2, vI (l2 + 1)), (0, vR l0), (1, vI l1)]) 26 2 dX7_countAlive_23 rfl rfl (cn_1 _) rfl rfl ?_
        refine rz_goto 4 dX7_countAlive_26 rfl ?_
        exact rz_sub [1, 2, 0] rfl (h4 l0 l1 (l2 + 1))
      · refine rz_iinc (lv' := [(1, vI (l1 + 1)), (0, vR l0), (2, vI l2)]) 23 1 dX7_countAlive_20 rfl rfl (cn_1 _) rfl rfl ?_
        refine rz_iinc (lv' := [(2, vI (l2 + 1)), (1, vI (l1 + 1)), (0, vR l0)]) 26 2 dX7_countAlive_23 rfl rfl (cn_1 _) rfl rfl ?_
        refine rz_goto 4 dX7_countAlive_26 rfl ?_
        exact rz_sub [2, 1, 0] rfl (h4 l0 (l1 + 1) (l2 + 1))
def fX7_countAlive (l0 : Nat) : mM Int32 := fX7_countAlive_4 fu l0 (0 : Int32) (0 : Int32)
set_option maxRecDepth 20000 in
theorem rX7_countAlive (v : mE) (d : Nat) (l0 : Nat) : Rz v RX7 cX7_countAlive 3 (some .int) false emI (d + 1) 0 [(0, vR l0)] [] (fX7_countAlive l0) := by
  unfold fX7_countAlive
  refine rz_iconst 1 dX7_countAlive_0 rfl ci_0 ?_
  refine rz_istore_n (lv' := [(1, vI (0 : Int32)), (0, vR l0)]) 2 dX7_countAlive_1 rfl rfl rfl ?_
  refine rz_iconst 3 dX7_countAlive_2 rfl ci_0 ?_
  refine rz_istore_n (lv' := [(2, vI (0 : Int32)), (1, vI (0 : Int32)), (0, vR l0)]) 4 dX7_countAlive_3 rfl rfl rfl ?_
  exact rz_sub [2, 1, 0] rfl (rX7_countAlive_4 v d fu l0 (0 : Int32) (0 : Int32))
theorem tX7_countAlive (v : mE) (d : Nat) (l0 : Nat) : Mt v yX7_countAlive cX7_countAlive 3 (some .int) emI (d + 1) [vR l0] (fX7_countAlive l0) := mt_of rfl rfl (fun h => by cases h) rfl rfl (rX7_countAlive v d l0)
theorem dX7_leastOf_0 : decode cX7_leastOf 0 = .ok (.iconst 0, 1) := by decide +kernel
theorem dX7_leastOf_1 : decode cX7_leastOf 1 = .ok (.istore_n 1, 1) := by decide +kernel
theorem dX7_leastOf_2 : decode cX7_leastOf 2 = .ok (.iload_n 1, 1) := by decide +kernel
theorem dX7_leastOf_3 : decode cX7_leastOf 3 = .ok (.bipush 8, 2) := by decide +kernel
theorem dX7_leastOf_5 : decode cX7_leastOf 5 = .ok (.if_icmp .ge 20, 3) := by decide +kernel
theorem dX7_leastOf_8 : decode cX7_leastOf 8 = .ok (.iload_n 0, 1) := by decide +kernel
theorem dX7_leastOf_9 : decode cX7_leastOf 9 = .ok (.iload_n 1, 1) := by decide +kernel
theorem dX7_leastOf_10 : decode cX7_leastOf 10 = .ok (.ishr, 1) := by decide +kernel
theorem dX7_leastOf_11 : decode cX7_leastOf 11 = .ok (.iconst 1, 1) := by decide +kernel
theorem dX7_leastOf_12 : decode cX7_leastOf 12 = .ok (.iand, 1) := by decide +kernel
theorem dX7_leastOf_13 : decode cX7_leastOf 13 = .ok (.iconst 1, 1) := by decide +kernel
theorem dX7_leastOf_14 : decode cX7_leastOf 14 = .ok (.if_icmp .ne 5, 3) := by decide +kernel
theorem dX7_leastOf_17 : decode cX7_leastOf 17 = .ok (.iload_n 1, 1) := by decide +kernel
theorem dX7_leastOf_18 : decode cX7_leastOf 18 = .ok (.ireturn, 1) := by decide +kernel
theorem dX7_leastOf_19 : decode cX7_leastOf 19 = .ok (.iinc 1 1, 3) := by decide +kernel
theorem dX7_leastOf_22 : decode cX7_leastOf 22 = .ok (.goto (-20), 3) := by decide +kernel
theorem dX7_leastOf_25 : decode cX7_leastOf 25 = .ok (.iconst (-1), 1) := by decide +kernel
theorem dX7_leastOf_26 : decode cX7_leastOf 26 = .ok (.ireturn, 1) := by decide +kernel
def fX7_leastOf_2 : Nat → Int32 → Int32 → mM Int32
  | 0 => fun _ _ => fun _ => none
  | n + 1 => fun l0 l1 => let r2 := fX7_leastOf_2 n; bIf ((8 : Int32) ≤ l1) (bRet (-1 : Int32)) (bIf (((l0 >>> (l1 &&& 31)) &&& (1 : Int32)) = (1 : Int32)) (bRet l1) (r2 l0 (l1 + 1)))
theorem qX7_leastOf_2  (n : Nat) (l0 : Int32) (l1 : Int32) : fX7_leastOf_2 (n + 1) l0 l1 = bIf ((8 : Int32) ≤ l1) (bRet (-1 : Int32)) (bIf (((l0 >>> (l1 &&& 31)) &&& (1 : Int32)) = (1 : Int32)) (bRet l1) ((fX7_leastOf_2 n) l0 (l1 + 1))) := rfl
set_option maxRecDepth 20000 in
theorem rX7_leastOf_2 (v : mE) (d : Nat) : ∀ (n : Nat) (l0 : Int32) (l1 : Int32), Rz v RX7 cX7_leastOf 2 (some .int) false emI (d + 0) 2 [(0, vI l0), (1, vI l1)] [] (fX7_leastOf_2 n l0 l1)
  | 0, _, _ => fun _ _ _ hm => by cases hm
  | n + 1, l0, l1 => by
    have h2 := rX7_leastOf_2 v d n
    unfold fX7_leastOf_2
    generalize fX7_leastOf_2 n = r2 at h2 ⊢
    refine rz_iload_n 3 1 dX7_leastOf_2 rfl rfl ?_
    refine rz_bipush 5 dX7_leastOf_3 rfl cb_8 ?_
    refine rz_icmp_ge 25 8 dX7_leastOf_5 rfl rfl ?_ ?_
    · refine rz_iconst 26 dX7_leastOf_25 rfl ci_m1 ?_
      exact rz_ireturn rfl rfl dX7_leastOf_26
    · refine rz_iload_n 9 0 dX7_leastOf_8 rfl rfl ?_
      refine rz_iload_n 10 1 dX7_leastOf_9 rfl rfl ?_
      refine rz_ishr 11 dX7_leastOf_10 rfl ?_
      refine rz_iconst 12 dX7_leastOf_11 rfl ci_1 ?_
      refine rz_iand 13 dX7_leastOf_12 rfl ?_
      refine rz_iconst 14 dX7_leastOf_13 rfl ci_1 ?_
      refine rz_icmp_ne 19 17 dX7_leastOf_14 rfl rfl ?_ ?_
      · refine rz_iinc (lv' := [(1, vI (l1 + 1)), (0, vI l0)]) 22 1 dX7_leastOf_19 rfl rfl (cn_1 _) rfl rfl ?_
        refine rz_goto 2 dX7_leastOf_22 rfl ?_
        exact rz_sub [1, 0] rfl (h2 l0 (l1 + 1))
      · refine rz_iload_n 18 1 dX7_leastOf_17 rfl rfl ?_
        exact rz_ireturn rfl rfl dX7_leastOf_18
def fX7_leastOf (l0 : Int32) : mM Int32 := fX7_leastOf_2 fu l0 (0 : Int32)
set_option maxRecDepth 20000 in
theorem rX7_leastOf (v : mE) (d : Nat) (l0 : Int32) : Rz v RX7 cX7_leastOf 2 (some .int) false emI (d + 0) 0 [(0, vI l0)] [] (fX7_leastOf l0) := by
  unfold fX7_leastOf
  refine rz_iconst 1 dX7_leastOf_0 rfl ci_0 ?_
  refine rz_istore_n (lv' := [(1, vI (0 : Int32)), (0, vI l0)]) 2 dX7_leastOf_1 rfl rfl rfl ?_
  exact rz_sub [1, 0] rfl (rX7_leastOf_2 v d fu l0 (0 : Int32))
theorem tX7_leastOf (v : mE) (d : Nat) (l0 : Int32) : Mt v yX7_leastOf cX7_leastOf 2 (some .int) emI (d + 0) [vI l0] (fX7_leastOf l0) := mt_of rfl rfl (fun h => by cases h) rfl rfl (rX7_leastOf v d l0)
theorem dX7_greatestOf_0 : decode cX7_greatestOf 0 = .ok (.bipush 7, 2) := by decide +kernel
theorem dX7_greatestOf_2 : decode cX7_greatestOf 2 = .ok (.istore_n 1, 1) := by decide +kernel
theorem dX7_greatestOf_3 : decode cX7_greatestOf 3 = .ok (.iload_n 1, 1) := by decide +kernel
theorem dX7_greatestOf_4 : decode cX7_greatestOf 4 = .ok (.ifCond .lt 20, 3) := by decide +kernel
theorem dX7_greatestOf_7 : decode cX7_greatestOf 7 = .ok (.iload_n 0, 1) := by decide +kernel
theorem dX7_greatestOf_8 : decode cX7_greatestOf 8 = .ok (.iload_n 1, 1) := by decide +kernel
theorem dX7_greatestOf_9 : decode cX7_greatestOf 9 = .ok (.ishr, 1) := by decide +kernel
theorem dX7_greatestOf_10 : decode cX7_greatestOf 10 = .ok (.iconst 1, 1) := by decide +kernel
theorem dX7_greatestOf_11 : decode cX7_greatestOf 11 = .ok (.iand, 1) := by decide +kernel
theorem dX7_greatestOf_12 : decode cX7_greatestOf 12 = .ok (.iconst 1, 1) := by decide +kernel
theorem dX7_greatestOf_13 : decode cX7_greatestOf 13 = .ok (.if_icmp .ne 5, 3) := by decide +kernel
theorem dX7_greatestOf_16 : decode cX7_greatestOf 16 = .ok (.iload_n 1, 1) := by decide +kernel
theorem dX7_greatestOf_17 : decode cX7_greatestOf 17 = .ok (.ireturn, 1) := by decide +kernel
theorem dX7_greatestOf_18 : decode cX7_greatestOf 18 = .ok (.iinc 1 (-1), 3) := by decide +kernel
theorem dX7_greatestOf_21 : decode cX7_greatestOf 21 = .ok (.goto (-18), 3) := by decide +kernel
theorem dX7_greatestOf_24 : decode cX7_greatestOf 24 = .ok (.iconst (-1), 1) := by decide +kernel
theorem dX7_greatestOf_25 : decode cX7_greatestOf 25 = .ok (.ireturn, 1) := by decide +kernel
def fX7_greatestOf_3 : Nat → Int32 → Int32 → mM Int32
  | 0 => fun _ _ => fun _ => none
  | n + 1 => fun l0 l1 => let r3 := fX7_greatestOf_3 n; bIf (l1 < 0) (bRet (-1 : Int32)) (bIf (((l0 >>> (l1 &&& 31)) &&& (1 : Int32)) = (1 : Int32)) (bRet l1) (r3 l0 (l1 + (-1))))
theorem qX7_greatestOf_3  (n : Nat) (l0 : Int32) (l1 : Int32) : fX7_greatestOf_3 (n + 1) l0 l1 = bIf (l1 < 0) (bRet (-1 : Int32)) (bIf (((l0 >>> (l1 &&& 31)) &&& (1 : Int32)) = (1 : Int32)) (bRet l1) ((fX7_greatestOf_3 n) l0 (l1 + (-1)))) := rfl
set_option maxRecDepth 20000 in
theorem rX7_greatestOf_3 (v : mE) (d : Nat) : ∀ (n : Nat) (l0 : Int32) (l1 : Int32), Rz v RX7 cX7_greatestOf 2 (some .int) false emI (d + 0) 3 [(0, vI l0), (1, vI l1)] [] (fX7_greatestOf_3 n l0 l1)
  | 0, _, _ => fun _ _ _ hm => by cases hm
  | n + 1, l0, l1 => by
    have h3 := rX7_greatestOf_3 v d n
    unfold fX7_greatestOf_3
    generalize fX7_greatestOf_3 n = r3 at h3 ⊢
    refine rz_iload_n 4 1 dX7_greatestOf_3 rfl rfl ?_
    refine rz_if_lt 24 7 dX7_greatestOf_4 rfl rfl ?_ ?_
    · refine rz_iconst 25 dX7_greatestOf_24 rfl ci_m1 ?_
      exact rz_ireturn rfl rfl dX7_greatestOf_25
    · refine rz_iload_n 8 0 dX7_greatestOf_7 rfl rfl ?_
      refine rz_iload_n 9 1 dX7_greatestOf_8 rfl rfl ?_
      refine rz_ishr 10 dX7_greatestOf_9 rfl ?_
      refine rz_iconst 11 dX7_greatestOf_10 rfl ci_1 ?_
      refine rz_iand 12 dX7_greatestOf_11 rfl ?_
      refine rz_iconst 13 dX7_greatestOf_12 rfl ci_1 ?_
      refine rz_icmp_ne 18 16 dX7_greatestOf_13 rfl rfl ?_ ?_
      · refine rz_iinc (lv' := [(1, vI (l1 + (-1))), (0, vI l0)]) 21 1 dX7_greatestOf_18 rfl rfl (cn_m1 _) rfl rfl ?_
        refine rz_goto 3 dX7_greatestOf_21 rfl ?_
        exact rz_sub [1, 0] rfl (h3 l0 (l1 + (-1)))
      · refine rz_iload_n 17 1 dX7_greatestOf_16 rfl rfl ?_
        exact rz_ireturn rfl rfl dX7_greatestOf_17
def fX7_greatestOf (l0 : Int32) : mM Int32 := fX7_greatestOf_3 fu l0 (7 : Int32)
set_option maxRecDepth 20000 in
theorem rX7_greatestOf (v : mE) (d : Nat) (l0 : Int32) : Rz v RX7 cX7_greatestOf 2 (some .int) false emI (d + 0) 0 [(0, vI l0)] [] (fX7_greatestOf l0) := by
  unfold fX7_greatestOf
  refine rz_bipush 2 dX7_greatestOf_0 rfl cb_7 ?_
  refine rz_istore_n (lv' := [(1, vI (7 : Int32)), (0, vI l0)]) 3 dX7_greatestOf_2 rfl rfl rfl ?_
  exact rz_sub [1, 0] rfl (rX7_greatestOf_3 v d fu l0 (7 : Int32))
theorem tX7_greatestOf (v : mE) (d : Nat) (l0 : Int32) : Mt v yX7_greatestOf cX7_greatestOf 2 (some .int) emI (d + 0) [vI l0] (fX7_greatestOf l0) := mt_of rfl rfl (fun h => by cases h) rfl rfl (rX7_greatestOf v d l0)
theorem dX7_heirSet_0 : decode cX7_heirSet 0 = .ok (.iconst 0, 1) := by decide +kernel
theorem dX7_heirSet_1 : decode cX7_heirSet 1 = .ok (.istore_n 2, 1) := by decide +kernel
theorem dX7_heirSet_2 : decode cX7_heirSet 2 = .ok (.iconst 0, 1) := by decide +kernel
theorem dX7_heirSet_3 : decode cX7_heirSet 3 = .ok (.istore_n 3, 1) := by decide +kernel
theorem dX7_heirSet_4 : decode cX7_heirSet 4 = .ok (.iload_n 3, 1) := by decide +kernel
theorem dX7_heirSet_5 : decode cX7_heirSet 5 = .ok (.aload_n 0, 1) := by decide +kernel
theorem dX7_heirSet_6 : decode cX7_heirSet 6 = .ok (.getfield 33, 3) := by decide +kernel
theorem dX7_heirSet_9 : decode cX7_heirSet 9 = .ok (.if_icmp .ge 33, 3) := by decide +kernel
theorem dX7_heirSet_12 : decode cX7_heirSet 12 = .ok (.aload_n 0, 1) := by decide +kernel
theorem dX7_heirSet_13 : decode cX7_heirSet 13 = .ok (.getfield 36, 3) := by decide +kernel
theorem dX7_heirSet_16 : decode cX7_heirSet 16 = .ok (.iload_n 3, 1) := by decide +kernel
theorem dX7_heirSet_17 : decode cX7_heirSet 17 = .ok (.iaload, 1) := by decide +kernel
theorem dX7_heirSet_18 : decode cX7_heirSet 18 = .ok (.iload_n 1, 1) := by decide +kernel
theorem dX7_heirSet_19 : decode cX7_heirSet 19 = .ok (.if_icmp .ne 17, 3) := by decide +kernel
theorem dX7_heirSet_22 : decode cX7_heirSet 22 = .ok (.aload_n 0, 1) := by decide +kernel
theorem dX7_heirSet_23 : decode cX7_heirSet 23 = .ok (.iload_n 3, 1) := by decide +kernel
theorem dX7_heirSet_24 : decode cX7_heirSet 24 = .ok (.invokevirtual 82, 3) := by decide +kernel
theorem dX7_heirSet_27 : decode cX7_heirSet 27 = .ok (.ifCond .eq 9, 3) := by decide +kernel
theorem dX7_heirSet_30 : decode cX7_heirSet 30 = .ok (.iload_n 2, 1) := by decide +kernel
theorem dX7_heirSet_31 : decode cX7_heirSet 31 = .ok (.iconst 1, 1) := by decide +kernel
theorem dX7_heirSet_32 : decode cX7_heirSet 32 = .ok (.iload_n 3, 1) := by decide +kernel
theorem dX7_heirSet_33 : decode cX7_heirSet 33 = .ok (.ishl, 1) := by decide +kernel
theorem dX7_heirSet_34 : decode cX7_heirSet 34 = .ok (.ior, 1) := by decide +kernel
theorem dX7_heirSet_35 : decode cX7_heirSet 35 = .ok (.istore_n 2, 1) := by decide +kernel
theorem dX7_heirSet_36 : decode cX7_heirSet 36 = .ok (.iinc 3 1, 3) := by decide +kernel
theorem dX7_heirSet_39 : decode cX7_heirSet 39 = .ok (.goto (-35), 3) := by decide +kernel
theorem dX7_heirSet_42 : decode cX7_heirSet 42 = .ok (.iload_n 2, 1) := by decide +kernel
theorem dX7_heirSet_43 : decode cX7_heirSet 43 = .ok (.ireturn, 1) := by decide +kernel
def fX7_heirSet_4 : Nat → Nat → Int32 → Int32 → Int32 → mM Int32
  | 0 => fun _ _ _ _ => fun _ => none
  | n + 1 => fun l0 l1 l2 l3 => let r4 := fX7_heirSet_4 n; bGI 7 l0 7 (fun x1 => bIf (x1 ≤ l3) (bRet l2) (bGR 7 l0 8 (fun x2 => bAI 11 x2 l3 (fun x3 => bIf (x3 = l1) (bCallV 7 l0 (fX7_isAlive l0 l3) (fun x4 => bIf (x4 = 0) (r4 l0 l1 l2 (l3 + 1)) (r4 l0 l1 (l2 ||| ((1 : Int32) <<< (l3 &&& 31))) (l3 + 1)))) (r4 l0 l1 l2 (l3 + 1))))))
theorem qX7_heirSet_4  (n : Nat) (l0 : Nat) (l1 : Int32) (l2 : Int32) (l3 : Int32) : fX7_heirSet_4 (n + 1) l0 l1 l2 l3 = bGI 7 l0 7 (fun x1 => bIf (x1 ≤ l3) (bRet l2) (bGR 7 l0 8 (fun x2 => bAI 11 x2 l3 (fun x3 => bIf (x3 = l1) (bCallV 7 l0 (fX7_isAlive l0 l3) (fun x4 => bIf (x4 = 0) ((fX7_heirSet_4 n) l0 l1 l2 (l3 + 1)) ((fX7_heirSet_4 n) l0 l1 (l2 ||| ((1 : Int32) <<< (l3 &&& 31))) (l3 + 1)))) ((fX7_heirSet_4 n) l0 l1 l2 (l3 + 1)))))) := rfl
set_option maxRecDepth 20000 in
theorem rX7_heirSet_4 (v : mE) (d : Nat) : ∀ (n : Nat) (l0 : Nat) (l1 : Int32) (l2 : Int32) (l3 : Int32), Rz v RX7 cX7_heirSet 4 (some .int) false emI (d + 1) 4 [(0, vR l0), (1, vI l1), (2, vI l2), (3, vI l3)] [] (fX7_heirSet_4 n l0 l1 l2 l3)
  | 0, _, _, _, _ => fun _ _ _ hm => by cases hm
  | n + 1, l0, l1, l2, l3 => by
    have h4 := rX7_heirSet_4 v d n
    unfold fX7_heirSet_4
    generalize fX7_heirSet_4 n = r4 at h4 ⊢
    refine rz_iload_n 5 3 dX7_heirSet_4 rfl rfl ?_
    refine rz_aload_n 6 0 dX7_heirSet_5 rfl rfl ?_
    refine rz_gI 9 dX7_heirSet_6 rfl rfl fl_X7_33 (fun x1 => ?_)
    refine rz_icmp_ge 42 12 dX7_heirSet_9 rfl rfl ?_ ?_
    · refine rz_iload_n 43 2 dX7_heirSet_42 rfl rfl ?_
      exact rz_ireturn rfl rfl dX7_heirSet_43
    · refine rz_aload_n 13 0 dX7_heirSet_12 rfl rfl ?_
      refine rz_gR 16 dX7_heirSet_13 rfl rfl fl_X7_36 (fun x2 => ?_)
      refine rz_iload_n 17 3 dX7_heirSet_16 rfl rfl ?_
      refine rz_iald 18 dX7_heirSet_17 rfl (fun x3 => ?_)
      refine rz_iload_n 19 1 dX7_heirSet_18 rfl rfl ?_
      refine rz_icmp_ne 36 22 dX7_heirSet_19 rfl rfl ?_ ?_
      · refine rz_iinc (lv' := [(3, vI (l3 + 1)), (0, vR l0), (1, vI l1), (2, vI l2)]) 39 3 dX7_heirSet_36 rfl rfl (cn_1 _) rfl rfl ?_
        refine rz_goto 4 dX7_heirSet_39 rfl ?_
        exact rz_sub [1, 2, 3, 0] rfl (h4 l0 l1 l2 (l3 + 1))
      · refine rz_aload_n 23 0 dX7_heirSet_22 rfl rfl ?_
        refine rz_iload_n 24 3 dX7_heirSet_23 rfl rfl ?_
        refine rz_callV 27 dX7_heirSet_24 rfl (tX7_isAlive v (d + 0) l0 l3) rfl rfl rfl rfl ml_X7_82 im_X7_isAlive se_X7_X7_isAlive in_X7 co_X7_isAlive rfl rfl (fun x4 => ?_)
        refine rz_if_eq 36 30 dX7_heirSet_27 rfl rfl ?_ ?_
        · refine rz_iinc (lv' := [(3, vI (l3 + 1)), (0, vR l0), (1, vI l1), (2, vI l2)]) 39 3 dX7_heirSet_36 rfl rfl (cn_1 _) rfl rfl ?_
          refine rz_goto 4 dX7_heirSet_39 rfl ?_
          exact rz_sub [1, 2, 3, 0] rfl (h4 l0 l1 l2 (l3 + 1))
        · refine rz_iload_n 31 2 dX7_heirSet_30 rfl rfl ?_
          refine rz_iconst 32 dX7_heirSet_31 rfl ci_1 ?_
          refine rz_iload_n 33 3 dX7_heirSet_32 rfl rfl ?_
          refine rz_ishl 34 dX7_heirSet_33 rfl ?_
          refine rz_ior 35 dX7_heirSet_34 rfl ?_
          refine rz_istore_n (lv' := [(2, vI (l2 ||| ((1 : Int32) <<< (l3 &&& 31)))), (0, vR l0), (1, vI l1), (3, vI l3)]) 36 dX7_heirSet_35 rfl rfl rfl ?_
          refine rz_iinc (lv' := [(3, vI (l3 + 1)), (2, vI (l2 ||| ((1 : Int32) <<< (l3 &&& 31)))), (0, vR l0), (1, vI l1)]) 39 3 dX7_heirSet_36 rfl rfl (cn_1 _) rfl rfl ?_
          refine rz_goto 4 dX7_heirSet_39 rfl ?_
          exact rz_sub [2, 3, 1, 0] rfl (h4 l0 l1 (l2 ||| ((1 : Int32) <<< (l3 &&& 31))) (l3 + 1))
def fX7_heirSet (l0 : Nat) (l1 : Int32) : mM Int32 := fX7_heirSet_4 fu l0 l1 (0 : Int32) (0 : Int32)
set_option maxRecDepth 20000 in
theorem rX7_heirSet (v : mE) (d : Nat) (l0 : Nat) (l1 : Int32) : Rz v RX7 cX7_heirSet 4 (some .int) false emI (d + 1) 0 [(0, vR l0), (1, vI l1)] [] (fX7_heirSet l0 l1) := by
  unfold fX7_heirSet
  refine rz_iconst 1 dX7_heirSet_0 rfl ci_0 ?_
  refine rz_istore_n (lv' := [(2, vI (0 : Int32)), (0, vR l0), (1, vI l1)]) 2 dX7_heirSet_1 rfl rfl rfl ?_
  refine rz_iconst 3 dX7_heirSet_2 rfl ci_0 ?_
  refine rz_istore_n (lv' := [(3, vI (0 : Int32)), (2, vI (0 : Int32)), (0, vR l0), (1, vI l1)]) 4 dX7_heirSet_3 rfl rfl rfl ?_
  exact rz_sub [2, 3, 1, 0] rfl (rX7_heirSet_4 v d fu l0 l1 (0 : Int32) (0 : Int32))
theorem tX7_heirSet (v : mE) (d : Nat) (l0 : Nat) (l1 : Int32) : Mt v yX7_heirSet cX7_heirSet 4 (some .int) emI (d + 1) [vR l0, vI l1] (fX7_heirSet l0 l1) := mt_of rfl rfl (fun h => by cases h) rfl rfl (rX7_heirSet v d l0 l1)
theorem dX7_countRopes_0 : decode cX7_countRopes 0 = .ok (.iconst 0, 1) := by decide +kernel
theorem dX7_countRopes_1 : decode cX7_countRopes 1 = .ok (.istore_n 1, 1) := by decide +kernel
theorem dX7_countRopes_2 : decode cX7_countRopes 2 = .ok (.iconst 0, 1) := by decide +kernel
theorem dX7_countRopes_3 : decode cX7_countRopes 3 = .ok (.istore_n 2, 1) := by decide +kernel
theorem dX7_countRopes_4 : decode cX7_countRopes 4 = .ok (.iload_n 2, 1) := by decide +kernel
theorem dX7_countRopes_5 : decode cX7_countRopes 5 = .ok (.bipush 12, 2) := by decide +kernel
theorem dX7_countRopes_7 : decode cX7_countRopes 7 = .ok (.if_icmp .ge 24, 3) := by decide +kernel
theorem dX7_countRopes_10 : decode cX7_countRopes 10 = .ok (.aload_n 0, 1) := by decide +kernel
theorem dX7_countRopes_11 : decode cX7_countRopes 11 = .ok (.getfield 45, 3) := by decide +kernel
theorem dX7_countRopes_14 : decode cX7_countRopes 14 = .ok (.iload_n 2, 1) := by decide +kernel
theorem dX7_countRopes_15 : decode cX7_countRopes 15 = .ok (.aaload, 1) := by decide +kernel
theorem dX7_countRopes_16 : decode cX7_countRopes 16 = .ok (.invokevirtual 86, 3) := by decide +kernel
theorem dX7_countRopes_19 : decode cX7_countRopes 19 = .ok (.ifCond .eq 6, 3) := by decide +kernel
theorem dX7_countRopes_22 : decode cX7_countRopes 22 = .ok (.iinc 1 1, 3) := by decide +kernel
theorem dX7_countRopes_25 : decode cX7_countRopes 25 = .ok (.iinc 2 1, 3) := by decide +kernel
theorem dX7_countRopes_28 : decode cX7_countRopes 28 = .ok (.goto (-24), 3) := by decide +kernel
theorem dX7_countRopes_31 : decode cX7_countRopes 31 = .ok (.iload_n 1, 1) := by decide +kernel
theorem dX7_countRopes_32 : decode cX7_countRopes 32 = .ok (.ireturn, 1) := by decide +kernel
def fX7_countRopes_4 : Nat → Nat → Int32 → Int32 → mM Int32
  | 0 => fun _ _ _ => fun _ => none
  | n + 1 => fun l0 l1 l2 => let r4 := fX7_countRopes_4 n; bIf ((12 : Int32) ≤ l2) (bRet l1) (bGR 7 l0 10 (fun x1 => bAR 14 x1 l2 (fun x2 => bCallV 3 x2 (fX3_isThere x2) (fun x3 => bIf (x3 = 0) (r4 l0 l1 (l2 + 1)) (r4 l0 (l1 + 1) (l2 + 1))))))
theorem qX7_countRopes_4  (n : Nat) (l0 : Nat) (l1 : Int32) (l2 : Int32) : fX7_countRopes_4 (n + 1) l0 l1 l2 = bIf ((12 : Int32) ≤ l2) (bRet l1) (bGR 7 l0 10 (fun x1 => bAR 14 x1 l2 (fun x2 => bCallV 3 x2 (fX3_isThere x2) (fun x3 => bIf (x3 = 0) ((fX7_countRopes_4 n) l0 l1 (l2 + 1)) ((fX7_countRopes_4 n) l0 (l1 + 1) (l2 + 1)))))) := rfl
set_option maxRecDepth 20000 in
theorem rX7_countRopes_4 (v : mE) (d : Nat) : ∀ (n : Nat) (l0 : Nat) (l1 : Int32) (l2 : Int32), Rz v RX7 cX7_countRopes 3 (some .int) false emI (d + 1) 4 [(0, vR l0), (1, vI l1), (2, vI l2)] [] (fX7_countRopes_4 n l0 l1 l2)
  | 0, _, _, _ => fun _ _ _ hm => by cases hm
  | n + 1, l0, l1, l2 => by
    have h4 := rX7_countRopes_4 v d n
    unfold fX7_countRopes_4
    generalize fX7_countRopes_4 n = r4 at h4 ⊢
    refine rz_iload_n 5 2 dX7_countRopes_4 rfl rfl ?_
    refine rz_bipush 7 dX7_countRopes_5 rfl cb_12 ?_
    refine rz_icmp_ge 31 10 dX7_countRopes_7 rfl rfl ?_ ?_
    · refine rz_iload_n 32 1 dX7_countRopes_31 rfl rfl ?_
      exact rz_ireturn rfl rfl dX7_countRopes_32
    · refine rz_aload_n 11 0 dX7_countRopes_10 rfl rfl ?_
      refine rz_gR 14 dX7_countRopes_11 rfl rfl fl_X7_45 (fun x1 => ?_)
      refine rz_iload_n 15 2 dX7_countRopes_14 rfl rfl ?_
      refine rz_aald 16 dX7_countRopes_15 rfl (by decide) (fun x2 => ?_)
      refine rz_callV 19 dX7_countRopes_16 rfl (tX3_isThere v (d + 0) x2) rfl rfl rfl rfl ml_X7_86 im_X3_isThere se_X3_X3_isThere in_X3 co_X3_isThere rfl rfl (fun x3 => ?_)
      refine rz_if_eq 25 22 dX7_countRopes_19 rfl rfl ?_ ?_
      · refine rz_iinc (lv' := [(2, vI (l2 + 1)), (0, vR l0), (1, vI l1)]) 28 2 dX7_countRopes_25 rfl rfl (cn_1 _) rfl rfl ?_
        refine rz_goto 4 dX7_countRopes_28 rfl ?_
        exact rz_sub [1, 2, 0] rfl (h4 l0 l1 (l2 + 1))
      · refine rz_iinc (lv' := [(1, vI (l1 + 1)), (0, vR l0), (2, vI l2)]) 25 1 dX7_countRopes_22 rfl rfl (cn_1 _) rfl rfl ?_
        refine rz_iinc (lv' := [(2, vI (l2 + 1)), (1, vI (l1 + 1)), (0, vR l0)]) 28 2 dX7_countRopes_25 rfl rfl (cn_1 _) rfl rfl ?_
        refine rz_goto 4 dX7_countRopes_28 rfl ?_
        exact rz_sub [2, 1, 0] rfl (h4 l0 (l1 + 1) (l2 + 1))
def fX7_countRopes (l0 : Nat) : mM Int32 := fX7_countRopes_4 fu l0 (0 : Int32) (0 : Int32)
set_option maxRecDepth 20000 in
theorem rX7_countRopes (v : mE) (d : Nat) (l0 : Nat) : Rz v RX7 cX7_countRopes 3 (some .int) false emI (d + 1) 0 [(0, vR l0)] [] (fX7_countRopes l0) := by
  unfold fX7_countRopes
  refine rz_iconst 1 dX7_countRopes_0 rfl ci_0 ?_
  refine rz_istore_n (lv' := [(1, vI (0 : Int32)), (0, vR l0)]) 2 dX7_countRopes_1 rfl rfl rfl ?_
  refine rz_iconst 3 dX7_countRopes_2 rfl ci_0 ?_
  refine rz_istore_n (lv' := [(2, vI (0 : Int32)), (1, vI (0 : Int32)), (0, vR l0)]) 4 dX7_countRopes_3 rfl rfl rfl ?_
  exact rz_sub [2, 1, 0] rfl (rX7_countRopes_4 v d fu l0 (0 : Int32) (0 : Int32))
theorem tX7_countRopes (v : mE) (d : Nat) (l0 : Nat) : Mt v yX7_countRopes cX7_countRopes 3 (some .int) emI (d + 1) [vR l0] (fX7_countRopes l0) := mt_of rfl rfl (fun h => by cases h) rfl rfl (rX7_countRopes v d l0)
theorem dX7_freeRope_0 : decode cX7_freeRope 0 = .ok (.iconst 0, 1) := by decide +kernel
theorem dX7_freeRope_1 : decode cX7_freeRope 1 = .ok (.istore_n 1, 1) := by decide +kernel
theorem dX7_freeRope_2 : decode cX7_freeRope 2 = .ok (.iload_n 1, 1) := by decide +kernel
theorem dX7_freeRope_3 : decode cX7_freeRope 3 = .ok (.bipush 12, 2) := by decide +kernel
theorem dX7_freeRope_5 : decode cX7_freeRope 5 = .ok (.if_icmp .ge 23, 3) := by decide +kernel
theorem dX7_freeRope_8 : decode cX7_freeRope 8 = .ok (.aload_n 0, 1) := by decide +kernel
theorem dX7_freeRope_9 : decode cX7_freeRope 9 = .ok (.getfield 45, 3) := by decide +kernel
theorem dX7_freeRope_12 : decode cX7_freeRope 12 = .ok (.iload_n 1, 1) := by decide +kernel
theorem dX7_freeRope_13 : decode cX7_freeRope 13 = .ok (.aaload, 1) := by decide +kernel
theorem dX7_freeRope_14 : decode cX7_freeRope 14 = .ok (.invokevirtual 86, 3) := by decide +kernel
theorem dX7_freeRope_17 : decode cX7_freeRope 17 = .ok (.ifCond .ne 5, 3) := by decide +kernel
theorem dX7_freeRope_20 : decode cX7_freeRope 20 = .ok (.iload_n 1, 1) := by decide +kernel
theorem dX7_freeRope_21 : decode cX7_freeRope 21 = .ok (.ireturn, 1) := by decide +kernel
theorem dX7_freeRope_22 : decode cX7_freeRope 22 = .ok (.iinc 1 1, 3) := by decide +kernel
theorem dX7_freeRope_25 : decode cX7_freeRope 25 = .ok (.goto (-23), 3) := by decide +kernel
theorem dX7_freeRope_28 : decode cX7_freeRope 28 = .ok (.iconst (-1), 1) := by decide +kernel
theorem dX7_freeRope_29 : decode cX7_freeRope 29 = .ok (.ireturn, 1) := by decide +kernel
def fX7_freeRope_2 : Nat → Nat → Int32 → mM Int32
  | 0 => fun _ _ => fun _ => none
  | n + 1 => fun l0 l1 => let r2 := fX7_freeRope_2 n; bIf ((12 : Int32) ≤ l1) (bRet (-1 : Int32)) (bGR 7 l0 10 (fun x1 => bAR 14 x1 l1 (fun x2 => bCallV 3 x2 (fX3_isThere x2) (fun x3 => bIf (x3 = 0) (bRet l1) (r2 l0 (l1 + 1))))))
theorem qX7_freeRope_2  (n : Nat) (l0 : Nat) (l1 : Int32) : fX7_freeRope_2 (n + 1) l0 l1 = bIf ((12 : Int32) ≤ l1) (bRet (-1 : Int32)) (bGR 7 l0 10 (fun x1 => bAR 14 x1 l1 (fun x2 => bCallV 3 x2 (fX3_isThere x2) (fun x3 => bIf (x3 = 0) (bRet l1) ((fX7_freeRope_2 n) l0 (l1 + 1)))))) := rfl
set_option maxRecDepth 20000 in
theorem rX7_freeRope_2 (v : mE) (d : Nat) : ∀ (n : Nat) (l0 : Nat) (l1 : Int32), Rz v RX7 cX7_freeRope 2 (some .int) false emI (d + 1) 2 [(0, vR l0), (1, vI l1)] [] (fX7_freeRope_2 n l0 l1)
  | 0, _, _ => fun _ _ _ hm => by cases hm
  | n + 1, l0, l1 => by
    have h2 := rX7_freeRope_2 v d n
    unfold fX7_freeRope_2
    generalize fX7_freeRope_2 n = r2 at h2 ⊢
    refine rz_iload_n 3 1 dX7_freeRope_2 rfl rfl ?_
    refine rz_bipush 5 dX7_freeRope_3 rfl cb_12 ?_
    refine rz_icmp_ge 28 8 dX7_freeRope_5 rfl rfl ?_ ?_
    · refine rz_iconst 29 dX7_freeRope_28 rfl ci_m1 ?_
      exact rz_ireturn rfl rfl dX7_freeRope_29
    · refine rz_aload_n 9 0 dX7_freeRope_8 rfl rfl ?_
      refine rz_gR 12 dX7_freeRope_9 rfl rfl fl_X7_45 (fun x1 => ?_)
      refine rz_iload_n 13 1 dX7_freeRope_12 rfl rfl ?_
      refine rz_aald 14 dX7_freeRope_13 rfl (by decide) (fun x2 => ?_)
      refine rz_callV 17 dX7_freeRope_14 rfl (tX3_isThere v (d + 0) x2) rfl rfl rfl rfl ml_X7_86 im_X3_isThere se_X3_X3_isThere in_X3 co_X3_isThere rfl rfl (fun x3 => ?_)
      refine rz_if_ne 22 20 dX7_freeRope_17 rfl rfl ?_ ?_
      · refine rz_iinc (lv' := [(1, vI (l1 + 1)), (0, vR l0)]) 25 1 dX7_freeRope_22 rfl rfl (cn_1 _) rfl rfl ?_
        refine rz_goto 2 dX7_freeRope_25 rfl ?_
        exact rz_sub [1, 0] rfl (h2 l0 (l1 + 1))
      · refine rz_iload_n 21 1 dX7_freeRope_20 rfl rfl ?_
        exact rz_ireturn rfl rfl dX7_freeRope_21
def fX7_freeRope (l0 : Nat) : mM Int32 := fX7_freeRope_2 fu l0 (0 : Int32)
set_option maxRecDepth 20000 in
theorem rX7_freeRope (v : mE) (d : Nat) (l0 : Nat) : Rz v RX7 cX7_freeRope 2 (some .int) false emI (d + 1) 0 [(0, vR l0)] [] (fX7_freeRope l0) := by
  unfold fX7_freeRope
  refine rz_iconst 1 dX7_freeRope_0 rfl ci_0 ?_
  refine rz_istore_n (lv' := [(1, vI (0 : Int32)), (0, vR l0)]) 2 dX7_freeRope_1 rfl rfl rfl ?_
  exact rz_sub [1, 0] rfl (rX7_freeRope_2 v d fu l0 (0 : Int32))
theorem tX7_freeRope (v : mE) (d : Nat) (l0 : Nat) : Mt v yX7_freeRope cX7_freeRope 2 (some .int) emI (d + 1) [vR l0] (fX7_freeRope l0) := mt_of rfl rfl (fun h => by cases h) rfl rfl (rX7_freeRope v d l0)
theorem dX7_ownYards_0 : decode cX7_ownYards 0 = .ok (.iconst 0, 1) := by decide +kernel
theorem dX7_ownYards_1 : decode cX7_ownYards 1 = .ok (.istore_n 2, 1) := by decide +kernel
theorem dX7_ownYards_2 : decode cX7_ownYards 2 = .ok (.iconst 0, 1) := by decide +kernel
theorem dX7_ownYards_3 : decode cX7_ownYards 3 = .ok (.istore_n 3, 1) := by decide +kernel
theorem dX7_ownYards_4 : decode cX7_ownYards 4 = .ok (.iload_n 3, 1) := by decide +kernel
theorem dX7_ownYards_5 : decode cX7_ownYards 5 = .ok (.bipush 12, 2) := by decide +kernel
theorem dX7_ownYards_7 : decode cX7_ownYards 7 = .ok (.if_icmp .ge 46, 3) := by decide +kernel
theorem dX7_ownYards_10 : decode cX7_ownYards 10 = .ok (.aload_n 0, 1) := by decide +kernel
theorem dX7_ownYards_11 : decode cX7_ownYards 11 = .ok (.getfield 45, 3) := by decide +kernel
theorem dX7_ownYards_14 : decode cX7_ownYards 14 = .ok (.iload_n 3, 1) := by decide +kernel
theorem dX7_ownYards_15 : decode cX7_ownYards 15 = .ok (.aaload, 1) := by decide +kernel
theorem dX7_ownYards_16 : decode cX7_ownYards 16 = .ok (.invokevirtual 86, 3) := by decide +kernel
theorem dX7_ownYards_19 : decode cX7_ownYards 19 = .ok (.ifCond .eq 28, 3) := by decide +kernel
theorem dX7_ownYards_22 : decode cX7_ownYards 22 = .ok (.aload_n 0, 1) := by decide +kernel
theorem dX7_ownYards_23 : decode cX7_ownYards 23 = .ok (.getfield 45, 3) := by decide +kernel
theorem dX7_ownYards_26 : decode cX7_ownYards 26 = .ok (.iload_n 3, 1) := by decide +kernel
theorem dX7_ownYards_27 : decode cX7_ownYards 27 = .ok (.aaload, 1) := by decide +kernel
theorem dX7_ownYards_28 : decode cX7_ownYards 28 = .ok (.getfield 90, 3) := by decide +kernel
theorem dX7_ownYards_31 : decode cX7_ownYards 31 = .ok (.iload_n 1, 1) := by decide +kernel
theorem dX7_ownYards_32 : decode cX7_ownYards 32 = .ok (.if_icmp .ne 15, 3) := by decide +kernel
theorem dX7_ownYards_35 : decode cX7_ownYards 35 = .ok (.iload_n 2, 1) := by decide +kernel
theorem dX7_ownYards_36 : decode cX7_ownYards 36 = .ok (.aload_n 0, 1) := by decide +kernel
theorem dX7_ownYards_37 : decode cX7_ownYards 37 = .ok (.getfield 45, 3) := by decide +kernel
theorem dX7_ownYards_40 : decode cX7_ownYards 40 = .ok (.iload_n 3, 1) := by decide +kernel
theorem dX7_ownYards_41 : decode cX7_ownYards 41 = .ok (.aaload, 1) := by decide +kernel
theorem dX7_ownYards_42 : decode cX7_ownYards 42 = .ok (.getfield 93, 3) := by decide +kernel
theorem dX7_ownYards_45 : decode cX7_ownYards 45 = .ok (.iadd, 1) := by decide +kernel
theorem dX7_ownYards_46 : decode cX7_ownYards 46 = .ok (.istore_n 2, 1) := by decide +kernel
theorem dX7_ownYards_47 : decode cX7_ownYards 47 = .ok (.iinc 3 1, 3) := by decide +kernel
theorem dX7_ownYards_50 : decode cX7_ownYards 50 = .ok (.goto (-46), 3) := by decide +kernel
theorem dX7_ownYards_53 : decode cX7_ownYards 53 = .ok (.iload_n 2, 1) := by decide +kernel
theorem dX7_ownYards_54 : decode cX7_ownYards 54 = .ok (.ireturn, 1) := by decide +kernel
def fX7_ownYards_4 : Nat → Nat → Int32 → Int32 → Int32 → mM Int32
  | 0 => fun _ _ _ _ => fun _ => none
  | n + 1 => fun l0 l1 l2 l3 => let r4 := fX7_ownYards_4 n; bIf ((12 : Int32) ≤ l3) (bRet l2) (bGR 7 l0 10 (fun x1 => bAR 14 x1 l3 (fun x2 => bCallV 3 x2 (fX3_isThere x2) (fun x3 => bIf (x3 = 0) (r4 l0 l1 l2 (l3 + 1)) (bGR 7 l0 10 (fun x4 => bAR 14 x4 l3 (fun x5 => bGI 3 x5 0 (fun x6 => bIf (x6 = l1) (bGR 7 l0 10 (fun x7 => bAR 14 x7 l3 (fun x8 => bGI 3 x8 3 (fun x9 => r4 l0 l1 (l2 + x9) (l3 + 1))))) (r4 l0 l1 l2 (l3 + 1))))))))))
theorem qX7_ownYards_4  (n : Nat) (l0 : Nat) (l1 : Int32) (l2 : Int32) (l3 : Int32) : fX7_ownYards_4 (n + 1) l0 l1 l2 l3 = bIf ((12 : Int32) ≤ l3) (bRet l2) (bGR 7 l0 10 (fun x1 => bAR 14 x1 l3 (fun x2 => bCallV 3 x2 (fX3_isThere x2) (fun x3 => bIf (x3 = 0) ((fX7_ownYards_4 n) l0 l1 l2 (l3 + 1)) (bGR 7 l0 10 (fun x4 => bAR 14 x4 l3 (fun x5 => bGI 3 x5 0 (fun x6 => bIf (x6 = l1) (bGR 7 l0 10 (fun x7 => bAR 14 x7 l3 (fun x8 => bGI 3 x8 3 (fun x9 => (fX7_ownYards_4 n) l0 l1 (l2 + x9) (l3 + 1))))) ((fX7_ownYards_4 n) l0 l1 l2 (l3 + 1)))))))))) := rfl
set_option maxRecDepth 20000 in
theorem rX7_ownYards_4 (v : mE) (d : Nat) : ∀ (n : Nat) (l0 : Nat) (l1 : Int32) (l2 : Int32) (l3 : Int32), Rz v RX7 cX7_ownYards 4 (some .int) false emI (d + 1) 4 [(0, vR l0), (1, vI l1), (2, vI l2), (3, vI l3)] [] (fX7_ownYards_4 n l0 l1 l2 l3)
  | 0, _, _, _, _ => fun _ _ _ hm => by cases hm
  | n + 1, l0, l1, l2, l3 => by
    have h4 := rX7_ownYards_4 v d n
    unfold fX7_ownYards_4
    generalize fX7_ownYards_4 n = r4 at h4 ⊢
    refine rz_iload_n 5 3 dX7_ownYards_4 rfl rfl ?_
    refine rz_bipush 7 dX7_ownYards_5 rfl cb_12 ?_
    refine rz_icmp_ge 53 10 dX7_ownYards_7 rfl rfl ?_ ?_
    · refine rz_iload_n 54 2 dX7_ownYards_53 rfl rfl ?_
      exact rz_ireturn rfl rfl dX7_ownYards_54
    · refine rz_aload_n 11 0 dX7_ownYards_10 rfl rfl ?_
      refine rz_gR 14 dX7_ownYards_11 rfl rfl fl_X7_45 (fun x1 => ?_)
      refine rz_iload_n 15 3 dX7_ownYards_14 rfl rfl ?_
      refine rz_aald 16 dX7_ownYards_15 rfl (by decide) (fun x2 => ?_)
      refine rz_callV 19 dX7_ownYards_16 rfl (tX3_isThere v (d + 0) x2) rfl rfl rfl rfl ml_X7_86 im_X3_isThere se_X3_X3_isThere in_X3 co_X3_isThere rfl rfl (fun x3 => ?_)
      refine rz_if_eq 47 22 dX7_ownYards_19 rfl rfl ?_ ?_
      · refine rz_iinc (lv' := [(3, vI (l3 + 1)), (0, vR l0), (1, vI l1), (2, vI l2)]) 50 3 dX7_ownYards_47 rfl rfl (cn_1 _) rfl rfl ?_
        refine rz_goto 4 dX7_ownYards_50 rfl ?_
        exact rz_sub [1, 2, 3, 0] rfl (h4 l0 l1 l2 (l3 + 1))
      · refine rz_aload_n 23 0 dX7_ownYards_22 rfl rfl ?_
        refine rz_gR 26 dX7_ownYards_23 rfl rfl fl_X7_45 (fun x4 => ?_)
        refine rz_iload_n 27 3 dX7_ownYards_26 rfl rfl ?_
        refine rz_aald 28 dX7_ownYards_27 rfl (by decide) (fun x5 => ?_)
        refine rz_gI 31 dX7_ownYards_28 rfl rfl fl_X7_90 (fun x6 => ?_)
        refine rz_iload_n 32 1 dX7_ownYards_31 rfl rfl ?_
        refine rz_icmp_ne 47 35 dX7_ownYards_32 rfl rfl ?_ ?_
        · refine rz_iinc (lv' := [(3, vI (l3 + 1)), (0, vR l0), (1, vI l1), (2, vI l2)]) 50 3 dX7_ownYards_47 rfl rfl (cn_1 _) rfl rfl ?_
          refine rz_goto 4 dX7_ownYards_50 rfl ?_
          exact rz_sub [1, 2, 3, 0] rfl (h4 l0 l1 l2 (l3 + 1))
        · refine rz_iload_n 36 2 dX7_ownYards_35 rfl rfl ?_
          refine rz_aload_n 37 0 dX7_ownYards_36 rfl rfl ?_
          refine rz_gR 40 dX7_ownYards_37 rfl rfl fl_X7_45 (fun x7 => ?_)
          refine rz_iload_n 41 3 dX7_ownYards_40 rfl rfl ?_
          refine rz_aald 42 dX7_ownYards_41 rfl (by decide) (fun x8 => ?_)
          refine rz_gI 45 dX7_ownYards_42 rfl rfl fl_X7_93 (fun x9 => ?_)
          refine rz_iadd 46 dX7_ownYards_45 rfl ?_
          refine rz_istore_n (lv' := [(2, vI (l2 + x9)), (0, vR l0), (1, vI l1), (3, vI l3)]) 47 dX7_ownYards_46 rfl rfl rfl ?_
          refine rz_iinc (lv' := [(3, vI (l3 + 1)), (2, vI (l2 + x9)), (0, vR l0), (1, vI l1)]) 50 3 dX7_ownYards_47 rfl rfl (cn_1 _) rfl rfl ?_
          refine rz_goto 4 dX7_ownYards_50 rfl ?_
          exact rz_sub [2, 3, 1, 0] rfl (h4 l0 l1 (l2 + x9) (l3 + 1))
def fX7_ownYards (l0 : Nat) (l1 : Int32) : mM Int32 := fX7_ownYards_4 fu l0 l1 (0 : Int32) (0 : Int32)
set_option maxRecDepth 20000 in
theorem rX7_ownYards (v : mE) (d : Nat) (l0 : Nat) (l1 : Int32) : Rz v RX7 cX7_ownYards 4 (some .int) false emI (d + 1) 0 [(0, vR l0), (1, vI l1)] [] (fX7_ownYards l0 l1) := by
  unfold fX7_ownYards
  refine rz_iconst 1 dX7_ownYards_0 rfl ci_0 ?_
  refine rz_istore_n (lv' := [(2, vI (0 : Int32)), (0, vR l0), (1, vI l1)]) 2 dX7_ownYards_1 rfl rfl rfl ?_
  refine rz_iconst 3 dX7_ownYards_2 rfl ci_0 ?_
  refine rz_istore_n (lv' := [(3, vI (0 : Int32)), (2, vI (0 : Int32)), (0, vR l0), (1, vI l1)]) 4 dX7_ownYards_3 rfl rfl rfl ?_
  exact rz_sub [2, 3, 1, 0] rfl (rX7_ownYards_4 v d fu l0 l1 (0 : Int32) (0 : Int32))
theorem tX7_ownYards (v : mE) (d : Nat) (l0 : Nat) (l1 : Int32) : Mt v yX7_ownYards cX7_ownYards 4 (some .int) emI (d + 1) [vR l0, vI l1] (fX7_ownYards l0 l1) := mt_of rfl rfl (fun h => by cases h) rfl rfl (rX7_ownYards v d l0 l1)
theorem dX7_heldYards_0 : decode cX7_heldYards 0 = .ok (.iconst 0, 1) := by decide +kernel
theorem dX7_heldYards_1 : decode cX7_heldYards 1 = .ok (.istore_n 2, 1) := by decide +kernel
theorem dX7_heldYards_2 : decode cX7_heldYards 2 = .ok (.iconst 0, 1) := by decide +kernel
theorem dX7_heldYards_3 : decode cX7_heldYards 3 = .ok (.istore_n 3, 1) := by decide +kernel
theorem dX7_heldYards_4 : decode cX7_heldYards 4 = .ok (.iload_n 3, 1) := by decide +kernel
theorem dX7_heldYards_5 : decode cX7_heldYards 5 = .ok (.bipush 12, 2) := by decide +kernel
theorem dX7_heldYards_7 : decode cX7_heldYards 7 = .ok (.if_icmp .ge 46, 3) := by decide +kernel
theorem dX7_heldYards_10 : decode cX7_heldYards 10 = .ok (.aload_n 0, 1) := by decide +kernel
theorem dX7_heldYards_11 : decode cX7_heldYards 11 = .ok (.getfield 45, 3) := by decide +kernel
theorem dX7_heldYards_14 : decode cX7_heldYards 14 = .ok (.iload_n 3, 1) := by decide +kernel
theorem dX7_heldYards_15 : decode cX7_heldYards 15 = .ok (.aaload, 1) := by decide +kernel
theorem dX7_heldYards_16 : decode cX7_heldYards 16 = .ok (.invokevirtual 86, 3) := by decide +kernel
theorem dX7_heldYards_19 : decode cX7_heldYards 19 = .ok (.ifCond .eq 28, 3) := by decide +kernel
theorem dX7_heldYards_22 : decode cX7_heldYards 22 = .ok (.aload_n 0, 1) := by decide +kernel
theorem dX7_heldYards_23 : decode cX7_heldYards 23 = .ok (.getfield 45, 3) := by decide +kernel
theorem dX7_heldYards_26 : decode cX7_heldYards 26 = .ok (.iload_n 3, 1) := by decide +kernel
theorem dX7_heldYards_27 : decode cX7_heldYards 27 = .ok (.aaload, 1) := by decide +kernel
theorem dX7_heldYards_28 : decode cX7_heldYards 28 = .ok (.invokevirtual 96, 3) := by decide +kernel
theorem dX7_heldYards_31 : decode cX7_heldYards 31 = .ok (.iload_n 1, 1) := by decide +kernel
theorem dX7_heldYards_32 : decode cX7_heldYards 32 = .ok (.if_icmp .ne 15, 3) := by decide +kernel
theorem dX7_heldYards_35 : decode cX7_heldYards 35 = .ok (.iload_n 2, 1) := by decide +kernel
theorem dX7_heldYards_36 : decode cX7_heldYards 36 = .ok (.aload_n 0, 1) := by decide +kernel
theorem dX7_heldYards_37 : decode cX7_heldYards 37 = .ok (.getfield 45, 3) := by decide +kernel
theorem dX7_heldYards_40 : decode cX7_heldYards 40 = .ok (.iload_n 3, 1) := by decide +kernel
theorem dX7_heldYards_41 : decode cX7_heldYards 41 = .ok (.aaload, 1) := by decide +kernel
theorem dX7_heldYards_42 : decode cX7_heldYards 42 = .ok (.getfield 93, 3) := by decide +kernel
theorem dX7_heldYards_45 : decode cX7_heldYards 45 = .ok (.iadd, 1) := by decide +kernel
theorem dX7_heldYards_46 : decode cX7_heldYards 46 = .ok (.istore_n 2, 1) := by decide +kernel
theorem dX7_heldYards_47 : decode cX7_heldYards 47 = .ok (.iinc 3 1, 3) := by decide +kernel
theorem dX7_heldYards_50 : decode cX7_heldYards 50 = .ok (.goto (-46), 3) := by decide +kernel
theorem dX7_heldYards_53 : decode cX7_heldYards 53 = .ok (.iload_n 2, 1) := by decide +kernel
theorem dX7_heldYards_54 : decode cX7_heldYards 54 = .ok (.ireturn, 1) := by decide +kernel
def fX7_heldYards_4 : Nat → Nat → Int32 → Int32 → Int32 → mM Int32
  | 0 => fun _ _ _ _ => fun _ => none
  | n + 1 => fun l0 l1 l2 l3 => let r4 := fX7_heldYards_4 n; bIf ((12 : Int32) ≤ l3) (bRet l2) (bGR 7 l0 10 (fun x1 => bAR 14 x1 l3 (fun x2 => bCallV 3 x2 (fX3_isThere x2) (fun x3 => bIf (x3 = 0) (r4 l0 l1 l2 (l3 + 1)) (bGR 7 l0 10 (fun x4 => bAR 14 x4 l3 (fun x5 => bCallV 3 x5 (fX3_holder x5) (fun x6 => bIf (x6 = l1) (bGR 7 l0 10 (fun x7 => bAR 14 x7 l3 (fun x8 => bGI 3 x8 3 (fun x9 => r4 l0 l1 (l2 + x9) (l3 + 1))))) (r4 l0 l1 l2 (l3 + 1))))))))))
theorem qX7_heldYards_4  (n : Nat) (l0 : Nat) (l1 : Int32) (l2 : Int32) (l3 : Int32) : fX7_heldYards_4 (n + 1) l0 l1 l2 l3 = bIf ((12 : Int32) ≤ l3) (bRet l2) (bGR 7 l0 10 (fun x1 => bAR 14 x1 l3 (fun x2 => bCallV 3 x2 (fX3_isThere x2) (fun x3 => bIf (x3 = 0) ((fX7_heldYards_4 n) l0 l1 l2 (l3 + 1)) (bGR 7 l0 10 (fun x4 => bAR 14 x4 l3 (fun x5 => bCallV 3 x5 (fX3_holder x5) (fun x6 => bIf (x6 = l1) (bGR 7 l0 10 (fun x7 => bAR 14 x7 l3 (fun x8 => bGI 3 x8 3 (fun x9 => (fX7_heldYards_4 n) l0 l1 (l2 + x9) (l3 + 1))))) ((fX7_heldYards_4 n) l0 l1 l2 (l3 + 1)))))))))) := rfl
set_option maxRecDepth 20000 in
theorem rX7_heldYards_4 (v : mE) (d : Nat) : ∀ (n : Nat) (l0 : Nat) (l1 : Int32) (l2 : Int32) (l3 : Int32), Rz v RX7 cX7_heldYards 4 (some .int) false emI (d + 1) 4 [(0, vR l0), (1, vI l1), (2, vI l2), (3, vI l3)] [] (fX7_heldYards_4 n l0 l1 l2 l3)
  | 0, _, _, _, _ => fun _ _ _ hm => by cases hm
  | n + 1, l0, l1, l2, l3 => by
    have h4 := rX7_heldYards_4 v d n
    unfold fX7_heldYards_4
    generalize fX7_heldYards_4 n = r4 at h4 ⊢
    refine rz_iload_n 5 3 dX7_heldYards_4 rfl rfl ?_
    refine rz_bipush 7 dX7_heldYards_5 rfl cb_12 ?_
    refine rz_icmp_ge 53 10 dX7_heldYards_7 rfl rfl ?_ ?_
    · refine rz_iload_n 54 2 dX7_heldYards_53 rfl rfl ?_
      exact rz_ireturn rfl rfl dX7_heldYards_54
    · refine rz_aload_n 11 0 dX7_heldYards_10 rfl rfl ?_
      refine rz_gR 14 dX7_heldYards_11 rfl rfl fl_X7_45 (fun x1 => ?_)
      refine rz_iload_n 15 3 dX7_heldYards_14 rfl rfl ?_
      refine rz_aald 16 dX7_heldYards_15 rfl (by decide) (fun x2 => ?_)
      refine rz_callV 19 dX7_heldYards_16 rfl (tX3_isThere v (d + 0) x2) rfl rfl rfl rfl ml_X7_86 im_X3_isThere se_X3_X3_isThere in_X3 co_X3_isThere rfl rfl (fun x3 => ?_)
      refine rz_if_eq 47 22 dX7_heldYards_19 rfl rfl ?_ ?_
      · refine rz_iinc (lv' := [(3, vI (l3 + 1)), (0, vR l0), (1, vI l1), (2, vI l2)]) 50 3 dX7_heldYards_47 rfl rfl (cn_1 _) rfl rfl ?_
        refine rz_goto 4 dX7_heldYards_50 rfl ?_
        exact rz_sub [1, 2, 3, 0] rfl (h4 l0 l1 l2 (l3 + 1))
      · refine rz_aload_n 23 0 dX7_heldYards_22 rfl rfl ?_
        refine rz_gR 26 dX7_heldYards_23 rfl rfl fl_X7_45 (fun x4 => ?_)
        refine rz_iload_n 27 3 dX7_heldYards_26 rfl rfl ?_
        refine rz_aald 28 dX7_heldYards_27 rfl (by decide) (fun x5 => ?_)
        refine rz_callV 31 dX7_heldYards_28 rfl (tX3_holder v (d + 0) x5) rfl rfl rfl rfl ml_X7_96 im_X3_holder se_X3_X3_holder in_X3 co_X3_holder rfl rfl (fun x6 => ?_)
        refine rz_iload_n 32 1 dX7_heldYards_31 rfl rfl ?_
        refine rz_icmp_ne 47 35 dX7_heldYards_32 rfl rfl ?_ ?_
        · refine rz_iinc (lv' := [(3, vI (l3 + 1)), (0, vR l0), (1, vI l1), (2, vI l2)]) 50 3 dX7_heldYards_47 rfl rfl (cn_1 _) rfl rfl ?_
          refine rz_goto 4 dX7_heldYards_50 rfl ?_
          exact rz_sub [1, 2, 3, 0] rfl (h4 l0 l1 l2 (l3 + 1))
        · refine rz_iload_n 36 2 dX7_heldYards_35 rfl rfl ?_
          refine rz_aload_n 37 0 dX7_heldYards_36 rfl rfl ?_
          refine rz_gR 40 dX7_heldYards_37 rfl rfl fl_X7_45 (fun x7 => ?_)
          refine rz_iload_n 41 3 dX7_heldYards_40 rfl rfl ?_
          refine rz_aald 42 dX7_heldYards_41 rfl (by decide) (fun x8 => ?_)
          refine rz_gI 45 dX7_heldYards_42 rfl rfl fl_X7_93 (fun x9 => ?_)
          refine rz_iadd 46 dX7_heldYards_45 rfl ?_
          refine rz_istore_n (lv' := [(2, vI (l2 + x9)), (0, vR l0), (1, vI l1), (3, vI l3)]) 47 dX7_heldYards_46 rfl rfl rfl ?_
          refine rz_iinc (lv' := [(3, vI (l3 + 1)), (2, vI (l2 + x9)), (0, vR l0), (1, vI l1)]) 50 3 dX7_heldYards_47 rfl rfl (cn_1 _) rfl rfl ?_
          refine rz_goto 4 dX7_heldYards_50 rfl ?_
          exact rz_sub [2, 3, 1, 0] rfl (h4 l0 l1 (l2 + x9) (l3 + 1))
def fX7_heldYards (l0 : Nat) (l1 : Int32) : mM Int32 := fX7_heldYards_4 fu l0 l1 (0 : Int32) (0 : Int32)
set_option maxRecDepth 20000 in
theorem rX7_heldYards (v : mE) (d : Nat) (l0 : Nat) (l1 : Int32) : Rz v RX7 cX7_heldYards 4 (some .int) false emI (d + 1) 0 [(0, vR l0), (1, vI l1)] [] (fX7_heldYards l0 l1) := by
  unfold fX7_heldYards
  refine rz_iconst 1 dX7_heldYards_0 rfl ci_0 ?_
  refine rz_istore_n (lv' := [(2, vI (0 : Int32)), (0, vR l0), (1, vI l1)]) 2 dX7_heldYards_1 rfl rfl rfl ?_
  refine rz_iconst 3 dX7_heldYards_2 rfl ci_0 ?_
  refine rz_istore_n (lv' := [(3, vI (0 : Int32)), (2, vI (0 : Int32)), (0, vR l0), (1, vI l1)]) 4 dX7_heldYards_3 rfl rfl rfl ?_
  exact rz_sub [2, 3, 1, 0] rfl (rX7_heldYards_4 v d fu l0 l1 (0 : Int32) (0 : Int32))
theorem tX7_heldYards (v : mE) (d : Nat) (l0 : Nat) (l1 : Int32) : Mt v yX7_heldYards cX7_heldYards 4 (some .int) emI (d + 1) [vR l0, vI l1] (fX7_heldYards l0 l1) := mt_of rfl rfl (fun h => by cases h) rfl rfl (rX7_heldYards v d l0 l1)
theorem dX7_allYards_0 : decode cX7_allYards 0 = .ok (.iconst 0, 1) := by decide +kernel
theorem dX7_allYards_1 : decode cX7_allYards 1 = .ok (.istore_n 1, 1) := by decide +kernel
theorem dX7_allYards_2 : decode cX7_allYards 2 = .ok (.iconst 0, 1) := by decide +kernel
theorem dX7_allYards_3 : decode cX7_allYards 3 = .ok (.istore_n 2, 1) := by decide +kernel
theorem dX7_allYards_4 : decode cX7_allYards 4 = .ok (.iload_n 2, 1) := by decide +kernel
theorem dX7_allYards_5 : decode cX7_allYards 5 = .ok (.bipush 12, 2) := by decide +kernel
theorem dX7_allYards_7 : decode cX7_allYards 7 = .ok (.if_icmp .ge 21, 3) := by decide +kernel
theorem dX7_allYards_10 : decode cX7_allYards 10 = .ok (.iload_n 1, 1) := by decide +kernel
theorem dX7_allYards_11 : decode cX7_allYards 11 = .ok (.aload_n 0, 1) := by decide +kernel
theorem dX7_allYards_12 : decode cX7_allYards 12 = .ok (.getfield 45, 3) := by decide +kernel
theorem dX7_allYards_15 : decode cX7_allYards 15 = .ok (.iload_n 2, 1) := by decide +kernel
theorem dX7_allYards_16 : decode cX7_allYards 16 = .ok (.aaload, 1) := by decide +kernel
theorem dX7_allYards_17 : decode cX7_allYards 17 = .ok (.getfield 93, 3) := by decide +kernel
theorem dX7_allYards_20 : decode cX7_allYards 20 = .ok (.iadd, 1) := by decide +kernel
theorem dX7_allYards_21 : decode cX7_allYards 21 = .ok (.istore_n 1, 1) := by decide +kernel
theorem dX7_allYards_22 : decode cX7_allYards 22 = .ok (.iinc 2 1, 3) := by decide +kernel
theorem dX7_allYards_25 : decode cX7_allYards 25 = .ok (.goto (-21), 3) := by decide +kernel
theorem dX7_allYards_28 : decode cX7_allYards 28 = .ok (.iload_n 1, 1) := by decide +kernel
theorem dX7_allYards_29 : decode cX7_allYards 29 = .ok (.ireturn, 1) := by decide +kernel
def fX7_allYards_4 : Nat → Nat → Int32 → Int32 → mM Int32
  | 0 => fun _ _ _ => fun _ => none
  | n + 1 => fun l0 l1 l2 => let r4 := fX7_allYards_4 n; bIf ((12 : Int32) ≤ l2) (bRet l1) (bGR 7 l0 10 (fun x1 => bAR 14 x1 l2 (fun x2 => bGI 3 x2 3 (fun x3 => r4 l0 (l1 + x3) (l2 + 1)))))
theorem qX7_allYards_4  (n : Nat) (l0 : Nat) (l1 : Int32) (l2 : Int32) : fX7_allYards_4 (n + 1) l0 l1 l2 = bIf ((12 : Int32) ≤ l2) (bRet l1) (bGR 7 l0 10 (fun x1 => bAR 14 x1 l2 (fun x2 => bGI 3 x2 3 (fun x3 => (fX7_allYards_4 n) l0 (l1 + x3) (l2 + 1))))) := rfl
set_option maxRecDepth 20000 in
theorem rX7_allYards_4 (v : mE) (d : Nat) : ∀ (n : Nat) (l0 : Nat) (l1 : Int32) (l2 : Int32), Rz v RX7 cX7_allYards 3 (some .int) false emI (d + 0) 4 [(0, vR l0), (1, vI l1), (2, vI l2)] [] (fX7_allYards_4 n l0 l1 l2)
  | 0, _, _, _ => fun _ _ _ hm => by cases hm
  | n + 1, l0, l1, l2 => by
    have h4 := rX7_allYards_4 v d n
    unfold fX7_allYards_4
    generalize fX7_allYards_4 n = r4 at h4 ⊢
    refine rz_iload_n 5 2 dX7_allYards_4 rfl rfl ?_
    refine rz_bipush 7 dX7_allYards_5 rfl cb_12 ?_
    refine rz_icmp_ge 28 10 dX7_allYards_7 rfl rfl ?_ ?_
    · refine rz_iload_n 29 1 dX7_allYards_28 rfl rfl ?_
      exact rz_ireturn rfl rfl dX7_allYards_29
    · refine rz_iload_n 11 1 dX7_allYards_10 rfl rfl ?_
      refine rz_aload_n 12 0 dX7_allYards_11 rfl rfl ?_
      refine rz_gR 15 dX7_allYards_12 rfl rfl fl_X7_45 (fun x1 => ?_)
      refine rz_iload_n 16 2 dX7_allYards_15 rfl rfl ?_
      refine rz_aald 17 dX7_allYards_16 rfl (by decide) (fun x2 => ?_)
      refine rz_gI 20 dX7_allYards_17 rfl rfl fl_X7_93 (fun x3 => ?_)
      refine rz_iadd 21 dX7_allYards_20 rfl ?_
      refine rz_istore_n (lv' := [(1, vI (l1 + x3)), (0, vR l0), (2, vI l2)]) 22 dX7_allYards_21 rfl rfl rfl ?_
      refine rz_iinc (lv' := [(2, vI (l2 + 1)), (1, vI (l1 + x3)), (0, vR l0)]) 25 2 dX7_allYards_22 rfl rfl (cn_1 _) rfl rfl ?_
      refine rz_goto 4 dX7_allYards_25 rfl ?_
      exact rz_sub [2, 1, 0] rfl (h4 l0 (l1 + x3) (l2 + 1))
def fX7_allYards (l0 : Nat) : mM Int32 := fX7_allYards_4 fu l0 (0 : Int32) (0 : Int32)
set_option maxRecDepth 20000 in
theorem rX7_allYards (v : mE) (d : Nat) (l0 : Nat) : Rz v RX7 cX7_allYards 3 (some .int) false emI (d + 0) 0 [(0, vR l0)] [] (fX7_allYards l0) := by
  unfold fX7_allYards
  refine rz_iconst 1 dX7_allYards_0 rfl ci_0 ?_
  refine rz_istore_n (lv' := [(1, vI (0 : Int32)), (0, vR l0)]) 2 dX7_allYards_1 rfl rfl rfl ?_
  refine rz_iconst 3 dX7_allYards_2 rfl ci_0 ?_
  refine rz_istore_n (lv' := [(2, vI (0 : Int32)), (1, vI (0 : Int32)), (0, vR l0)]) 4 dX7_allYards_3 rfl rfl rfl ?_
  exact rz_sub [2, 1, 0] rfl (rX7_allYards_4 v d fu l0 (0 : Int32) (0 : Int32))
theorem tX7_allYards (v : mE) (d : Nat) (l0 : Nat) : Mt v yX7_allYards cX7_allYards 3 (some .int) emI (d + 0) [vR l0] (fX7_allYards l0) := mt_of rfl rfl (fun h => by cases h) rfl rfl (rX7_allYards v d l0)
theorem dX7_yardsAged_0 : decode cX7_yardsAged 0 = .ok (.iconst 0, 1) := by decide +kernel
theorem dX7_yardsAged_1 : decode cX7_yardsAged 1 = .ok (.istore_n 3, 1) := by decide +kernel
theorem dX7_yardsAged_2 : decode cX7_yardsAged 2 = .ok (.iconst 0, 1) := by decide +kernel
theorem dX7_yardsAged_3 : decode cX7_yardsAged 3 = .ok (.istore 4, 2) := by decide +kernel
theorem dX7_yardsAged_5 : decode cX7_yardsAged 5 = .ok (.iload 4, 2) := by decide +kernel
theorem dX7_yardsAged_7 : decode cX7_yardsAged 7 = .ok (.bipush 12, 2) := by decide +kernel
theorem dX7_yardsAged_9 : decode cX7_yardsAged 9 = .ok (.if_icmp .ge 75, 3) := by decide +kernel
theorem dX7_yardsAged_12 : decode cX7_yardsAged 12 = .ok (.aload_n 0, 1) := by decide +kernel
theorem dX7_yardsAged_13 : decode cX7_yardsAged 13 = .ok (.getfield 45, 3) := by decide +kernel
theorem dX7_yardsAged_16 : decode cX7_yardsAged 16 = .ok (.iload 4, 2) := by decide +kernel
theorem dX7_yardsAged_18 : decode cX7_yardsAged 18 = .ok (.aaload, 1) := by decide +kernel
theorem dX7_yardsAged_19 : decode cX7_yardsAged 19 = .ok (.astore 5, 2) := by decide +kernel
theorem dX7_yardsAged_21 : decode cX7_yardsAged 21 = .ok (.iconst 0, 1) := by decide +kernel
theorem dX7_yardsAged_22 : decode cX7_yardsAged 22 = .ok (.istore 6, 2) := by decide +kernel
theorem dX7_yardsAged_24 : decode cX7_yardsAged 24 = .ok (.iload 6, 2) := by decide +kernel
theorem dX7_yardsAged_26 : decode cX7_yardsAged 26 = .ok (.aload 5, 2) := by decide +kernel
theorem dX7_yardsAged_28 : decode cX7_yardsAged 28 = .ok (.getfield 100, 3) := by decide +kernel
theorem dX7_yardsAged_31 : decode cX7_yardsAged 31 = .ok (.if_icmp .ge 47, 3) := by decide +kernel
theorem dX7_yardsAged_34 : decode cX7_yardsAged 34 = .ok (.aload 5, 2) := by decide +kernel
theorem dX7_yardsAged_36 : decode cX7_yardsAged 36 = .ok (.getfield 103, 3) := by decide +kernel
theorem dX7_yardsAged_39 : decode cX7_yardsAged 39 = .ok (.iload 6, 2) := by decide +kernel
theorem dX7_yardsAged_41 : decode cX7_yardsAged 41 = .ok (.iaload, 1) := by decide +kernel
theorem dX7_yardsAged_42 : decode cX7_yardsAged 42 = .ok (.aload_n 0, 1) := by decide +kernel
theorem dX7_yardsAged_43 : decode cX7_yardsAged 43 = .ok (.getfield 9, 3) := by decide +kernel
theorem dX7_yardsAged_46 : decode cX7_yardsAged 46 = .ok (.iadd, 1) := by decide +kernel
theorem dX7_yardsAged_47 : decode cX7_yardsAged 47 = .ok (.istore 7, 2) := by decide +kernel
theorem dX7_yardsAged_49 : decode cX7_yardsAged 49 = .ok (.iload 7, 2) := by decide +kernel
theorem dX7_yardsAged_51 : decode cX7_yardsAged 51 = .ok (.iload_n 1, 1) := by decide +kernel
theorem dX7_yardsAged_52 : decode cX7_yardsAged 52 = .ok (.if_icmp .lt 20, 3) := by decide +kernel
theorem dX7_yardsAged_55 : decode cX7_yardsAged 55 = .ok (.iload 7, 2) := by decide +kernel
theorem dX7_yardsAged_57 : decode cX7_yardsAged 57 = .ok (.iload_n 2, 1) := by decide +kernel
theorem dX7_yardsAged_58 : decode cX7_yardsAged 58 = .ok (.if_icmp .gt 14, 3) := by decide +kernel
theorem dX7_yardsAged_61 : decode cX7_yardsAged 61 = .ok (.iload_n 3, 1) := by decide +kernel
theorem dX7_yardsAged_62 : decode cX7_yardsAged 62 = .ok (.aload 5, 2) := by decide +kernel
theorem dX7_yardsAged_64 : decode cX7_yardsAged 64 = .ok (.getfield 106, 3) := by decide +kernel
theorem dX7_yardsAged_67 : decode cX7_yardsAged 67 = .ok (.iload 6, 2) := by decide +kernel
theorem dX7_yardsAged_69 : decode cX7_yardsAged 69 = .ok (.iaload, 1) := by decide +kernel
theorem dX7_yardsAged_70 : decode cX7_yardsAged 70 = .ok (.iadd, 1) := by decide +kernel
theorem dX7_yardsAged_71 : decode cX7_yardsAged 71 = .ok (.istore_n 3, 1) := by decide +kernel
theorem dX7_yardsAged_72 : decode cX7_yardsAged 72 = .ok (.iinc 6 1, 3) := by decide +kernel
theorem dX7_yardsAged_75 : decode cX7_yardsAged 75 = .ok (.goto (-51), 3) := by decide +kernel
theorem dX7_yardsAged_78 : decode cX7_yardsAged 78 = .ok (.iinc 4 1, 3) := by decide +kernel
theorem dX7_yardsAged_81 : decode cX7_yardsAged 81 = .ok (.goto (-76), 3) := by decide +kernel
theorem dX7_yardsAged_84 : decode cX7_yardsAged 84 = .ok (.iload_n 3, 1) := by decide +kernel
theorem dX7_yardsAged_85 : decode cX7_yardsAged 85 = .ok (.ireturn, 1) := by decide +kernel
def fX7_yardsAged_78 (r5 : Nat → Int32 → Int32 → Int32 → Int32 → mM Int32) (l0 : Nat) (l1 : Int32) (l2 : Int32) (l3 : Int32) (l4 : Int32) : mM Int32 := r5 l0 l1 l2 l3 (l4 + 1)
set_option maxRecDepth 20000 in
theorem rX7_yardsAged_78 (v : mE) (d : Nat) (r5 : Nat → Int32 → Int32 → Int32 → Int32 → mM Int32) (h5 : ∀ (y0 : Nat) (y1 : Int32) (y2 : Int32) (y3 : Int32) (y4 : Int32), Rz v RX7 cX7_yardsAged 8 (some .int) false emI (d + 0) 5 [(0, vR y0), (1, vI y1), (2, vI y2), (3, vI y3), (4, vI y4)] [] (r5 y0 y1 y2 y3 y4)) (l0 : Nat) (l1 : Int32) (l2 : Int32) (l3 : Int32) (l4 : Int32) : Rz v RX7 cX7_yardsAged 8 (some .int) false emI (d + 0) 78 [(0, vR l0), (1, vI l1), (2, vI l2), (3, vI l3), (4, vI l4)] [] (fX7_yardsAged_78 r5 l0 l1 l2 l3 l4) := by
  unfold fX7_yardsAged_78
  refine rz_iinc (lv' := [(4, vI (l4 + 1)), (0, vR l0), (1, vI l1), (2, vI l2), (3, vI l3)]) 81 4 dX7_yardsAged_78 rfl rfl (cn_1 _) rfl rfl ?_
  refine rz_goto 5 dX7_yardsAged_81 rfl ?_
  exact rz_sub [1, 2, 3, 4, 0] rfl (h5 l0 l1 l2 l3 (l4 + 1))
def fX7_yardsAged_24 (r5 : Nat → Int32 → Int32 → Int32 → Int32 → mM Int32) : Nat → Nat → Int32 → Int32 → Int32 → Int32 → Nat → Int32 → mM Int32
  | 0 => fun _ _ _ _ _ _ _ => fun _ => none
  | n + 1 => fun l0 l1 l2 l3 l4 l5 l6 => let r24 := fX7_yardsAged_24 r5 n; bGI 3 l5 2 (fun x1 => bIf (x1 ≤ l6) (fX7_yardsAged_78 r5 l0 l1 l2 l3 l4) (bGR 3 l5 7 (fun x2 => bAI 11 x2 l6 (fun x3 => bGI 7 l0 0 (fun x4 => bIf ((x3 + x4) < l1) (r24 l0 l1 l2 l3 l4 l5 (l6 + 1)) (bIf (l2 < (x3 + x4)) (r24 l0 l1 l2 l3 l4 l5 (l6 + 1)) (bGR 3 l5 6 (fun x5 => bAI 11 x5 l6 (fun x6 => r24 l0 l1 l2 (l3 + x6) l4 l5 (l6 + 1))))))))))
theorem qX7_yardsAged_24 (r5 : Nat → Int32 → Int32 → Int32 → Int32 → mM Int32) (n : Nat) (l0 : Nat) (l1 : Int32) (l2 : Int32) (l3 : Int32) (l4 : Int32) (l5 : Nat) (l6 : Int32) : fX7_yardsAged_24 r5 (n + 1) l0 l1 l2 l3 l4 l5 l6 = bGI 3 l5 2 (fun x1 => bIf (x1 ≤ l6) (fX7_yardsAged_78 r5 l0 l1 l2 l3 l4) (bGR 3 l5 7 (fun x2 => bAI 11 x2 l6 (fun x3 => bGI 7 l0 0 (fun x4 => bIf ((x3 + x4) < l1) ((fX7_yardsAged_24 r5 n) l0 l1 l2 l3 l4 l5 (l6 + 1)) (bIf (l2 < (x3 + x4)) ((fX7_yardsAged_24 r5 n) l0 l1 l2 l3 l4 l5 (l6 + 1)) (bGR 3 l5 6 (fun x5 => bAI 11 x5 l6 (fun x6 => (fX7_yardsAged_24 r5 n) l0 l1 l2 (l3 + x6) l4 l5 (l6 + 1)))))))))) := rfl
set_option maxRecDepth 20000 in
theorem rX7_yardsAged_24 (v : mE) (d : Nat) (r5 : Nat → Int32 → Int32 → Int32 → Int32 → mM Int32) (h5 : ∀ (y0 : Nat) (y1 : Int32) (y2 : Int32) (y3 : Int32) (y4 : Int32), Rz v RX7 cX7_yardsAged 8 (some .int) false emI (d + 0) 5 [(0, vR y0), (1, vI y1), (2, vI y2), (3, vI y3), (4, vI y4)] [] (r5 y0 y1 y2 y3 y4)) : ∀ (n : Nat) (l0 : Nat) (l1 : Int32) (l2 : Int32) (l3 : Int32) (l4 : Int32) (l5 : Nat) (l6 : Int32), Rz v RX7 cX7_yardsAged 8 (some .int) false emI (d + 0) 24 [(0, vR l0), (1, vI l1), (2, vI l2), (3, vI l3), (4, vI l4), (5, vR l5), (6, vI l6)] [] (fX7_yardsAged_24 r5 n l0 l1 l2 l3 l4 l5 l6)
  | 0, _, _, _, _, _, _, _ => fun _ _ _ hm => by cases hm
  | n + 1, l0, l1, l2, l3, l4, l5, l6 => by
    have h24 := rX7_yardsAged_24 v d r5 h5 n
    unfold fX7_yardsAged_24
    generalize fX7_yardsAged_24 r5 n = r24 at h24 ⊢
    refine rz_iload 26 6 dX7_yardsAged_24 rfl rfl ?_
    refine rz_aload 28 5 dX7_yardsAged_26 rfl rfl ?_
    refine rz_gI 31 dX7_yardsAged_28 rfl rfl fl_X7_100 (fun x1 => ?_)
    refine rz_icmp_ge 78 34 dX7_yardsAged_31 rfl rfl ?_ ?_
    · exact rz_sub [0, 1, 2, 3, 4] rfl (rX7_yardsAged_78 v d r5 h5 l0 l1 l2 l3 l4)
    · refine rz_aload 36 5 dX7_yardsAged_34 rfl rfl ?_
      refine rz_gR 39 dX7_yardsAged_36 rfl rfl fl_X7_103 (fun x2 => ?_)
      refine rz_iload 41 6 dX7_yardsAged_39 rfl rfl ?_
      refine rz_iald 42 dX7_yardsAged_41 rfl (fun x3 => ?_)
      refine rz_aload_n 43 0 dX7_yardsAged_42 rfl rfl ?_
      refine rz_gI 46 dX7_yardsAged_43 rfl rfl fl_X7_9 (fun x4 => ?_)
      refine rz_iadd 47 dX7_yardsAged_46 rfl ?_
      refine rz_istore (lv' := [(7, vI (x3 + x4)), (0, vR l0), (1, vI l1), (2, vI l2), (3, vI l3), (4, vI l4), (5, vR l5), (6, vI l6)]) 49 dX7_yardsAged_47 rfl rfl rfl ?_
      refine rz_iload 51 0 dX7_yardsAged_49 rfl rfl ?_
      refine rz_iload_n 52 2 dX7_yardsAged_51 rfl rfl ?_
      refine rz_icmp_lt 72 55 dX7_yardsAged_52 rfl rfl ?_ ?_
      · refine rz_iinc (lv' := [(6, vI (l6 + 1)), (7, vI (x3 + x4)), (0, vR l0), (1, vI l1), (2, vI l2), (3, vI l3), (4, vI l4), (5, vR l5)]) 75 7 dX7_yardsAged_72 rfl rfl (cn_1 _) rfl rfl ?_
        refine rz_goto 24 dX7_yardsAged_75 rfl ?_
        exact rz_sub [2, 3, 4, 5, 6, 7, 0] rfl (h24 l0 l1 l2 l3 l4 l5 (l6 + 1))
      · refine rz_iload 57 0 dX7_yardsAged_55 rfl rfl ?_
        refine rz_iload_n 58 3 dX7_yardsAged_57 rfl rfl ?_
        refine rz_icmp_gt 72 61 dX7_yardsAged_58 rfl rfl ?_ ?_
        · refine rz_iinc (lv' := [(6, vI (l6 + 1)), (7, vI (x3 + x4)), (0, vR l0), (1, vI l1), (2, vI l2), (3, vI l3), (4, vI l4), (5, vR l5)]) 75 7 dX7_yardsAged_72 rfl rfl (cn_1 _) rfl rfl ?_
          refine rz_goto 24 dX7_yardsAged_75 rfl ?_
          exact rz_sub [2, 3, 4, 5, 6, 7, 0] rfl (h24 l0 l1 l2 l3 l4 l5 (l6 + 1))
        · refine rz_iload_n 62 4 dX7_yardsAged_61 rfl rfl ?_
          refine rz_aload 64 6 dX7_yardsAged_62 rfl rfl ?_
          refine rz_gR 67 dX7_yardsAged_64 rfl rfl fl_X7_106 (fun x5 => ?_)
          refine rz_iload 69 7 dX7_yardsAged_67 rfl rfl ?_
          refine rz_iald 70 dX7_yardsAged_69 rfl (fun x6 => ?_)
          refine rz_iadd 71 dX7_yardsAged_70 rfl ?_
          refine rz_istore_n (lv' := [(3, vI (l3 + x6)), (7, vI (x3 + x4)), (0, vR l0), (1, vI l1), (2, vI l2), (4, vI l4), (5, vR l5), (6, vI l6)]) 72 dX7_yardsAged_71 rfl rfl rfl ?_
          refine rz_iinc (lv' := [(6, vI (l6 + 1)), (3, vI (l3 + x6)), (7, vI (x3 + x4)), (0, vR l0), (1, vI l1), (2, vI l2), (4, vI l4), (5, vR l5)]) 75 7 dX7_yardsAged_72 rfl rfl (cn_1 _) rfl rfl ?_
          refine rz_goto 24 dX7_yardsAged_75 rfl ?_
          exact rz_sub [3, 4, 5, 1, 6, 7, 0] rfl (h24 l0 l1 l2 (l3 + x6) l4 l5 (l6 + 1))
def fX7_yardsAged_5 : Nat → Nat → Int32 → Int32 → Int32 → Int32 → mM Int32
  | 0 => fun _ _ _ _ _ => fun _ => none
  | n + 1 => fun l0 l1 l2 l3 l4 => let r5 := fX7_yardsAged_5 n; bIf ((12 : Int32) ≤ l4) (bRet l3) (bGR 7 l0 10 (fun x1 => bAR 14 x1 l4 (fun x2 => fX7_yardsAged_24 r5 fu l0 l1 l2 l3 l4 x2 (0 : Int32))))
theorem qX7_yardsAged_5  (n : Nat) (l0 : Nat) (l1 : Int32) (l2 : Int32) (l3 : Int32) (l4 : Int32) : fX7_yardsAged_5 (n + 1) l0 l1 l2 l3 l4 = bIf ((12 : Int32) ≤ l4) (bRet l3) (bGR 7 l0 10 (fun x1 => bAR 14 x1 l4 (fun x2 => fX7_yardsAged_24 (fX7_yardsAged_5 n) fu l0 l1 l2 l3 l4 x2 (0 : Int32)))) := rfl
set_option maxRecDepth 20000 in
theorem rX7_yardsAged_5 (v : mE) (d : Nat) : ∀ (n : Nat) (l0 : Nat) (l1 : Int32) (l2 : Int32) (l3 : Int32) (l4 : Int32), Rz v RX7 cX7_yardsAged 8 (some .int) false emI (d + 0) 5 [(0, vR l0), (1, vI l1), (2, vI l2), (3, vI l3), (4, vI l4)] [] (fX7_yardsAged_5 n l0 l1 l2 l3 l4)
  | 0, _, _, _, _, _ => fun _ _ _ hm => by cases hm
  | n + 1, l0, l1, l2, l3, l4 => by
    have h5 := rX7_yardsAged_5 v d n
    unfold fX7_yardsAged_5
    generalize fX7_yardsAged_5 n = r5 at h5 ⊢
    refine rz_iload 7 4 dX7_yardsAged_5 rfl rfl ?_
    refine rz_bipush 9 dX7_yardsAged_7 rfl cb_12 ?_
    refine rz_icmp_ge 84 12 dX7_yardsAged_9 rfl rfl ?_ ?_
    · refine rz_iload_n 85 3 dX7_yardsAged_84 rfl rfl ?_
      exact rz_ireturn rfl rfl dX7_yardsAged_85
    · refine rz_aload_n 13 0 dX7_yardsAged_12 rfl rfl ?_
      refine rz_gR 16 dX7_yardsAged_13 rfl rfl fl_X7_45 (fun x1 => ?_)
      refine rz_iload 18 4 dX7_yardsAged_16 rfl rfl ?_
      refine rz_aald 19 dX7_yardsAged_18 rfl (by decide) (fun x2 => ?_)
      refine rz_astore (lv' := [(5, vR x2), (0, vR l0), (1, vI l1), (2, vI l2), (3, vI l3), (4, vI l4)]) 21 dX7_yardsAged_19 rfl rfl rfl ?_
      refine rz_iconst 22 dX7_yardsAged_21 rfl ci_0 ?_
      refine rz_istore (lv' := [(6, vI (0 : Int32)), (5, vR x2), (0, vR l0), (1, vI l1), (2, vI l2), (3, vI l3), (4, vI l4)]) 24 dX7_yardsAged_22 rfl rfl rfl ?_
      exact rz_sub [2, 3, 4, 5, 6, 1, 0] rfl (rX7_yardsAged_24 v d r5 h5 fu l0 l1 l2 l3 l4 x2 (0 : Int32))
def fX7_yardsAged (l0 : Nat) (l1 : Int32) (l2 : Int32) : mM Int32 := fX7_yardsAged_5 fu l0 l1 l2 (0 : Int32) (0 : Int32)
set_option maxRecDepth 20000 in
theorem rX7_yardsAged (v : mE) (d : Nat) (l0 : Nat) (l1 : Int32) (l2 : Int32) : Rz v RX7 cX7_yardsAged 8 (some .int) false emI (d + 0) 0 [(0, vR l0), (1, vI l1), (2, vI l2)] [] (fX7_yardsAged l0 l1 l2) := by
  unfold fX7_yardsAged
  refine rz_iconst 1 dX7_yardsAged_0 rfl ci_0 ?_
  refine rz_istore_n (lv' := [(3, vI (0 : Int32)), (0, vR l0), (1, vI l1), (2, vI l2)]) 2 dX7_yardsAged_1 rfl rfl rfl ?_
  refine rz_iconst 3 dX7_yardsAged_2 rfl ci_0 ?_
  refine rz_istore (lv' := [(4, vI (0 : Int32)), (3, vI (0 : Int32)), (0, vR l0), (1, vI l1), (2, vI l2)]) 5 dX7_yardsAged_3 rfl rfl rfl ?_
  exact rz_sub [2, 3, 4, 1, 0] rfl (rX7_yardsAged_5 v d fu l0 l1 l2 (0 : Int32) (0 : Int32))
theorem tX7_yardsAged (v : mE) (d : Nat) (l0 : Nat) (l1 : Int32) (l2 : Int32) : Mt v yX7_yardsAged cX7_yardsAged 8 (some .int) emI (d + 0) [vR l0, vI l1, vI l2] (fX7_yardsAged l0 l1 l2) := mt_of rfl rfl (fun h => by cases h) rfl rfl (rX7_yardsAged v d l0 l1 l2)
theorem dX7_depthNow_0 : decode cX7_depthNow 0 = .ok (.aload_n 0, 1) := by decide +kernel
theorem dX7_depthNow_1 : decode cX7_depthNow 1 = .ok (.getfield 15, 3) := by decide +kernel
theorem dX7_depthNow_4 : decode cX7_depthNow 4 = .ok (.istore_n 1, 1) := by decide +kernel
theorem dX7_depthNow_5 : decode cX7_depthNow 5 = .ok (.iconst 0, 1) := by decide +kernel
theorem dX7_depthNow_6 : decode cX7_depthNow 6 = .ok (.istore_n 2, 1) := by decide +kernel
theorem dX7_depthNow_7 : decode cX7_depthNow 7 = .ok (.iload_n 2, 1) := by decide +kernel
theorem dX7_depthNow_8 : decode cX7_depthNow 8 = .ok (.aload_n 0, 1) := by decide +kernel
theorem dX7_depthNow_9 : decode cX7_depthNow 9 = .ok (.getfield 49, 3) := by decide +kernel
theorem dX7_depthNow_12 : decode cX7_depthNow 12 = .ok (.if_icmp .ge 44, 3) := by decide +kernel
theorem dX7_depthNow_15 : decode cX7_depthNow 15 = .ok (.aload_n 0, 1) := by decide +kernel
theorem dX7_depthNow_16 : decode cX7_depthNow 16 = .ok (.getfield 9, 3) := by decide +kernel
theorem dX7_depthNow_19 : decode cX7_depthNow 19 = .ok (.aload_n 0, 1) := by decide +kernel
theorem dX7_depthNow_20 : decode cX7_depthNow 20 = .ok (.getfield 52, 3) := by decide +kernel
theorem dX7_depthNow_23 : decode cX7_depthNow 23 = .ok (.iload_n 2, 1) := by decide +kernel
theorem dX7_depthNow_24 : decode cX7_depthNow 24 = .ok (.iaload, 1) := by decide +kernel
theorem dX7_depthNow_25 : decode cX7_depthNow 25 = .ok (.if_icmp .lt 25, 3) := by decide +kernel
theorem dX7_depthNow_28 : decode cX7_depthNow 28 = .ok (.aload_n 0, 1) := by decide +kernel
theorem dX7_depthNow_29 : decode cX7_depthNow 29 = .ok (.getfield 9, 3) := by decide +kernel
theorem dX7_depthNow_32 : decode cX7_depthNow 32 = .ok (.aload_n 0, 1) := by decide +kernel
theorem dX7_depthNow_33 : decode cX7_depthNow 33 = .ok (.getfield 55, 3) := by decide +kernel
theorem dX7_depthNow_36 : decode cX7_depthNow 36 = .ok (.iload_n 2, 1) := by decide +kernel
theorem dX7_depthNow_37 : decode cX7_depthNow 37 = .ok (.iaload, 1) := by decide +kernel
theorem dX7_depthNow_38 : decode cX7_depthNow 38 = .ok (.if_icmp .gt 12, 3) := by decide +kernel
theorem dX7_depthNow_41 : decode cX7_depthNow 41 = .ok (.iload_n 1, 1) := by decide +kernel
theorem dX7_depthNow_42 : decode cX7_depthNow 42 = .ok (.aload_n 0, 1) := by decide +kernel
theorem dX7_depthNow_43 : decode cX7_depthNow 43 = .ok (.getfield 58, 3) := by decide +kernel
theorem dX7_depthNow_46 : decode cX7_depthNow 46 = .ok (.iload_n 2, 1) := by decide +kernel
theorem dX7_depthNow_47 : decode cX7_depthNow 47 = .ok (.iaload, 1) := by decide +kernel
theorem dX7_depthNow_48 : decode cX7_depthNow 48 = .ok (.isub, 1) := by decide +kernel
theorem dX7_depthNow_49 : decode cX7_depthNow 49 = .ok (.istore_n 1, 1) := by decide +kernel
theorem dX7_depthNow_50 : decode cX7_depthNow 50 = .ok (.iinc 2 1, 3) := by decide +kernel
theorem dX7_depthNow_53 : decode cX7_depthNow 53 = .ok (.goto (-46), 3) := by decide +kernel
theorem dX7_depthNow_56 : decode cX7_depthNow 56 = .ok (.iconst 0, 1) := by decide +kernel
theorem dX7_depthNow_57 : decode cX7_depthNow 57 = .ok (.iload_n 1, 1) := by decide +kernel
theorem dX7_depthNow_58 : decode cX7_depthNow 58 = .ok (.invokestatic 109, 3) := by decide +kernel
theorem dX7_depthNow_61 : decode cX7_depthNow 61 = .ok (.ireturn, 1) := by decide +kernel
def fX7_depthNow_56 (l1 : Int32) : mM Int32 := bRet (jMax (0 : Int32) l1)
set_option maxRecDepth 20000 in
theorem rX7_depthNow_56 (v : mE) (d : Nat) (l1 : Int32) : Rz v RX7 cX7_depthNow 3 (some .int) false emI (d + 1) 56 [(1, vI l1)] [] (fX7_depthNow_56 l1) := by
  unfold fX7_depthNow_56
  refine rz_iconst 57 dX7_depthNow_56 rfl ci_0 ?_
  refine rz_iload_n 58 0 dX7_depthNow_57 rfl rfl ?_
  refine rz_mmax 61 dX7_depthNow_58 rfl ml_X7_109 rfl rfl ?_
  exact rz_ireturn rfl rfl dX7_depthNow_61
def fX7_depthNow_7 : Nat → Nat → Int32 → Int32 → mM Int32
  | 0 => fun _ _ _ => fun _ => none
  | n + 1 => fun l0 l1 l2 => let r7 := fX7_depthNow_7 n; bGI 7 l0 11 (fun x1 => bIf (x1 ≤ l2) (fX7_depthNow_56 l1) (bGI 7 l0 0 (fun x2 => bGR 7 l0 12 (fun x3 => bAI 11 x3 l2 (fun x4 => bIf (x2 < x4) (r7 l0 l1 (l2 + 1)) (bGI 7 l0 0 (fun x5 => bGR 7 l0 13 (fun x6 => bAI 11 x6 l2 (fun x7 => bIf (x7 < x5) (r7 l0 l1 (l2 + 1)) (bGR 7 l0 14 (fun x8 => bAI 11 x8 l2 (fun x9 => r7 l0 (l1 - x9) (l2 + 1)))))))))))))
theorem qX7_depthNow_7  (n : Nat) (l0 : Nat) (l1 : Int32) (l2 : Int32) : fX7_depthNow_7 (n + 1) l0 l1 l2 = bGI 7 l0 11 (fun x1 => bIf (x1 ≤ l2) (fX7_depthNow_56 l1) (bGI 7 l0 0 (fun x2 => bGR 7 l0 12 (fun x3 => bAI 11 x3 l2 (fun x4 => bIf (x2 < x4) ((fX7_depthNow_7 n) l0 l1 (l2 + 1)) (bGI 7 l0 0 (fun x5 => bGR 7 l0 13 (fun x6 => bAI 11 x6 l2 (fun x7 => bIf (x7 < x5) ((fX7_depthNow_7 n) l0 l1 (l2 + 1)) (bGR 7 l0 14 (fun x8 => bAI 11 x8 l2 (fun x9 => (fX7_depthNow_7 n) l0 (l1 - x9) (l2 + 1))))))))))))) := rfl
set_option maxRecDepth 20000 in
theorem rX7_depthNow_7 (v : mE) (d : Nat) : ∀ (n : Nat) (l0 : Nat) (l1 : Int32) (l2 : Int32), Rz v RX7 cX7_depthNow 3 (some .int) false emI (d + 1) 7 [(0, vR l0), (1, vI l1), (2, vI l2)] [] (fX7_depthNow_7 n l0 l1 l2)
  | 0, _, _, _ => fun _ _ _ hm => by cases hm
  | n + 1, l0, l1, l2 => by
    have h7 := rX7_depthNow_7 v d n
    unfold fX7_depthNow_7
    generalize fX7_depthNow_7 n = r7 at h7 ⊢
    refine rz_iload_n 8 2 dX7_depthNow_7 rfl rfl ?_
    refine rz_aload_n 9 0 dX7_depthNow_8 rfl rfl ?_
    refine rz_gI 12 dX7_depthNow_9 rfl rfl fl_X7_49 (fun x1 => ?_)
    refine rz_icmp_ge 56 15 dX7_depthNow_12 rfl rfl ?_ ?_
    · exact rz_sub [1] rfl (rX7_depthNow_56 v d l1)
    · refine rz_aload_n 16 0 dX7_depthNow_15 rfl rfl ?_
      refine rz_gI 19 dX7_depthNow_16 rfl rfl fl_X7_9 (fun x2 => ?_)
      refine rz_aload_n 20 0 dX7_depthNow_19 rfl rfl ?_
      refine rz_gR 23 dX7_depthNow_20 rfl rfl fl_X7_52 (fun x3 => ?_)
      refine rz_iload_n 24 2 dX7_depthNow_23 rfl rfl ?_
      refine rz_iald 25 dX7_depthNow_24 rfl (fun x4 => ?_)
      refine rz_icmp_lt 50 28 dX7_depthNow_25 rfl rfl ?_ ?_
      · refine rz_iinc (lv' := [(2, vI (l2 + 1)), (0, vR l0), (1, vI l1)]) 53 2 dX7_depthNow_50 rfl rfl (cn_1 _) rfl rfl ?_
        refine rz_goto 7 dX7_depthNow_53 rfl ?_
        exact rz_sub [1, 2, 0] rfl (h7 l0 l1 (l2 + 1))
      · refine rz_aload_n 29 0 dX7_depthNow_28 rfl rfl ?_
        refine rz_gI 32 dX7_depthNow_29 rfl rfl fl_X7_9 (fun x5 => ?_)
        refine rz_aload_n 33 0 dX7_depthNow_32 rfl rfl ?_
        refine rz_gR 36 dX7_depthNow_33 rfl rfl fl_X7_55 (fun x6 => ?_)
        refine rz_iload_n 37 2 dX7_depthNow_36 rfl rfl ?_
        refine rz_iald 38 dX7_depthNow_37 rfl (fun x7 => ?_)
        refine rz_icmp_gt 50 41 dX7_depthNow_38 rfl rfl ?_ ?_
        · refine rz_iinc (lv' := [(2, vI (l2 + 1)), (0, vR l0), (1, vI l1)]) 53 2 dX7_depthNow_50 rfl rfl (cn_1 _) rfl rfl ?_
          refine rz_goto 7 dX7_depthNow_53 rfl ?_
          exact rz_sub [1, 2, 0] rfl (h7 l0 l1 (l2 + 1))
        · refine rz_iload_n 42 1 dX7_depthNow_41 rfl rfl ?_
          refine rz_aload_n 43 0 dX7_depthNow_42 rfl rfl ?_
          refine rz_gR 46 dX7_depthNow_43 rfl rfl fl_X7_58 (fun x8 => ?_)
          refine rz_iload_n 47 2 dX7_depthNow_46 rfl rfl ?_
          refine rz_iald 48 dX7_depthNow_47 rfl (fun x9 => ?_)
          refine rz_isub 49 dX7_depthNow_48 rfl ?_
          refine rz_istore_n (lv' := [(1, vI (l1 - x9)), (0, vR l0), (2, vI l2)]) 50 dX7_depthNow_49 rfl rfl rfl ?_
          refine rz_iinc (lv' := [(2, vI (l2 + 1)), (1, vI (l1 - x9)), (0, vR l0)]) 53 2 dX7_depthNow_50 rfl rfl (cn_1 _) rfl rfl ?_
          refine rz_goto 7 dX7_depthNow_53 rfl ?_
          exact rz_sub [2, 1, 0] rfl (h7 l0 (l1 - x9) (l2 + 1))
def fX7_depthNow (l0 : Nat) : mM Int32 := bGI 7 l0 1 (fun x1 => fX7_depthNow_7 fu l0 x1 (0 : Int32))
set_option maxRecDepth 20000 in
theorem rX7_depthNow (v : mE) (d : Nat) (l0 : Nat) : Rz v RX7 cX7_depthNow 3 (some .int) false emI (d + 1) 0 [(0, vR l0)] [] (fX7_depthNow l0) := by
  unfold fX7_depthNow
  refine rz_aload_n 1 0 dX7_depthNow_0 rfl rfl ?_
  refine rz_gI 4 dX7_depthNow_1 rfl rfl fl_X7_15 (fun x1 => ?_)
  refine rz_istore_n (lv' := [(1, vI x1), (0, vR l0)]) 5 dX7_depthNow_4 rfl rfl rfl ?_
  refine rz_iconst 6 dX7_depthNow_5 rfl ci_0 ?_
  refine rz_istore_n (lv' := [(2, vI (0 : Int32)), (1, vI x1), (0, vR l0)]) 7 dX7_depthNow_6 rfl rfl rfl ?_
  exact rz_sub [2, 1, 0] rfl (rX7_depthNow_7 v d fu l0 x1 (0 : Int32))
theorem tX7_depthNow (v : mE) (d : Nat) (l0 : Nat) : Mt v yX7_depthNow cX7_depthNow 3 (some .int) emI (d + 1) [vR l0] (fX7_depthNow l0) := mt_of rfl rfl (fun h => by cases h) rfl rfl (rX7_depthNow v d l0)
theorem dX7_servesFrom_0 : decode cX7_servesFrom 0 = .ok (.aload_n 0, 1) := by decide +kernel
theorem dX7_servesFrom_1 : decode cX7_servesFrom 1 = .ok (.getfield 45, 3) := by decide +kernel
theorem dX7_servesFrom_4 : decode cX7_servesFrom 4 = .ok (.iload_n 1, 1) := by decide +kernel
theorem dX7_servesFrom_5 : decode cX7_servesFrom 5 = .ok (.aaload, 1) := by decide +kernel
theorem dX7_servesFrom_6 : decode cX7_servesFrom 6 = .ok (.astore 4, 2) := by decide +kernel
theorem dX7_servesFrom_8 : decode cX7_servesFrom 8 = .ok (.aload 4, 2) := by decide +kernel
theorem dX7_servesFrom_10 : decode cX7_servesFrom 10 = .ok (.invokevirtual 86, 3) := by decide +kernel
theorem dX7_servesFrom_13 : decode cX7_servesFrom 13 = .ok (.ifCond .eq 25, 3) := by decide +kernel
theorem dX7_servesFrom_16 : decode cX7_servesFrom 16 = .ok (.aload 4, 2) := by decide +kernel
theorem dX7_servesFrom_18 : decode cX7_servesFrom 18 = .ok (.invokevirtual 96, 3) := by decide +kernel
theorem dX7_servesFrom_21 : decode cX7_servesFrom 21 = .ok (.iload_n 2, 1) := by decide +kernel
theorem dX7_servesFrom_22 : decode cX7_servesFrom 22 = .ok (.if_icmp .ne 16, 3) := by decide +kernel
theorem dX7_servesFrom_25 : decode cX7_servesFrom 25 = .ok (.aload 4, 2) := by decide +kernel
theorem dX7_servesFrom_27 : decode cX7_servesFrom 27 = .ok (.invokevirtual 115, 3) := by decide +kernel
theorem dX7_servesFrom_30 : decode cX7_servesFrom 30 = .ok (.iload_n 3, 1) := by decide +kernel
theorem dX7_servesFrom_31 : decode cX7_servesFrom 31 = .ok (.if_icmp .lt 7, 3) := by decide +kernel
theorem dX7_servesFrom_34 : decode cX7_servesFrom 34 = .ok (.iconst 1, 1) := by decide +kernel
theorem dX7_servesFrom_35 : decode cX7_servesFrom 35 = .ok (.goto 4, 3) := by decide +kernel
theorem dX7_servesFrom_38 : decode cX7_servesFrom 38 = .ok (.iconst 0, 1) := by decide +kernel
theorem dX7_servesFrom_39 : decode cX7_servesFrom 39 = .ok (.ireturn, 1) := by decide +kernel
def fX7_servesFrom (l0 : Nat) (l1 : Int32) (l2 : Int32) (l3 : Int32) : mM Int32 := bGR 7 l0 10 (fun x1 => bAR 14 x1 l1 (fun x2 => bCallV 3 x2 (fX3_isThere x2) (fun x3 => bIf (x3 = 0) (bRetZ (0 : Int32)) (bCallV 3 x2 (fX3_holder x2) (fun x4 => bIf (x4 = l2) (bCallV 3 x2 (fX3_reach x2) (fun x5 => bIf (x5 < l3) (bRetZ (0 : Int32)) (bRetZ (1 : Int32)))) (bRetZ (0 : Int32)))))))
set_option maxRecDepth 20000 in
theorem rX7_servesFrom (v : mE) (d : Nat) (l0 : Nat) (l1 : Int32) (l2 : Int32) (l3 : Int32) : Rz v RX7 cX7_servesFrom 5 (some .boolean) false emI (d + 2) 0 [(0, vR l0), (1, vI l1), (2, vI l2), (3, vI l3)] [] (fX7_servesFrom l0 l1 l2 l3) := by
  unfold fX7_servesFrom
  refine rz_aload_n 1 0 dX7_servesFrom_0 rfl rfl ?_
  refine rz_gR 4 dX7_servesFrom_1 rfl rfl fl_X7_45 (fun x1 => ?_)
  refine rz_iload_n 5 1 dX7_servesFrom_4 rfl rfl ?_
  refine rz_aald 6 dX7_servesFrom_5 rfl (by decide) (fun x2 => ?_)
  refine rz_astore (lv' := [(4, vR x2), (0, vR l0), (1, vI l1), (2, vI l2), (3, vI l3)]) 8 dX7_servesFrom_6 rfl rfl rfl ?_
  refine rz_aload 10 0 dX7_servesFrom_8 rfl rfl ?_
  refine rz_callV 13 dX7_servesFrom_10 rfl (tX3_isThere v (d + 1) x2) rfl rfl rfl rfl ml_X7_86 im_X3_isThere se_X3_X3_isThere in_X3 co_X3_isThere rfl rfl (fun x3 => ?_)
  refine rz_if_eq 38 16 dX7_servesFrom_13 rfl rfl ?_ ?_
  · refine rz_iconst 39 dX7_servesFrom_38 rfl ci_0 ?_
    exact rz_zreturn rfl rfl dX7_servesFrom_39
  · refine rz_aload 18 0 dX7_servesFrom_16 rfl rfl ?_
    refine rz_callV 21 dX7_servesFrom_18 rfl (tX3_holder v (d + 1) x2) rfl rfl rfl rfl ml_X7_96 im_X3_holder se_X3_X3_holder in_X3 co_X3_holder rfl rfl (fun x4 => ?_)
    refine rz_iload_n 22 3 dX7_servesFrom_21 rfl rfl ?_
    refine rz_icmp_ne 38 25 dX7_servesFrom_22 rfl rfl ?_ ?_
    · refine rz_iconst 39 dX7_servesFrom_38 rfl ci_0 ?_
      exact rz_zreturn rfl rfl dX7_servesFrom_39
    · refine rz_aload 27 0 dX7_servesFrom_25 rfl rfl ?_
      refine rz_callV 30 dX7_servesFrom_27 rfl (tX3_reach v (d + 0) x2) rfl rfl rfl rfl ml_X7_115 im_X3_reach se_X3_X3_reach in_X3 co_X3_reach rfl rfl (fun x5 => ?_)
      refine rz_iload_n 31 4 dX7_servesFrom_30 rfl rfl ?_
      refine rz_icmp_lt 38 34 dX7_servesFrom_31 rfl rfl ?_ ?_
      · refine rz_iconst 39 dX7_servesFrom_38 rfl ci_0 ?_
        exact rz_zreturn rfl rfl dX7_servesFrom_39
      · refine rz_iconst 35 dX7_servesFrom_34 rfl ci_1 ?_
        refine rz_goto 39 dX7_servesFrom_35 rfl ?_
        exact rz_zreturn rfl rfl dX7_servesFrom_39
theorem tX7_servesFrom (v : mE) (d : Nat) (l0 : Nat) (l1 : Int32) (l2 : Int32) (l3 : Int32) : Mt v yX7_servesFrom cX7_servesFrom 5 (some .boolean) emI (d + 2) [vR l0, vI l1, vI l2, vI l3] (fX7_servesFrom l0 l1 l2 l3) := mt_of rfl rfl (fun h => by cases h) rfl rfl (rX7_servesFrom v d l0 l1 l2 l3)
theorem dX7_drinkers_0 : decode cX7_drinkers 0 = .ok (.aload_n 0, 1) := by decide +kernel
theorem dX7_drinkers_1 : decode cX7_drinkers 1 = .ok (.invokevirtual 118, 3) := by decide +kernel
theorem dX7_drinkers_4 : decode cX7_drinkers 4 = .ok (.istore_n 1, 1) := by decide +kernel
theorem dX7_drinkers_5 : decode cX7_drinkers 5 = .ok (.iload_n 1, 1) := by decide +kernel
theorem dX7_drinkers_6 : decode cX7_drinkers 6 = .ok (.aload_n 0, 1) := by decide +kernel
theorem dX7_drinkers_7 : decode cX7_drinkers 7 = .ok (.getfield 18, 3) := by decide +kernel
theorem dX7_drinkers_10 : decode cX7_drinkers 10 = .ok (.if_icmp .le 5, 3) := by decide +kernel
theorem dX7_drinkers_13 : decode cX7_drinkers 13 = .ok (.iconst 0, 1) := by decide +kernel
theorem dX7_drinkers_14 : decode cX7_drinkers 14 = .ok (.ireturn, 1) := by decide +kernel
theorem dX7_drinkers_15 : decode cX7_drinkers 15 = .ok (.iconst 0, 1) := by decide +kernel
theorem dX7_drinkers_16 : decode cX7_drinkers 16 = .ok (.istore_n 2, 1) := by decide +kernel
theorem dX7_drinkers_17 : decode cX7_drinkers 17 = .ok (.iconst 0, 1) := by decide +kernel
theorem dX7_drinkers_18 : decode cX7_drinkers 18 = .ok (.istore_n 3, 1) := by decide +kernel
theorem dX7_drinkers_19 : decode cX7_drinkers 19 = .ok (.iload_n 3, 1) := by decide +kernel
theorem dX7_drinkers_20 : decode cX7_drinkers 20 = .ok (.bipush 12, 2) := by decide +kernel
theorem dX7_drinkers_22 : decode cX7_drinkers 22 = .ok (.if_icmp .ge 53, 3) := by decide +kernel
theorem dX7_drinkers_25 : decode cX7_drinkers 25 = .ok (.aload_n 0, 1) := by decide +kernel
theorem dX7_drinkers_26 : decode cX7_drinkers 26 = .ok (.getfield 45, 3) := by decide +kernel
theorem dX7_drinkers_29 : decode cX7_drinkers 29 = .ok (.iload_n 3, 1) := by decide +kernel
theorem dX7_drinkers_30 : decode cX7_drinkers 30 = .ok (.aaload, 1) := by decide +kernel
theorem dX7_drinkers_31 : decode cX7_drinkers 31 = .ok (.invokevirtual 96, 3) := by decide +kernel
theorem dX7_drinkers_34 : decode cX7_drinkers 34 = .ok (.istore 4, 2) := by decide +kernel
theorem dX7_drinkers_36 : decode cX7_drinkers 36 = .ok (.iload 4, 2) := by decide +kernel
theorem dX7_drinkers_38 : decode cX7_drinkers 38 = .ok (.iconst (-1), 1) := by decide +kernel
theorem dX7_drinkers_39 : decode cX7_drinkers 39 = .ok (.if_icmp .eq 30, 3) := by decide +kernel
theorem dX7_drinkers_42 : decode cX7_drinkers 42 = .ok (.aload_n 0, 1) := by decide +kernel
theorem dX7_drinkers_43 : decode cX7_drinkers 43 = .ok (.iload 4, 2) := by decide +kernel
theorem dX7_drinkers_45 : decode cX7_drinkers 45 = .ok (.invokevirtual 82, 3) := by decide +kernel
theorem dX7_drinkers_48 : decode cX7_drinkers 48 = .ok (.ifCond .eq 21, 3) := by decide +kernel
theorem dX7_drinkers_51 : decode cX7_drinkers 51 = .ok (.aload_n 0, 1) := by decide +kernel
theorem dX7_drinkers_52 : decode cX7_drinkers 52 = .ok (.iload_n 3, 1) := by decide +kernel
theorem dX7_drinkers_53 : decode cX7_drinkers 53 = .ok (.iload 4, 2) := by decide +kernel
theorem dX7_drinkers_55 : decode cX7_drinkers 55 = .ok (.iload_n 1, 1) := by decide +kernel
theorem dX7_drinkers_56 : decode cX7_drinkers 56 = .ok (.invokevirtual 121, 3) := by decide +kernel
theorem dX7_drinkers_59 : decode cX7_drinkers 59 = .ok (.ifCond .eq 10, 3) := by decide +kernel
theorem dX7_drinkers_62 : decode cX7_drinkers 62 = .ok (.iload_n 2, 1) := by decide +kernel
theorem dX7_drinkers_63 : decode cX7_drinkers 63 = .ok (.iconst 1, 1) := by decide +kernel
theorem dX7_drinkers_64 : decode cX7_drinkers 64 = .ok (.iload 4, 2) := by decide +kernel
theorem dX7_drinkers_66 : decode cX7_drinkers 66 = .ok (.ishl, 1) := by decide +kernel
theorem dX7_drinkers_67 : decode cX7_drinkers 67 = .ok (.ior, 1) := by decide +kernel
theorem dX7_drinkers_68 : decode cX7_drinkers 68 = .ok (.istore_n 2, 1) := by decide +kernel
theorem dX7_drinkers_69 : decode cX7_drinkers 69 = .ok (.iinc 3 1, 3) := by decide +kernel
theorem dX7_drinkers_72 : decode cX7_drinkers 72 = .ok (.goto (-53), 3) := by decide +kernel
theorem dX7_drinkers_75 : decode cX7_drinkers 75 = .ok (.iload_n 2, 1) := by decide +kernel
theorem dX7_drinkers_76 : decode cX7_drinkers 76 = .ok (.ireturn, 1) := by decide +kernel
def fX7_drinkers_19 : Nat → Nat → Int32 → Int32 → Int32 → mM Int32
  | 0 => fun _ _ _ _ => fun _ => none
  | n + 1 => fun l0 l1 l2 l3 => let r19 := fX7_drinkers_19 n; bIf ((12 : Int32) ≤ l3) (bRet l2) (bGR 7 l0 10 (fun x1 => bAR 14 x1 l3 (fun x2 => bCallV 3 x2 (fX3_holder x2) (fun x3 => bIf (x3 = (-1 : Int32)) (r19 l0 l1 l2 (l3 + 1)) (bCallV 7 l0 (fX7_isAlive l0 x3) (fun x4 => bIf (x4 = 0) (r19 l0 l1 l2 (l3 + 1)) (bCallV 7 l0 (fX7_servesFrom l0 l3 x3 l1) (fun x5 => bIf (x5 = 0) (r19 l0 l1 l2 (l3 + 1)) (r19 l0 l1 (l2 ||| ((1 : Int32) <<< (x3 &&& 31))) (l3 + 1))))))))))
theorem qX7_drinkers_19  (n : Nat) (l0 : Nat) (l1 : Int32) (l2 : Int32) (l3 : Int32) : fX7_drinkers_19 (n + 1) l0 l1 l2 l3 = bIf ((12 : Int32) ≤ l3) (bRet l2) (bGR 7 l0 10 (fun x1 => bAR 14 x1 l3 (fun x2 => bCallV 3 x2 (fX3_holder x2) (fun x3 => bIf (x3 = (-1 : Int32)) ((fX7_drinkers_19 n) l0 l1 l2 (l3 + 1)) (bCallV 7 l0 (fX7_isAlive l0 x3) (fun x4 => bIf (x4 = 0) ((fX7_drinkers_19 n) l0 l1 l2 (l3 + 1)) (bCallV 7 l0 (fX7_servesFrom l0 l3 x3 l1) (fun x5 => bIf (x5 = 0) ((fX7_drinkers_19 n) l0 l1 l2 (l3 + 1)) ((fX7_drinkers_19 n) l0 l1 (l2 ||| ((1 : Int32) <<< (x3 &&& 31))) (l3 + 1)))))))))) := rfl
set_option maxRecDepth 20000 in
theorem rX7_drinkers_19 (v : mE) (d : Nat) : ∀ (n : Nat) (l0 : Nat) (l1 : Int32) (l2 : Int32) (l3 : Int32), Rz v RX7 cX7_drinkers 5 (some .int) false emI (d + 3) 19 [(0, vR l0), (1, vI l1), (2, vI l2), (3, vI l3)] [] (fX7_drinkers_19 n l0 l1 l2 l3)
  | 0, _, _, _, _ => fun _ _ _ hm => by cases hm
  | n + 1, l0, l1, l2, l3 => by
    have h19 := rX7_drinkers_19 v d n
    unfold fX7_drinkers_19
    generalize fX7_drinkers_19 n = r19 at h19 ⊢
    refine rz_iload_n 20 3 dX7_drinkers_19 rfl rfl ?_
    refine rz_bipush 22 dX7_drinkers_20 rfl cb_12 ?_
    refine rz_icmp_ge 75 25 dX7_drinkers_22 rfl rfl ?_ ?_
    · refine rz_iload_n 76 2 dX7_drinkers_75 rfl rfl ?_
      exact rz_ireturn rfl rfl dX7_drinkers_76
    · refine rz_aload_n 26 0 dX7_drinkers_25 rfl rfl ?_
      refine rz_gR 29 dX7_drinkers_26 rfl rfl fl_X7_45 (fun x1 => ?_)
      refine rz_iload_n 30 3 dX7_drinkers_29 rfl rfl ?_
      refine rz_aald 31 dX7_drinkers_30 rfl (by decide) (fun x2 => ?_)
      refine rz_callV 34 dX7_drinkers_31 rfl (tX3_holder v (d + 2) x2) rfl rfl rfl rfl ml_X7_96 im_X3_holder se_X3_X3_holder in_X3 co_X3_holder rfl rfl (fun x3 => ?_)
      refine rz_istore (lv' := [(4, vI x3), (0, vR l0), (1, vI l1), (2, vI l2), (3, vI l3)]) 36 dX7_drinkers_34 rfl rfl rfl ?_
      refine rz_iload 38 0 dX7_drinkers_36 rfl rfl ?_
      refine rz_iconst 39 dX7_drinkers_38 rfl ci_m1 ?_
      refine rz_icmp_eq 69 42 dX7_drinkers_39 rfl rfl ?_ ?_
      · refine rz_iinc (lv' := [(3, vI (l3 + 1)), (4, vI x3), (0, vR l0), (1, vI l1), (2, vI l2)]) 72 4 dX7_drinkers_69 rfl rfl (cn_1 _) rfl rfl ?_
        refine rz_goto 19 dX7_drinkers_72 rfl ?_
        exact rz_sub [2, 3, 4, 0] rfl (h19 l0 l1 l2 (l3 + 1))
      · refine rz_aload_n 43 1 dX7_drinkers_42 rfl rfl ?_
        refine rz_iload 45 0 dX7_drinkers_43 rfl rfl ?_
        refine rz_callV 48 dX7_drinkers_45 rfl (tX7_isAlive v (d + 2) l0 x3) rfl rfl rfl rfl ml_X7_82 im_X7_isAlive se_X7_X7_isAlive in_X7 co_X7_isAlive rfl rfl (fun x4 => ?_)
        refine rz_if_eq 69 51 dX7_drinkers_48 rfl rfl ?_ ?_
        · refine rz_iinc (lv' := [(3, vI (l3 + 1)), (4, vI x3), (0, vR l0), (1, vI l1), (2, vI l2)]) 72 4 dX7_drinkers_69 rfl rfl (cn_1 _) rfl rfl ?_
          refine rz_goto 19 dX7_drinkers_72 rfl ?_
          exact rz_sub [2, 3, 4, 0] rfl (h19 l0 l1 l2 (l3 + 1))
        · refine rz_aload_n 52 1 dX7_drinkers_51 rfl rfl ?_
          refine rz_iload_n 53 4 dX7_drinkers_52 rfl rfl ?_
          refine rz_iload 55 0 dX7_drinkers_53 rfl rfl ?_
          refine rz_iload_n 56 2 dX7_drinkers_55 rfl rfl ?_
          refine rz_callV 59 dX7_drinkers_56 rfl (tX7_servesFrom v (d + 0) l0 l3 x3 l1) rfl rfl rfl rfl ml_X7_121 im_X7_servesFrom se_X7_X7_servesFrom in_X7 co_X7_servesFrom rfl rfl (fun x5 => ?_)
          refine rz_if_eq 69 62 dX7_drinkers_59 rfl rfl ?_ ?_
          · refine rz_iinc (lv' := [(3, vI (l3 + 1)), (4, vI x3), (0, vR l0), (1, vI l1), (2, vI l2)]) 72 4 dX7_drinkers_69 rfl rfl (cn_1 _) rfl rfl ?_
            refine rz_goto 19 dX7_drinkers_72 rfl ?_
            exact rz_sub [2, 3, 4, 0] rfl (h19 l0 l1 l2 (l3 + 1))
          · refine rz_iload_n 63 3 dX7_drinkers_62 rfl rfl ?_
            refine rz_iconst 64 dX7_drinkers_63 rfl ci_1 ?_
            refine rz_iload 66 0 dX7_drinkers_64 rfl rfl ?_
            refine rz_ishl 67 dX7_drinkers_66 rfl ?_
            refine rz_ior 68 dX7_drinkers_67 rfl ?_
            refine rz_istore_n (lv' := [(2, vI (l2 ||| ((1 : Int32) <<< (x3 &&& 31)))), (4, vI x3), (0, vR l0), (1, vI l1), (3, vI l3)]) 69 dX7_drinkers_68 rfl rfl rfl ?_
            refine rz_iinc (lv' := [(3, vI (l3 + 1)), (2, vI (l2 ||| ((1 : Int32) <<< (x3 &&& 31)))), (4, vI x3), (0, vR l0), (1, vI l1)]) 72 4 dX7_drinkers_69 rfl rfl (cn_1 _) rfl rfl ?_
            refine rz_goto 19 dX7_drinkers_72 rfl ?_
            exact rz_sub [3, 4, 1, 0] rfl (h19 l0 l1 (l2 ||| ((1 : Int32) <<< (x3 &&& 31))) (l3 + 1))
def fX7_drinkers (l0 : Nat) : mM Int32 := bCallV 7 l0 (fX7_depthNow l0) (fun x1 => bGI 7 l0 2 (fun x2 => bIf (x1 ≤ x2) (fX7_drinkers_19 fu l0 x1 (0 : Int32) (0 : Int32)) (bRet (0 : Int32))))
set_option maxRecDepth 20000 in
theorem rX7_drinkers (v : mE) (d : Nat) (l0 : Nat) : Rz v RX7 cX7_drinkers 5 (some .int) false emI (d + 3) 0 [(0, vR l0)] [] (fX7_drinkers l0) := by
  unfold fX7_drinkers
  refine rz_aload_n 1 0 dX7_drinkers_0 rfl rfl ?_
  refine rz_callV 4 dX7_drinkers_1 rfl (tX7_depthNow v (d + 1) l0) rfl rfl rfl rfl ml_X7_118 im_X7_depthNow se_X7_X7_depthNow in_X7 co_X7_depthNow rfl rfl (fun x1 => ?_)
  refine rz_istore_n (lv' := [(1, vI x1), (0, vR l0)]) 5 dX7_drinkers_4 rfl rfl rfl ?_
  refine rz_iload_n 6 0 dX7_drinkers_5 rfl rfl ?_
  refine rz_aload_n 7 1 dX7_drinkers_6 rfl rfl ?_
  refine rz_gI 10 dX7_drinkers_7 rfl rfl fl_X7_18 (fun x2 => ?_)
  refine rz_icmp_le 15 13 dX7_drinkers_10 rfl rfl ?_ ?_
  · refine rz_iconst 16 dX7_drinkers_15 rfl ci_0 ?_
    refine rz_istore_n (lv' := [(2, vI (0 : Int32)), (1, vI x1), (0, vR l0)]) 17 dX7_drinkers_16 rfl rfl rfl ?_
    refine rz_iconst 18 dX7_drinkers_17 rfl ci_0 ?_
    refine rz_istore_n (lv' := [(3, vI (0 : Int32)), (2, vI (0 : Int32)), (1, vI x1), (0, vR l0)]) 19 dX7_drinkers_18 rfl rfl rfl ?_
    exact rz_sub [3, 2, 1, 0] rfl (rX7_drinkers_19 v d fu l0 x1 (0 : Int32) (0 : Int32))
  · refine rz_iconst 14 dX7_drinkers_13 rfl ci_0 ?_
    exact rz_ireturn rfl rfl dX7_drinkers_14
theorem tX7_drinkers (v : mE) (d : Nat) (l0 : Nat) : Mt v yX7_drinkers cX7_drinkers 5 (some .int) emI (d + 3) [vR l0] (fX7_drinkers l0) := mt_of rfl rfl (fun h => by cases h) rfl rfl (rX7_drinkers v d l0)
theorem dX7_isDrinking_0 : decode cX7_isDrinking 0 = .ok (.aload_n 0, 1) := by decide +kernel
theorem dX7_isDrinking_1 : decode cX7_isDrinking 1 = .ok (.invokevirtual 125, 3) := by decide +kernel
theorem dX7_isDrinking_4 : decode cX7_isDrinking 4 = .ok (.iload_n 1, 1) := by decide +kernel
theorem dX7_isDrinking_5 : decode cX7_isDrinking 5 = .ok (.ishr, 1) := by decide +kernel
theorem dX7_isDrinking_6 : decode cX7_isDrinking 6 = .ok (.iconst 1, 1) := by decide +kernel
theorem dX7_isDrinking_7 : decode cX7_isDrinking 7 = .ok (.iand, 1) := by decide +kernel
theorem dX7_isDrinking_8 : decode cX7_isDrinking 8 = .ok (.iconst 1, 1) := by decide +kernel
theorem dX7_isDrinking_9 : decode cX7_isDrinking 9 = .ok (.if_icmp .ne 7, 3) := by decide +kernel
theorem dX7_isDrinking_12 : decode cX7_isDrinking 12 = .ok (.iconst 1, 1) := by decide +kernel
theorem dX7_isDrinking_13 : decode cX7_isDrinking 13 = .ok (.goto 4, 3) := by decide +kernel
theorem dX7_isDrinking_16 : decode cX7_isDrinking 16 = .ok (.iconst 0, 1) := by decide +kernel
theorem dX7_isDrinking_17 : decode cX7_isDrinking 17 = .ok (.ireturn, 1) := by decide +kernel
def fX7_isDrinking (l0 : Nat) (l1 : Int32) : mM Int32 := bCallV 7 l0 (fX7_drinkers l0) (fun x1 => bIf (((x1 >>> (l1 &&& 31)) &&& (1 : Int32)) = (1 : Int32)) (bRetZ (1 : Int32)) (bRetZ (0 : Int32)))
set_option maxRecDepth 20000 in
theorem rX7_isDrinking (v : mE) (d : Nat) (l0 : Nat) (l1 : Int32) : Rz v RX7 cX7_isDrinking 2 (some .boolean) false emI (d + 4) 0 [(0, vR l0), (1, vI l1)] [] (fX7_isDrinking l0 l1) := by
  unfold fX7_isDrinking
  refine rz_aload_n 1 0 dX7_isDrinking_0 rfl rfl ?_
  refine rz_callV 4 dX7_isDrinking_1 rfl (tX7_drinkers v (d + 0) l0) rfl rfl rfl rfl ml_X7_125 im_X7_drinkers se_X7_X7_drinkers in_X7 co_X7_drinkers rfl rfl (fun x1 => ?_)
  refine rz_iload_n 5 1 dX7_isDrinking_4 rfl rfl ?_
  refine rz_ishr 6 dX7_isDrinking_5 rfl ?_
  refine rz_iconst 7 dX7_isDrinking_6 rfl ci_1 ?_
  refine rz_iand 8 dX7_isDrinking_7 rfl ?_
  refine rz_iconst 9 dX7_isDrinking_8 rfl ci_1 ?_
  refine rz_icmp_ne 16 12 dX7_isDrinking_9 rfl rfl ?_ ?_
  · refine rz_iconst 17 dX7_isDrinking_16 rfl ci_0 ?_
    exact rz_zreturn rfl rfl dX7_isDrinking_17
  · refine rz_iconst 13 dX7_isDrinking_12 rfl ci_1 ?_
    refine rz_goto 17 dX7_isDrinking_13 rfl ?_
    exact rz_zreturn rfl rfl dX7_isDrinking_17
theorem tX7_isDrinking (v : mE) (d : Nat) (l0 : Nat) (l1 : Int32) : Mt v yX7_isDrinking cX7_isDrinking 2 (some .boolean) emI (d + 4) [vR l0, vI l1] (fX7_isDrinking l0 l1) := mt_of rfl rfl (fun h => by cases h) rfl rfl (rX7_isDrinking v d l0 l1)
theorem dX7_countThirsty_0 : decode cX7_countThirsty 0 = .ok (.aload_n 0, 1) := by decide +kernel
theorem dX7_countThirsty_1 : decode cX7_countThirsty 1 = .ok (.invokevirtual 128, 3) := by decide +kernel
theorem dX7_countThirsty_4 : decode cX7_countThirsty 4 = .ok (.aload_n 0, 1) := by decide +kernel
theorem dX7_countThirsty_5 : decode cX7_countThirsty 5 = .ok (.invokevirtual 125, 3) := by decide +kernel
theorem dX7_countThirsty_8 : decode cX7_countThirsty 8 = .ok (.invokestatic 131, 3) := by decide +kernel
theorem dX7_countThirsty_11 : decode cX7_countThirsty 11 = .ok (.isub, 1) := by decide +kernel
theorem dX7_countThirsty_12 : decode cX7_countThirsty 12 = .ok (.ireturn, 1) := by decide +kernel
def fX7_countThirsty (l0 : Nat) : mM Int32 := bCallV 7 l0 (fX7_countAlive l0) (fun x1 => bCallV 7 l0 (fX7_drinkers l0) (fun x2 => bCall (fJ6_bitCount_0f7a4 x2) (fun x3 => bRet (x1 - x3))))
set_option maxRecDepth 20000 in
theorem rX7_countThirsty (v : mE) (d : Nat) (l0 : Nat) : Rz v RX7 cX7_countThirsty 1 (some .int) false emI (d + 4) 0 [(0, vR l0)] [] (fX7_countThirsty l0) := by
  unfold fX7_countThirsty
  refine rz_aload_n 1 0 dX7_countThirsty_0 rfl rfl ?_
  refine rz_callV 4 dX7_countThirsty_1 rfl (tX7_countAlive v (d + 2) l0) rfl rfl rfl rfl ml_X7_128 im_X7_countAlive se_X7_X7_countAlive in_X7 co_X7_countAlive rfl rfl (fun x1 => ?_)
  refine rz_aload_n 5 0 dX7_countThirsty_4 rfl rfl ?_
  refine rz_callV 8 dX7_countThirsty_5 rfl (tX7_drinkers v (d + 0) l0) rfl rfl rfl rfl ml_X7_125 im_X7_drinkers se_X7_X7_drinkers in_X7 co_X7_drinkers rfl rfl (fun x2 => ?_)
  refine rz_callS 11 dX7_countThirsty_8 rfl (tJ6_bitCount_0f7a4 v (d + 3) x2) rfl rfl ml_X7_131 sm_J6_bitCount_0f7a4 in_J6 co_J6_bitCount_0f7a4 rfl rfl (fun x3 => ?_)
  refine rz_isub 12 dX7_countThirsty_11 rfl ?_
  exact rz_ireturn rfl rfl dX7_countThirsty_12
theorem tX7_countThirsty (v : mE) (d : Nat) (l0 : Nat) : Mt v yX7_countThirsty cX7_countThirsty 1 (some .int) emI (d + 4) [vR l0] (fX7_countThirsty l0) := mt_of rfl rfl (fun h => by cases h) rfl rfl (rX7_countThirsty v d l0)
theorem dX7_neededRopes_0 : decode cX7_neededRopes 0 = .ok (.aload_n 0, 1) := by decide +kernel
theorem dX7_neededRopes_1 : decode cX7_neededRopes 1 = .ok (.invokevirtual 125, 3) := by decide +kernel
theorem dX7_neededRopes_4 : decode cX7_neededRopes 4 = .ok (.istore_n 1, 1) := by decide +kernel
theorem dX7_neededRopes_5 : decode cX7_neededRopes 5 = .ok (.aload_n 0, 1) := by decide +kernel
theorem dX7_neededRopes_6 : decode cX7_neededRopes 6 = .ok (.invokevirtual 118, 3) := by decide +kernel
theorem dX7_neededRopes_9 : decode cX7_neededRopes 9 = .ok (.istore_n 2, 1) := by decide +kernel
theorem dX7_neededRopes_10 : decode cX7_neededRopes 10 = .ok (.iconst 0, 1) := by decide +kernel
theorem dX7_neededRopes_11 : decode cX7_neededRopes 11 = .ok (.istore_n 3, 1) := by decide +kernel
theorem dX7_neededRopes_12 : decode cX7_neededRopes 12 = .ok (.iconst 0, 1) := by decide +kernel
theorem dX7_neededRopes_13 : decode cX7_neededRopes 13 = .ok (.istore 4, 2) := by decide +kernel
theorem dX7_neededRopes_15 : decode cX7_neededRopes 15 = .ok (.iload 4, 2) := by decide +kernel
theorem dX7_neededRopes_17 : decode cX7_neededRopes 17 = .ok (.aload_n 0, 1) := by decide +kernel
theorem dX7_neededRopes_18 : decode cX7_neededRopes 18 = .ok (.getfield 33, 3) := by decide +kernel
theorem dX7_neededRopes_21 : decode cX7_neededRopes 21 = .ok (.if_icmp .ge 73, 3) := by decide +kernel
theorem dX7_neededRopes_24 : decode cX7_neededRopes 24 = .ok (.iconst 0, 1) := by decide +kernel
theorem dX7_neededRopes_25 : decode cX7_neededRopes 25 = .ok (.istore 5, 2) := by decide +kernel
theorem dX7_neededRopes_27 : decode cX7_neededRopes 27 = .ok (.iconst 0, 1) := by decide +kernel
theorem dX7_neededRopes_28 : decode cX7_neededRopes 28 = .ok (.istore 6, 2) := by decide +kernel
theorem dX7_neededRopes_30 : decode cX7_neededRopes 30 = .ok (.iload 6, 2) := by decide +kernel
theorem dX7_neededRopes_32 : decode cX7_neededRopes 32 = .ok (.bipush 12, 2) := by decide +kernel
theorem dX7_neededRopes_34 : decode cX7_neededRopes 34 = .ok (.if_icmp .ge 30, 3) := by decide +kernel
theorem dX7_neededRopes_37 : decode cX7_neededRopes 37 = .ok (.aload_n 0, 1) := by decide +kernel
theorem dX7_neededRopes_38 : decode cX7_neededRopes 38 = .ok (.iload 6, 2) := by decide +kernel
theorem dX7_neededRopes_40 : decode cX7_neededRopes 40 = .ok (.iload 4, 2) := by decide +kernel
theorem dX7_neededRopes_42 : decode cX7_neededRopes 42 = .ok (.iload_n 2, 1) := by decide +kernel
theorem dX7_neededRopes_43 : decode cX7_neededRopes 43 = .ok (.invokevirtual 121, 3) := by decide +kernel
theorem dX7_neededRopes_46 : decode cX7_neededRopes 46 = .ok (.ifCond .eq 12, 3) := by decide +kernel
theorem dX7_neededRopes_49 : decode cX7_neededRopes 49 = .ok (.iload 5, 2) := by decide +kernel
theorem dX7_neededRopes_51 : decode cX7_neededRopes 51 = .ok (.iconst 1, 1) := by decide +kernel
theorem dX7_neededRopes_52 : decode cX7_neededRopes 52 = .ok (.iload 6, 2) := by decide +kernel
theorem dX7_neededRopes_54 : decode cX7_neededRopes 54 = .ok (.ishl, 1) := by decide +kernel
theorem dX7_neededRopes_55 : decode cX7_neededRopes 55 = .ok (.ior, 1) := by decide +kernel
theorem dX7_neededRopes_56 : decode cX7_neededRopes 56 = .ok (.istore 5, 2) := by decide +kernel
theorem dX7_neededRopes_58 : decode cX7_neededRopes 58 = .ok (.iinc 6 1, 3) := by decide +kernel
theorem dX7_neededRopes_61 : decode cX7_neededRopes 61 = .ok (.goto (-31), 3) := by decide +kernel
theorem dX7_neededRopes_64 : decode cX7_neededRopes 64 = .ok (.iload_n 1, 1) := by decide +kernel
theorem dX7_neededRopes_65 : decode cX7_neededRopes 65 = .ok (.iload 4, 2) := by decide +kernel
theorem dX7_neededRopes_67 : decode cX7_neededRopes 67 = .ok (.ishr, 1) := by decide +kernel
theorem dX7_neededRopes_68 : decode cX7_neededRopes 68 = .ok (.iconst 1, 1) := by decide +kernel
theorem dX7_neededRopes_69 : decode cX7_neededRopes 69 = .ok (.iand, 1) := by decide +kernel
theorem dX7_neededRopes_70 : decode cX7_neededRopes 70 = .ok (.iconst 1, 1) := by decide +kernel
theorem dX7_neededRopes_71 : decode cX7_neededRopes 71 = .ok (.if_icmp .ne 17, 3) := by decide +kernel
theorem dX7_neededRopes_74 : decode cX7_neededRopes 74 = .ok (.iload 5, 2) := by decide +kernel
theorem dX7_neededRopes_76 : decode cX7_neededRopes 76 = .ok (.invokestatic 131, 3) := by decide +kernel
theorem dX7_neededRopes_79 : decode cX7_neededRopes 79 = .ok (.iconst 1, 1) := by decide +kernel
theorem dX7_neededRopes_80 : decode cX7_neededRopes 80 = .ok (.if_icmp .ne 8, 3) := by decide +kernel
theorem dX7_neededRopes_83 : decode cX7_neededRopes 83 = .ok (.iload_n 3, 1) := by decide +kernel
theorem dX7_neededRopes_84 : decode cX7_neededRopes 84 = .ok (.iload 5, 2) := by decide +kernel
theorem dX7_neededRopes_86 : decode cX7_neededRopes 86 = .ok (.ior, 1) := by decide +kernel
theorem dX7_neededRopes_87 : decode cX7_neededRopes 87 = .ok (.istore_n 3, 1) := by decide +kernel
theorem dX7_neededRopes_88 : decode cX7_neededRopes 88 = .ok (.iinc 4 1, 3) := by decide +kernel
theorem dX7_neededRopes_91 : decode cX7_neededRopes 91 = .ok (.goto (-76), 3) := by decide +kernel
theorem dX7_neededRopes_94 : decode cX7_neededRopes 94 = .ok (.iload_n 3, 1) := by decide +kernel
theorem dX7_neededRopes_95 : decode cX7_neededRopes 95 = .ok (.ireturn, 1) := by decide +kernel
def fX7_neededRopes_64 (r15 : Nat → Int32 → Int32 → Int32 → Int32 → mM Int32) (l0 : Nat) (l1 : Int32) (l2 : Int32) (l3 : Int32) (l4 : Int32) (l5 : Int32) : mM Int32 := bIf (((l1 >>> (l4 &&& 31)) &&& (1 : Int32)) = (1 : Int32)) (bCall (fJ6_bitCount_0f7a4 l5) (fun x1 => bIf (x1 = (1 : Int32)) (r15 l0 l1 l2 (l3 ||| l5) (l4 + 1)) (r15 l0 l1 l2 l3 (l4 + 1)))) (r15 l0 l1 l2 l3 (l4 + 1))
set_option maxRecDepth 20000 in
theorem rX7_neededRopes_64 (v : mE) (d : Nat) (r15 : Nat → Int32 → Int32 → Int32 → Int32 → mM Int32) (h15 : ∀ (y0 : Nat) (y1 : Int32) (y2 : Int32) (y3 : Int32) (y4 : Int32), Rz v RX7 cX7_neededRopes 7 (some .int) false emI (d + 4) 15 [(0, vR y0), (1, vI y1), (2, vI y2), (3, vI y3), (4, vI y4)] [] (r15 y0 y1 y2 y3 y4)) (l0 : Nat) (l1 : Int32) (l2 : Int32) (l3 : Int32) (l4 : Int32) (l5 : Int32) : Rz v RX7 cX7_neededRopes 7 (some .int) false emI (d + 4) 64 [(0, vR l0), (1, vI l1), (2, vI l2), (3, vI l3), (4, vI l4), (5, vI l5)] [] (fX7_neededRopes_64 r15 l0 l1 l2 l3 l4 l5) := by
  unfold fX7_neededRopes_64
  refine rz_iload_n 65 1 dX7_neededRopes_64 rfl rfl ?_
  refine rz_iload 67 4 dX7_neededRopes_65 rfl rfl ?_
  refine rz_ishr 68 dX7_neededRopes_67 rfl ?_
  refine rz_iconst 69 dX7_neededRopes_68 rfl ci_1 ?_
  refine rz_iand 70 dX7_neededRopes_69 rfl ?_
  refine rz_iconst 71 dX7_neededRopes_70 rfl ci_1 ?_
  refine rz_icmp_ne 88 74 dX7_neededRopes_71 rfl rfl ?_ ?_
  · refine rz_iinc (lv' := [(4, vI (l4 + 1)), (0, vR l0), (1, vI l1), (2, vI l2), (3, vI l3), (5, vI l5)]) 91 4 dX7_neededRopes_88 rfl rfl (cn_1 _) rfl rfl ?_
    refine rz_goto 15 dX7_neededRopes_91 rfl ?_
    exact rz_sub [1, 2, 3, 4, 0] rfl (h15 l0 l1 l2 l3 (l4 + 1))
  · refine rz_iload 76 5 dX7_neededRopes_74 rfl rfl ?_
    refine rz_callS 79 dX7_neededRopes_76 rfl (tJ6_bitCount_0f7a4 v (d + 3) l5) rfl rfl ml_X7_131 sm_J6_bitCount_0f7a4 in_J6 co_J6_bitCount_0f7a4 rfl rfl (fun x1 => ?_)
    refine rz_iconst 80 dX7_neededRopes_79 rfl ci_1 ?_
    refine rz_icmp_ne 88 83 dX7_neededRopes_80 rfl rfl ?_ ?_
    · refine rz_iinc (lv' := [(4, vI (l4 + 1)), (0, vR l0), (1, vI l1), (2, vI l2), (3, vI l3), (5, vI l5)]) 91 4 dX7_neededRopes_88 rfl rfl (cn_1 _) rfl rfl ?_
      refine rz_goto 15 dX7_neededRopes_91 rfl ?_
      exact rz_sub [1, 2, 3, 4, 0] rfl (h15 l0 l1 l2 l3 (l4 + 1))
    · refine rz_iload_n 84 3 dX7_neededRopes_83 rfl rfl ?_
      refine rz_iload 86 5 dX7_neededRopes_84 rfl rfl ?_
      refine rz_ior 87 dX7_neededRopes_86 rfl ?_
      refine rz_istore_n (lv' := [(3, vI (l3 ||| l5)), (0, vR l0), (1, vI l1), (2, vI l2), (4, vI l4), (5, vI l5)]) 88 dX7_neededRopes_87 rfl rfl rfl ?_
      refine rz_iinc (lv' := [(4, vI (l4 + 1)), (3, vI (l3 ||| l5)), (0, vR l0), (1, vI l1), (2, vI l2), (5, vI l5)]) 91 4 dX7_neededRopes_88 rfl rfl (cn_1 _) rfl rfl ?_
      refine rz_goto 15 dX7_neededRopes_91 rfl ?_
      exact rz_sub [2, 3, 4, 1, 0] rfl (h15 l0 l1 l2 (l3 ||| l5) (l4 + 1))
def fX7_neededRopes_30 (r15 : Nat → Int32 → Int32 → Int32 → Int32 → mM Int32) : Nat → Nat → Int32 → Int32 → Int32 → Int32 → Int32 → Int32 → mM Int32
  | 0 => fun _ _ _ _ _ _ _ => fun _ => none
  | n + 1 => fun l0 l1 l2 l3 l4 l5 l6 => let r30 := fX7_neededRopes_30 r15 n; bIf ((12 : Int32) ≤ l6) (fX7_neededRopes_64 r15 l0 l1 l2 l3 l4 l5) (bCallV 7 l0 (fX7_servesFrom l0 l6 l4 l2) (fun x1 => bIf (x1 = 0) (r30 l0 l1 l2 l3 l4 l5 (l6 + 1)) (r30 l0 l1 l2 l3 l4 (l5 ||| ((1 : Int32) <<< (l6 &&& 31))) (l6 + 1))))
theorem qX7_neededRopes_30 (r15 : Nat → Int32 → Int32 → Int32 → Int32 → mM Int32) (n : Nat) (l0 : Nat) (l1 : Int32) (l2 : Int32) (l3 : Int32) (l4 : Int32) (l5 : Int32) (l6 : Int32) : fX7_neededRopes_30 r15 (n + 1) l0 l1 l2 l3 l4 l5 l6 = bIf ((12 : Int32) ≤ l6) (fX7_neededRopes_64 r15 l0 l1 l2 l3 l4 l5) (bCallV 7 l0 (fX7_servesFrom l0 l6 l4 l2) (fun x1 => bIf (x1 = 0) ((fX7_neededRopes_30 r15 n) l0 l1 l2 l3 l4 l5 (l6 + 1)) ((fX7_neededRopes_30 r15 n) l0 l1 l2 l3 l4 (l5 ||| ((1 : Int32) <<< (l6 &&& 31))) (l6 + 1)))) := rfl
set_option maxRecDepth 20000 in
theorem rX7_neededRopes_30 (v : mE) (d : Nat) (r15 : Nat → Int32 → Int32 → Int32 → Int32 → mM Int32) (h15 : ∀ (y0 : Nat) (y1 : Int32) (y2 : Int32) (y3 : Int32) (y4 : Int32), Rz v RX7 cX7_neededRopes 7 (some .int) false emI (d + 4) 15 [(0, vR y0), (1, vI y1), (2, vI y2), (3, vI y3), (4, vI y4)] [] (r15 y0 y1 y2 y3 y4)) : ∀ (n : Nat) (l0 : Nat) (l1 : Int32) (l2 : Int32) (l3 : Int32) (l4 : Int32) (l5 : Int32) (l6 : Int32), Rz v RX7 cX7_neededRopes 7 (some .int) false emI (d + 4) 30 [(0, vR l0), (1, vI l1), (2, vI l2), (3, vI l3), (4, vI l4), (5, vI l5), (6, vI l6)] [] (fX7_neededRopes_30 r15 n l0 l1 l2 l3 l4 l5 l6)
  | 0, _, _, _, _, _, _, _ => fun _ _ _ hm => by cases hm
  | n + 1, l0, l1, l2, l3, l4, l5, l6 => by
    have h30 := rX7_neededRopes_30 v d r15 h15 n
    unfold fX7_neededRopes_30
    generalize fX7_neededRopes_30 r15 n = r30 at h30 ⊢
    refine rz_iload 32 6 dX7_neededRopes_30 rfl rfl ?_
    refine rz_bipush 34 dX7_neededRopes_32 rfl cb_12 ?_
    refine rz_icmp_ge 64 37 dX7_neededRopes_34 rfl rfl ?_ ?_
    · exact rz_sub [0, 1, 2, 3, 4, 5] rfl (rX7_neededRopes_64 v d r15 h15 l0 l1 l2 l3 l4 l5)
    · refine rz_aload_n 38 0 dX7_neededRopes_37 rfl rfl ?_
      refine rz_iload 40 6 dX7_neededRopes_38 rfl rfl ?_
      refine rz_iload 42 4 dX7_neededRopes_40 rfl rfl ?_
      refine rz_iload_n 43 2 dX7_neededRopes_42 rfl rfl ?_
      refine rz_callV 46 dX7_neededRopes_43 rfl (tX7_servesFrom v (d + 1) l0 l6 l4 l2) rfl rfl rfl rfl ml_X7_121 im_X7_servesFrom se_X7_X7_servesFrom in_X7 co_X7_servesFrom rfl rfl (fun x1 => ?_)
      refine rz_if_eq 58 49 dX7_neededRopes_46 rfl rfl ?_ ?_
      · refine rz_iinc (lv' := [(6, vI (l6 + 1)), (0, vR l0), (1, vI l1), (2, vI l2), (3, vI l3), (4, vI l4), (5, vI l5)]) 61 6 dX7_neededRopes_58 rfl rfl (cn_1 _) rfl rfl ?_
        refine rz_goto 30 dX7_neededRopes_61 rfl ?_
        exact rz_sub [1, 2, 3, 4, 5, 6, 0] rfl (h30 l0 l1 l2 l3 l4 l5 (l6 + 1))
      · refine rz_iload 51 5 dX7_neededRopes_49 rfl rfl ?_
        refine rz_iconst 52 dX7_neededRopes_51 rfl ci_1 ?_
        refine rz_iload 54 6 dX7_neededRopes_52 rfl rfl ?_
        refine rz_ishl 55 dX7_neededRopes_54 rfl ?_
        refine rz_ior 56 dX7_neededRopes_55 rfl ?_
        refine rz_istore (lv' := [(5, vI (l5 ||| ((1 : Int32) <<< (l6 &&& 31)))), (0, vR l0), (1, vI l1), (2, vI l2), (3, vI l3), (4, vI l4), (6, vI l6)]) 58 dX7_neededRopes_56 rfl rfl rfl ?_
        refine rz_iinc (lv' := [(6, vI (l6 + 1)), (5, vI (l5 ||| ((1 : Int32) <<< (l6 &&& 31)))), (0, vR l0), (1, vI l1), (2, vI l2), (3, vI l3), (4, vI l4)]) 61 6 dX7_neededRopes_58 rfl rfl (cn_1 _) rfl rfl ?_
        refine rz_goto 30 dX7_neededRopes_61 rfl ?_
        exact rz_sub [2, 3, 4, 5, 6, 1, 0] rfl (h30 l0 l1 l2 l3 l4 (l5 ||| ((1 : Int32) <<< (l6 &&& 31))) (l6 + 1))
def fX7_neededRopes_15 : Nat → Nat → Int32 → Int32 → Int32 → Int32 → mM Int32
  | 0 => fun _ _ _ _ _ => fun _ => none
  | n + 1 => fun l0 l1 l2 l3 l4 => let r15 := fX7_neededRopes_15 n; bGI 7 l0 7 (fun x1 => bIf (x1 ≤ l4) (bRet l3) (fX7_neededRopes_30 r15 fu l0 l1 l2 l3 l4 (0 : Int32) (0 : Int32)))
theorem qX7_neededRopes_15  (n : Nat) (l0 : Nat) (l1 : Int32) (l2 : Int32) (l3 : Int32) (l4 : Int32) : fX7_neededRopes_15 (n + 1) l0 l1 l2 l3 l4 = bGI 7 l0 7 (fun x1 => bIf (x1 ≤ l4) (bRet l3) (fX7_neededRopes_30 (fX7_neededRopes_15 n) fu l0 l1 l2 l3 l4 (0 : Int32) (0 : Int32))) := rfl
set_option maxRecDepth 20000 in
theorem rX7_neededRopes_15 (v : mE) (d : Nat) : ∀ (n : Nat) (l0 : Nat) (l1 : Int32) (l2 : Int32) (l3 : Int32) (l4 : Int32), Rz v RX7 cX7_neededRopes 7 (some .int) false emI (d + 4) 15 [(0, vR l0), (1, vI l1), (2, vI l2), (3, vI l3), (4, vI l4)] [] (fX7_neededRopes_15 n l0 l1 l2 l3 l4)
  | 0, _, _, _, _, _ => fun _ _ _ hm => by cases hm
  | n + 1, l0, l1, l2, l3, l4 => by
    have h15 := rX7_neededRopes_15 v d n
    unfold fX7_neededRopes_15
    generalize fX7_neededRopes_15 n = r15 at h15 ⊢
    refine rz_iload 17 4 dX7_neededRopes_15 rfl rfl ?_
    refine rz_aload_n 18 0 dX7_neededRopes_17 rfl rfl ?_
    refine rz_gI 21 dX7_neededRopes_18 rfl rfl fl_X7_33 (fun x1 => ?_)
    refine rz_icmp_ge 94 24 dX7_neededRopes_21 rfl rfl ?_ ?_
    · refine rz_iload_n 95 3 dX7_neededRopes_94 rfl rfl ?_
      exact rz_ireturn rfl rfl dX7_neededRopes_95
    · refine rz_iconst 25 dX7_neededRopes_24 rfl ci_0 ?_
      refine rz_istore (lv' := [(5, vI (0 : Int32)), (0, vR l0), (1, vI l1), (2, vI l2), (3, vI l3), (4, vI l4)]) 27 dX7_neededRopes_25 rfl rfl rfl ?_
      refine rz_iconst 28 dX7_neededRopes_27 rfl ci_0 ?_
      refine rz_istore (lv' := [(6, vI (0 : Int32)), (5, vI (0 : Int32)), (0, vR l0), (1, vI l1), (2, vI l2), (3, vI l3), (4, vI l4)]) 30 dX7_neededRopes_28 rfl rfl rfl ?_
      exact rz_sub [2, 3, 4, 5, 6, 1, 0] rfl (rX7_neededRopes_30 v d r15 h15 fu l0 l1 l2 l3 l4 (0 : Int32) (0 : Int32))
def fX7_neededRopes (l0 : Nat) : mM Int32 := bCallV 7 l0 (fX7_drinkers l0) (fun x1 => bCallV 7 l0 (fX7_depthNow l0) (fun x2 => fX7_neededRopes_15 fu l0 x1 x2 (0 : Int32) (0 : Int32)))
set_option maxRecDepth 20000 in
theorem rX7_neededRopes (v : mE) (d : Nat) (l0 : Nat) : Rz v RX7 cX7_neededRopes 7 (some .int) false emI (d + 4) 0 [(0, vR l0)] [] (fX7_neededRopes l0) := by
  unfold fX7_neededRopes
  refine rz_aload_n 1 0 dX7_neededRopes_0 rfl rfl ?_
  refine rz_callV 4 dX7_neededRopes_1 rfl (tX7_drinkers v (d + 0) l0) rfl rfl rfl rfl ml_X7_125 im_X7_drinkers se_X7_X7_drinkers in_X7 co_X7_drinkers rfl rfl (fun x1 => ?_)
  refine rz_istore_n (lv' := [(1, vI x1), (0, vR l0)]) 5 dX7_neededRopes_4 rfl rfl rfl ?_
  refine rz_aload_n 6 1 dX7_neededRopes_5 rfl rfl ?_
  refine rz_callV 9 dX7_neededRopes_6 rfl (tX7_depthNow v (d + 2) l0) rfl rfl rfl rfl ml_X7_118 im_X7_depthNow se_X7_X7_depthNow in_X7 co_X7_depthNow rfl rfl (fun x2 => ?_)
  refine rz_istore_n (lv' := [(2, vI x2), (1, vI x1), (0, vR l0)]) 10 dX7_neededRopes_9 rfl rfl rfl ?_
  refine rz_iconst 11 dX7_neededRopes_10 rfl ci_0 ?_
  refine rz_istore_n (lv' := [(3, vI (0 : Int32)), (2, vI x2), (1, vI x1), (0, vR l0)]) 12 dX7_neededRopes_11 rfl rfl rfl ?_
  refine rz_iconst 13 dX7_neededRopes_12 rfl ci_0 ?_
  refine rz_istore (lv' := [(4, vI (0 : Int32)), (3, vI (0 : Int32)), (2, vI x2), (1, vI x1), (0, vR l0)]) 15 dX7_neededRopes_13 rfl rfl rfl ?_
  exact rz_sub [4, 3, 2, 1, 0] rfl (rX7_neededRopes_15 v d fu l0 x1 x2 (0 : Int32) (0 : Int32))
theorem tX7_neededRopes (v : mE) (d : Nat) (l0 : Nat) : Mt v yX7_neededRopes cX7_neededRopes 7 (some .int) emI (d + 4) [vR l0] (fX7_neededRopes l0) := mt_of rfl rfl (fun h => by cases h) rfl rfl (rX7_neededRopes v d l0)
theorem dX7_minutesOf_0 : decode cX7_minutesOf 0 = .ok (.aload_n 0, 1) := by decide +kernel
theorem dX7_minutesOf_1 : decode cX7_minutesOf 1 = .ok (.iload_n 1, 1) := by decide +kernel
theorem dX7_minutesOf_2 : decode cX7_minutesOf 2 = .ok (.invokevirtual 137, 3) := by decide +kernel
theorem dX7_minutesOf_5 : decode cX7_minutesOf 5 = .ok (.ifCond .ne 5, 3) := by decide +kernel
theorem dX7_minutesOf_8 : decode cX7_minutesOf 8 = .ok (.iconst (-1), 1) := by decide +kernel
theorem dX7_minutesOf_9 : decode cX7_minutesOf 9 = .ok (.ireturn, 1) := by decide +kernel
theorem dX7_minutesOf_10 : decode cX7_minutesOf 10 = .ok (.aload_n 0, 1) := by decide +kernel
theorem dX7_minutesOf_11 : decode cX7_minutesOf 11 = .ok (.invokevirtual 118, 3) := by decide +kernel
theorem dX7_minutesOf_14 : decode cX7_minutesOf 14 = .ok (.istore_n 2, 1) := by decide +kernel
theorem dX7_minutesOf_15 : decode cX7_minutesOf 15 = .ok (.bipush 8, 2) := by decide +kernel
theorem dX7_minutesOf_17 : decode cX7_minutesOf 17 = .ok (.istore_n 3, 1) := by decide +kernel
theorem dX7_minutesOf_18 : decode cX7_minutesOf 18 = .ok (.iconst 0, 1) := by decide +kernel
theorem dX7_minutesOf_19 : decode cX7_minutesOf 19 = .ok (.istore 4, 2) := by decide +kernel
theorem dX7_minutesOf_21 : decode cX7_minutesOf 21 = .ok (.iload 4, 2) := by decide +kernel
theorem dX7_minutesOf_23 : decode cX7_minutesOf 23 = .ok (.bipush 12, 2) := by decide +kernel
theorem dX7_minutesOf_25 : decode cX7_minutesOf 25 = .ok (.if_icmp .ge 35, 3) := by decide +kernel
theorem dX7_minutesOf_28 : decode cX7_minutesOf 28 = .ok (.aload_n 0, 1) := by decide +kernel
theorem dX7_minutesOf_29 : decode cX7_minutesOf 29 = .ok (.iload 4, 2) := by decide +kernel
theorem dX7_minutesOf_31 : decode cX7_minutesOf 31 = .ok (.iload_n 1, 1) := by decide +kernel
theorem dX7_minutesOf_32 : decode cX7_minutesOf 32 = .ok (.iload_n 2, 1) := by decide +kernel
theorem dX7_minutesOf_33 : decode cX7_minutesOf 33 = .ok (.invokevirtual 121, 3) := by decide +kernel
theorem dX7_minutesOf_36 : decode cX7_minutesOf 36 = .ok (.ifCond .eq 18, 3) := by decide +kernel
theorem dX7_minutesOf_39 : decode cX7_minutesOf 39 = .ok (.iload_n 3, 1) := by decide +kernel
theorem dX7_minutesOf_40 : decode cX7_minutesOf 40 = .ok (.aload_n 0, 1) := by decide +kernel
theorem dX7_minutesOf_41 : decode cX7_minutesOf 41 = .ok (.getfield 45, 3) := by decide +kernel
theorem dX7_minutesOf_44 : decode cX7_minutesOf 44 = .ok (.iload 4, 2) := by decide +kernel
theorem dX7_minutesOf_46 : decode cX7_minutesOf 46 = .ok (.aaload, 1) := by decide +kernel
theorem dX7_minutesOf_47 : decode cX7_minutesOf 47 = .ok (.invokevirtual 140, 3) := by decide +kernel
theorem dX7_minutesOf_50 : decode cX7_minutesOf 50 = .ok (.invokestatic 143, 3) := by decide +kernel
theorem dX7_minutesOf_53 : decode cX7_minutesOf 53 = .ok (.istore_n 3, 1) := by decide +kernel
theorem dX7_minutesOf_54 : decode cX7_minutesOf 54 = .ok (.iinc 4 1, 3) := by decide +kernel
theorem dX7_minutesOf_57 : decode cX7_minutesOf 57 = .ok (.goto (-36), 3) := by decide +kernel
theorem dX7_minutesOf_60 : decode cX7_minutesOf 60 = .ok (.iconst 2, 1) := by decide +kernel
theorem dX7_minutesOf_61 : decode cX7_minutesOf 61 = .ok (.iload_n 2, 1) := by decide +kernel
theorem dX7_minutesOf_62 : decode cX7_minutesOf 62 = .ok (.imul, 1) := by decide +kernel
theorem dX7_minutesOf_63 : decode cX7_minutesOf 63 = .ok (.iconst 1, 1) := by decide +kernel
theorem dX7_minutesOf_64 : decode cX7_minutesOf 64 = .ok (.iadd, 1) := by decide +kernel
theorem dX7_minutesOf_65 : decode cX7_minutesOf 65 = .ok (.iconst 3, 1) := by decide +kernel
theorem dX7_minutesOf_66 : decode cX7_minutesOf 66 = .ok (.iload_n 3, 1) := by decide +kernel
theorem dX7_minutesOf_67 : decode cX7_minutesOf 67 = .ok (.imul, 1) := by decide +kernel
theorem dX7_minutesOf_68 : decode cX7_minutesOf 68 = .ok (.iadd, 1) := by decide +kernel
theorem dX7_minutesOf_69 : decode cX7_minutesOf 69 = .ok (.ireturn, 1) := by decide +kernel
def fX7_minutesOf_60 (l2 : Int32) (l3 : Int32) : mM Int32 := bRet ((((2 : Int32) * l2) + (1 : Int32)) + ((3 : Int32) * l3))
set_option maxRecDepth 20000 in
theorem rX7_minutesOf_60 (v : mE) (d : Nat) (l2 : Int32) (l3 : Int32) : Rz v RX7 cX7_minutesOf 5 (some .int) false emI (d + 5) 60 [(2, vI l2), (3, vI l3)] [] (fX7_minutesOf_60 l2 l3) := by
  unfold fX7_minutesOf_60
  refine rz_iconst 61 dX7_minutesOf_60 rfl ci_2 ?_
  refine rz_iload_n 62 0 dX7_minutesOf_61 rfl rfl ?_
  refine rz_imul 63 dX7_minutesOf_62 rfl ?_
  refine rz_iconst 64 dX7_minutesOf_63 rfl ci_1 ?_
  refine rz_iadd 65 dX7_minutesOf_64 rfl ?_
  refine rz_iconst 66 dX7_minutesOf_65 rfl ci_3 ?_
  refine rz_iload_n 67 1 dX7_minutesOf_66 rfl rfl ?_
  refine rz_imul 68 dX7_minutesOf_67 rfl ?_
  refine rz_iadd 69 dX7_minutesOf_68 rfl ?_
  exact rz_ireturn rfl rfl dX7_minutesOf_69
def fX7_minutesOf_21 : Nat → Nat → Int32 → Int32 → Int32 → Int32 → mM Int32
  | 0 => fun _ _ _ _ _ => fun _ => none
  | n + 1 => fun l0 l1 l2 l3 l4 => let r21 := fX7_minutesOf_21 n; bIf ((12 : Int32) ≤ l4) (fX7_minutesOf_60 l2 l3) (bCallV 7 l0 (fX7_servesFrom l0 l4 l1 l2) (fun x1 => bIf (x1 = 0) (r21 l0 l1 l2 l3 (l4 + 1)) (bGR 7 l0 10 (fun x2 => bAR 14 x2 l4 (fun x3 => bCallV 3 x3 (fX3_knots x3) (fun x4 => r21 l0 l1 l2 (jMin l3 x4) (l4 + 1)))))))
theorem qX7_minutesOf_21  (n : Nat) (l0 : Nat) (l1 : Int32) (l2 : Int32) (l3 : Int32) (l4 : Int32) : fX7_minutesOf_21 (n + 1) l0 l1 l2 l3 l4 = bIf ((12 : Int32) ≤ l4) (fX7_minutesOf_60 l2 l3) (bCallV 7 l0 (fX7_servesFrom l0 l4 l1 l2) (fun x1 => bIf (x1 = 0) ((fX7_minutesOf_21 n) l0 l1 l2 l3 (l4 + 1)) (bGR 7 l0 10 (fun x2 => bAR 14 x2 l4 (fun x3 => bCallV 3 x3 (fX3_knots x3) (fun x4 => (fX7_minutesOf_21 n) l0 l1 l2 (jMin l3 x4) (l4 + 1))))))) := rfl
set_option maxRecDepth 20000 in
theorem rX7_minutesOf_21 (v : mE) (d : Nat) : ∀ (n : Nat) (l0 : Nat) (l1 : Int32) (l2 : Int32) (l3 : Int32) (l4 : Int32), Rz v RX7 cX7_minutesOf 5 (some .int) false emI (d + 5) 21 [(0, vR l0), (1, vI l1), (2, vI l2), (3, vI l3), (4, vI l4)] [] (fX7_minutesOf_21 n l0 l1 l2 l3 l4)
  | 0, _, _, _, _, _ => fun _ _ _ hm => by cases hm
  | n + 1, l0, l1, l2, l3, l4 => by
    have h21 := rX7_minutesOf_21 v d n
    unfold fX7_minutesOf_21
    generalize fX7_minutesOf_21 n = r21 at h21 ⊢
    refine rz_iload 23 4 dX7_minutesOf_21 rfl rfl ?_
    refine rz_bipush 25 dX7_minutesOf_23 rfl cb_12 ?_
    refine rz_icmp_ge 60 28 dX7_minutesOf_25 rfl rfl ?_ ?_
    · exact rz_sub [2, 3] rfl (rX7_minutesOf_60 v d l2 l3)
    · refine rz_aload_n 29 0 dX7_minutesOf_28 rfl rfl ?_
      refine rz_iload 31 4 dX7_minutesOf_29 rfl rfl ?_
      refine rz_iload_n 32 1 dX7_minutesOf_31 rfl rfl ?_
      refine rz_iload_n 33 2 dX7_minutesOf_32 rfl rfl ?_
      refine rz_callV 36 dX7_minutesOf_33 rfl (tX7_servesFrom v (d + 2) l0 l4 l1 l2) rfl rfl rfl rfl ml_X7_121 im_X7_servesFrom se_X7_X7_servesFrom in_X7 co_X7_servesFrom rfl rfl (fun x1 => ?_)
      refine rz_if_eq 54 39 dX7_minutesOf_36 rfl rfl ?_ ?_
      · refine rz_iinc (lv' := [(4, vI (l4 + 1)), (0, vR l0), (1, vI l1), (2, vI l2), (3, vI l3)]) 57 4 dX7_minutesOf_54 rfl rfl (cn_1 _) rfl rfl ?_
        refine rz_goto 21 dX7_minutesOf_57 rfl ?_
        exact rz_sub [1, 2, 3, 4, 0] rfl (h21 l0 l1 l2 l3 (l4 + 1))
      · refine rz_iload_n 40 3 dX7_minutesOf_39 rfl rfl ?_
        refine rz_aload_n 41 0 dX7_minutesOf_40 rfl rfl ?_
        refine rz_gR 44 dX7_minutesOf_41 rfl rfl fl_X7_45 (fun x2 => ?_)
        refine rz_iload 46 4 dX7_minutesOf_44 rfl rfl ?_
        refine rz_aald 47 dX7_minutesOf_46 rfl (by decide) (fun x3 => ?_)
        refine rz_callV 50 dX7_minutesOf_47 rfl (tX3_knots v (d + 4) x3) rfl rfl rfl rfl ml_X7_140 im_X3_knots se_X3_X3_knots in_X3 co_X3_knots rfl rfl (fun x4 => ?_)
        refine rz_mmin 53 dX7_minutesOf_50 rfl ml_X7_143 rfl rfl ?_
        refine rz_istore_n (lv' := [(3, vI (jMin l3 x4)), (0, vR l0), (1, vI l1), (2, vI l2), (4, vI l4)]) 54 dX7_minutesOf_53 rfl rfl rfl ?_
        refine rz_iinc (lv' := [(4, vI (l4 + 1)), (3, vI (jMin l3 x4)), (0, vR l0), (1, vI l1), (2, vI l2)]) 57 4 dX7_minutesOf_54 rfl rfl (cn_1 _) rfl rfl ?_
        refine rz_goto 21 dX7_minutesOf_57 rfl ?_
        exact rz_sub [2, 3, 4, 1, 0] rfl (h21 l0 l1 l2 (jMin l3 x4) (l4 + 1))
def fX7_minutesOf (l0 : Nat) (l1 : Int32) : mM Int32 := bCallV 7 l0 (fX7_isDrinking l0 l1) (fun x1 => bIf (x1 = 0) (bRet (-1 : Int32)) (bCallV 7 l0 (fX7_depthNow l0) (fun x2 => fX7_minutesOf_21 fu l0 l1 x2 (8 : Int32) (0 : Int32))))
set_option maxRecDepth 20000 in
theorem rX7_minutesOf (v : mE) (d : Nat) (l0 : Nat) (l1 : Int32) : Rz v RX7 cX7_minutesOf 5 (some .int) false emI (d + 5) 0 [(0, vR l0), (1, vI l1)] [] (fX7_minutesOf l0 l1) := by
  unfold fX7_minutesOf
  refine rz_aload_n 1 0 dX7_minutesOf_0 rfl rfl ?_
  refine rz_iload_n 2 1 dX7_minutesOf_1 rfl rfl ?_
  refine rz_callV 5 dX7_minutesOf_2 rfl (tX7_isDrinking v (d + 0) l0 l1) rfl rfl rfl rfl ml_X7_137 im_X7_isDrinking se_X7_X7_isDrinking in_X7 co_X7_isDrinking rfl rfl (fun x1 => ?_)
  refine rz_if_ne 10 8 dX7_minutesOf_5 rfl rfl ?_ ?_
  · refine rz_aload_n 11 0 dX7_minutesOf_10 rfl rfl ?_
    refine rz_callV 14 dX7_minutesOf_11 rfl (tX7_depthNow v (d + 3) l0) rfl rfl rfl rfl ml_X7_118 im_X7_depthNow se_X7_X7_depthNow in_X7 co_X7_depthNow rfl rfl (fun x2 => ?_)
    refine rz_istore_n (lv' := [(2, vI x2), (0, vR l0), (1, vI l1)]) 15 dX7_minutesOf_14 rfl rfl rfl ?_
    refine rz_bipush 17 dX7_minutesOf_15 rfl cb_8 ?_
    refine rz_istore_n (lv' := [(3, vI (8 : Int32)), (2, vI x2), (0, vR l0), (1, vI l1)]) 18 dX7_minutesOf_17 rfl rfl rfl ?_
    refine rz_iconst 19 dX7_minutesOf_18 rfl ci_0 ?_
    refine rz_istore (lv' := [(4, vI (0 : Int32)), (3, vI (8 : Int32)), (2, vI x2), (0, vR l0), (1, vI l1)]) 21 dX7_minutesOf_19 rfl rfl rfl ?_
    exact rz_sub [3, 4, 2, 1, 0] rfl (rX7_minutesOf_21 v d fu l0 l1 x2 (8 : Int32) (0 : Int32))
  · refine rz_iconst 9 dX7_minutesOf_8 rfl ci_m1 ?_
    exact rz_ireturn rfl rfl dX7_minutesOf_9
theorem tX7_minutesOf (v : mE) (d : Nat) (l0 : Nat) (l1 : Int32) : Mt v yX7_minutesOf cX7_minutesOf 5 (some .int) emI (d + 5) [vR l0, vI l1] (fX7_minutesOf l0 l1) := mt_of rfl rfl (fun h => by cases h) rfl rfl (rX7_minutesOf v d l0 l1)
theorem dX7_findFacts_0 : decode cX7_findFacts 0 = .ok (.aload_n 0, 1) := by decide +kernel
theorem dX7_findFacts_1 : decode cX7_findFacts 1 = .ok (.getfield 61, 3) := by decide +kernel
theorem dX7_findFacts_4 : decode cX7_findFacts 4 = .ok (.iconst 0, 1) := by decide +kernel
theorem dX7_findFacts_5 : decode cX7_findFacts 5 = .ok (.aload_n 1, 1) := by decide +kernel
theorem dX7_findFacts_6 : decode cX7_findFacts 6 = .ok (.getfield 187, 3) := by decide +kernel
theorem dX7_findFacts_9 : decode cX7_findFacts 9 = .ok (.ifCond .eq 7, 3) := by decide +kernel
theorem dX7_findFacts_12 : decode cX7_findFacts 12 = .ok (.iconst 1, 1) := by decide +kernel
theorem dX7_findFacts_13 : decode cX7_findFacts 13 = .ok (.goto 4, 3) := by decide +kernel
theorem dX7_findFacts_16 : decode cX7_findFacts 16 = .ok (.iconst 0, 1) := by decide +kernel
theorem dX7_findFacts_17 : decode cX7_findFacts 17 = .ok (.iastore, 1) := by decide +kernel
theorem dX7_findFacts_18 : decode cX7_findFacts 18 = .ok (.aload_n 0, 1) := by decide +kernel
theorem dX7_findFacts_19 : decode cX7_findFacts 19 = .ok (.getfield 61, 3) := by decide +kernel
theorem dX7_findFacts_22 : decode cX7_findFacts 22 = .ok (.iconst 1, 1) := by decide +kernel
theorem dX7_findFacts_23 : decode cX7_findFacts 23 = .ok (.aload_n 1, 1) := by decide +kernel
theorem dX7_findFacts_24 : decode cX7_findFacts 24 = .ok (.invokevirtual 115, 3) := by decide +kernel
theorem dX7_findFacts_27 : decode cX7_findFacts 27 = .ok (.aload_n 0, 1) := by decide +kernel
theorem dX7_findFacts_28 : decode cX7_findFacts 28 = .ok (.invokevirtual 118, 3) := by decide +kernel
theorem dX7_findFacts_31 : decode cX7_findFacts 31 = .ok (.if_icmp .lt 7, 3) := by decide +kernel
theorem dX7_findFacts_34 : decode cX7_findFacts 34 = .ok (.iconst 1, 1) := by decide +kernel
theorem dX7_findFacts_35 : decode cX7_findFacts 35 = .ok (.goto 4, 3) := by decide +kernel
theorem dX7_findFacts_38 : decode cX7_findFacts 38 = .ok (.iconst 0, 1) := by decide +kernel
theorem dX7_findFacts_39 : decode cX7_findFacts 39 = .ok (.iastore, 1) := by decide +kernel
theorem dX7_findFacts_40 : decode cX7_findFacts 40 = .ok (.aload_n 0, 1) := by decide +kernel
theorem dX7_findFacts_41 : decode cX7_findFacts 41 = .ok (.getfield 61, 3) := by decide +kernel
theorem dX7_findFacts_44 : decode cX7_findFacts 44 = .ok (.iconst 2, 1) := by decide +kernel
theorem dX7_findFacts_45 : decode cX7_findFacts 45 = .ok (.aload_n 1, 1) := by decide +kernel
theorem dX7_findFacts_46 : decode cX7_findFacts 46 = .ok (.getfield 93, 3) := by decide +kernel
theorem dX7_findFacts_49 : decode cX7_findFacts 49 = .ok (.iastore, 1) := by decide +kernel
theorem dX7_findFacts_50 : decode cX7_findFacts 50 = .ok (.aload_n 0, 1) := by decide +kernel
theorem dX7_findFacts_51 : decode cX7_findFacts 51 = .ok (.getfield 61, 3) := by decide +kernel
theorem dX7_findFacts_54 : decode cX7_findFacts 54 = .ok (.iconst 3, 1) := by decide +kernel
theorem dX7_findFacts_55 : decode cX7_findFacts 55 = .ok (.aload_n 1, 1) := by decide +kernel
theorem dX7_findFacts_56 : decode cX7_findFacts 56 = .ok (.invokevirtual 115, 3) := by decide +kernel
theorem dX7_findFacts_59 : decode cX7_findFacts 59 = .ok (.iastore, 1) := by decide +kernel
theorem dX7_findFacts_60 : decode cX7_findFacts 60 = .ok (.aload_n 0, 1) := by decide +kernel
theorem dX7_findFacts_61 : decode cX7_findFacts 61 = .ok (.getfield 61, 3) := by decide +kernel
theorem dX7_findFacts_64 : decode cX7_findFacts 64 = .ok (.iconst 4, 1) := by decide +kernel
theorem dX7_findFacts_65 : decode cX7_findFacts 65 = .ok (.aload_n 1, 1) := by decide +kernel
theorem dX7_findFacts_66 : decode cX7_findFacts 66 = .ok (.invokevirtual 140, 3) := by decide +kernel
theorem dX7_findFacts_69 : decode cX7_findFacts 69 = .ok (.iastore, 1) := by decide +kernel
theorem dX7_findFacts_70 : decode cX7_findFacts 70 = .ok (.aload_n 0, 1) := by decide +kernel
theorem dX7_findFacts_71 : decode cX7_findFacts 71 = .ok (.getfield 61, 3) := by decide +kernel
theorem dX7_findFacts_74 : decode cX7_findFacts 74 = .ok (.iconst 5, 1) := by decide +kernel
theorem dX7_findFacts_75 : decode cX7_findFacts 75 = .ok (.aload_n 1, 1) := by decide +kernel
theorem dX7_findFacts_76 : decode cX7_findFacts 76 = .ok (.invokevirtual 191, 3) := by decide +kernel
theorem dX7_findFacts_79 : decode cX7_findFacts 79 = .ok (.aload_n 0, 1) := by decide +kernel
theorem dX7_findFacts_80 : decode cX7_findFacts 80 = .ok (.getfield 9, 3) := by decide +kernel
theorem dX7_findFacts_83 : decode cX7_findFacts 83 = .ok (.iadd, 1) := by decide +kernel
theorem dX7_findFacts_84 : decode cX7_findFacts 84 = .ok (.iastore, 1) := by decide +kernel
theorem dX7_findFacts_85 : decode cX7_findFacts 85 = .ok (.aload_n 0, 1) := by decide +kernel
theorem dX7_findFacts_86 : decode cX7_findFacts 86 = .ok (.getfield 61, 3) := by decide +kernel
theorem dX7_findFacts_89 : decode cX7_findFacts 89 = .ok (.bipush 6, 2) := by decide +kernel
theorem dX7_findFacts_91 : decode cX7_findFacts 91 = .ok (.iload_n 2, 1) := by decide +kernel
theorem dX7_findFacts_92 : decode cX7_findFacts 92 = .ok (.invokestatic 131, 3) := by decide +kernel
theorem dX7_findFacts_95 : decode cX7_findFacts 95 = .ok (.iastore, 1) := by decide +kernel
theorem dX7_findFacts_96 : decode cX7_findFacts 96 = .ok (.aload_n 0, 1) := by decide +kernel
theorem dX7_findFacts_97 : decode cX7_findFacts 97 = .ok (.getfield 61, 3) := by decide +kernel
theorem dX7_findFacts_100 : decode cX7_findFacts 100 = .ok (.bipush 7, 2) := by decide +kernel
theorem dX7_findFacts_102 : decode cX7_findFacts 102 = .ok (.aload_n 0, 1) := by decide +kernel
theorem dX7_findFacts_103 : decode cX7_findFacts 103 = .ok (.getfield 9, 3) := by decide +kernel
theorem dX7_findFacts_106 : decode cX7_findFacts 106 = .ok (.iastore, 1) := by decide +kernel
theorem dX7_findFacts_107 : decode cX7_findFacts 107 = .ok (.return_, 1) := by decide +kernel
def fX7_findFacts_39 (l0 : Nat) (l1 : Nat) (l2 : Int32) (s0 : Int32) (s1 : Int32) (s2 : Nat) : mM Unit := bSI s2 s1 s0 (bGR 7 l0 15 (fun x1 => bGI 3 l1 3 (fun x2 => bSI x1 (2 : Int32) x2 (bGR 7 l0 15 (fun x3 => bCallV 3 l1 (fX3_reach l1) (fun x4 => bSI x3 (3 : Int32) x4 (bGR 7 l0 15 (fun x5 => bCallV 3 l1 (fX3_knots l1) (fun x6 => bSI x5 (4 : Int32) x6 (bGR 7 l0 15 (fun x7 => bCallV 3 l1 (fX3_oldest l1) (fun x8 => bGI 7 l0 0 (fun x9 => bSI x7 (5 : Int32) (x8 + x9) (bGR 7 l0 15 (fun x10 => bCall (fJ6_bitCount_0f7a4 l2) (fun x11 => bSI x10 (6 : Int32) x11 (bGR 7 l0 15 (fun x12 => bGI 7 l0 0 (fun x13 => bSI x12 (7 : Int32) x13 (bRet ()))))))))))))))))))))
set_option maxRecDepth 20000 in
theorem rX7_findFacts_39 (v : mE) (d : Nat) (l0 : Nat) (l1 : Nat) (l2 : Int32) (s0 : Int32) (s1 : Int32) (s2 : Nat) : Rz v RX7 cX7_findFacts 3 none false emU (d + 2) 39 [(0, vR l0), (1, vR l1), (2, vI l2)] [vI s0, vI s1, vR s2] (fX7_findFacts_39 l0 l1 l2 s0 s1 s2) := by
  unfold fX7_findFacts_39
  refine rz_iast 40 dX7_findFacts_39 rfl ?_
  refine rz_aload_n 41 0 dX7_findFacts_40 rfl rfl ?_
  refine rz_gR 44 dX7_findFacts_41 rfl rfl fl_X7_61 (fun x1 => ?_)
  refine rz_iconst 45 dX7_findFacts_44 rfl ci_2 ?_
  refine rz_aload_n 46 1 dX7_findFacts_45 rfl rfl ?_
  refine rz_gI 49 dX7_findFacts_46 rfl rfl fl_X7_93 (fun x2 => ?_)
  refine rz_iast 50 dX7_findFacts_49 rfl ?_
  refine rz_aload_n 51 0 dX7_findFacts_50 rfl rfl ?_
  refine rz_gR 54 dX7_findFacts_51 rfl rfl fl_X7_61 (fun x3 => ?_)
  refine rz_iconst 55 dX7_findFacts_54 rfl ci_3 ?_
  refine rz_aload_n 56 1 dX7_findFacts_55 rfl rfl ?_
  refine rz_callV 59 dX7_findFacts_56 rfl (tX3_reach v (d + 0) l1) rfl rfl rfl rfl ml_X7_115 im_X3_reach se_X3_X3_reach in_X3 co_X3_reach rfl rfl (fun x4 => ?_)
  refine rz_iast 60 dX7_findFacts_59 rfl ?_
  refine rz_aload_n 61 0 dX7_findFacts_60 rfl rfl ?_
  refine rz_gR 64 dX7_findFacts_61 rfl rfl fl_X7_61 (fun x5 => ?_)
  refine rz_iconst 65 dX7_findFacts_64 rfl ci_4 ?_
  refine rz_aload_n 66 1 dX7_findFacts_65 rfl rfl ?_
  refine rz_callV 69 dX7_findFacts_66 rfl (tX3_knots v (d + 1) l1) rfl rfl rfl rfl ml_X7_140 im_X3_knots se_X3_X3_knots in_X3 co_X3_knots rfl rfl (fun x6 => ?_)
  refine rz_iast 70 dX7_findFacts_69 rfl ?_
  refine rz_aload_n 71 0 dX7_findFacts_70 rfl rfl ?_
  refine rz_gR 74 dX7_findFacts_71 rfl rfl fl_X7_61 (fun x7 => ?_)
  refine rz_iconst 75 dX7_findFacts_74 rfl ci_5 ?_
  refine rz_aload_n 76 1 dX7_findFacts_75 rfl rfl ?_
  refine rz_callV 79 dX7_findFacts_76 rfl (tX3_oldest v (d + 0) l1) rfl rfl rfl rfl ml_X7_191 im_X3_oldest se_X3_X3_oldest in_X3 co_X3_oldest rfl rfl (fun x8 => ?_)
  refine rz_aload_n 80 0 dX7_findFacts_79 rfl rfl ?_
  refine rz_gI 83 dX7_findFacts_80 rfl rfl fl_X7_9 (fun x9 => ?_)
  refine rz_iadd 84 dX7_findFacts_83 rfl ?_
  refine rz_iast 85 dX7_findFacts_84 rfl ?_
  refine rz_aload_n 86 0 dX7_findFacts_85 rfl rfl ?_
  refine rz_gR 89 dX7_findFacts_86 rfl rfl fl_X7_61 (fun x10 => ?_)
  refine rz_bipush 91 dX7_findFacts_89 rfl cb_6 ?_
  refine rz_iload_n 92 2 dX7_findFacts_91 rfl rfl ?_
  refine rz_callS 95 dX7_findFacts_92 rfl (tJ6_bitCount_0f7a4 v (d + 1) l2) rfl rfl ml_X7_131 sm_J6_bitCount_0f7a4 in_J6 co_J6_bitCount_0f7a4 rfl rfl (fun x11 => ?_)
  refine rz_iast 96 dX7_findFacts_95 rfl ?_
  refine rz_aload_n 97 0 dX7_findFacts_96 rfl rfl ?_
  refine rz_gR 100 dX7_findFacts_97 rfl rfl fl_X7_61 (fun x12 => ?_)
  refine rz_bipush 102 dX7_findFacts_100 rfl cb_7 ?_
  refine rz_aload_n 103 0 dX7_findFacts_102 rfl rfl ?_
  refine rz_gI 106 dX7_findFacts_103 rfl rfl fl_X7_9 (fun x13 => ?_)
  refine rz_iast 107 dX7_findFacts_106 rfl ?_
  exact rz_return rfl rfl dX7_findFacts_107
def fX7_findFacts_17 (l0 : Nat) (l1 : Nat) (l2 : Int32) (s0 : Int32) (s1 : Int32) (s2 : Nat) : mM Unit := bSI s2 s1 s0 (bGR 7 l0 15 (fun x1 => bCallV 3 l1 (fX3_reach l1) (fun x2 => bCallV 7 l0 (fX7_depthNow l0) (fun x3 => bIf (x2 < x3) (fX7_findFacts_39 l0 l1 l2 (0 : Int32) (1 : Int32) x1) (fX7_findFacts_39 l0 l1 l2 (1 : Int32) (1 : Int32) x1)))))
set_option maxRecDepth 20000 in
theorem rX7_findFacts_17 (v : mE) (d : Nat) (l0 : Nat) (l1 : Nat) (l2 : Int32) (s0 : Int32) (s1 : Int32) (s2 : Nat) : Rz v RX7 cX7_findFacts 3 none false emU (d + 2) 17 [(0, vR l0), (1, vR l1), (2, vI l2)] [vI s0, vI s1, vR s2] (fX7_findFacts_17 l0 l1 l2 s0 s1 s2) := by
  unfold fX7_findFacts_17
  refine rz_iast 18 dX7_findFacts_17 rfl ?_
  refine rz_aload_n 19 0 dX7_findFacts_18 rfl rfl ?_
  refine rz_gR 22 dX7_findFacts_19 rfl rfl fl_X7_61 (fun x1 => ?_)
  refine rz_iconst 23 dX7_findFacts_22 rfl ci_1 ?_
  refine rz_aload_n 24 1 dX7_findFacts_23 rfl rfl ?_
  refine rz_callV 27 dX7_findFacts_24 rfl (tX3_reach v (d + 0) l1) rfl rfl rfl rfl ml_X7_115 im_X3_reach se_X3_X3_reach in_X3 co_X3_reach rfl rfl (fun x2 => ?_)
  refine rz_aload_n 28 0 dX7_findFacts_27 rfl rfl ?_
  refine rz_callV 31 dX7_findFacts_28 rfl (tX7_depthNow v (d + 0) l0) rfl rfl rfl rfl ml_X7_118 im_X7_depthNow se_X7_X7_depthNow in_X7 co_X7_depthNow rfl rfl (fun x3 => ?_)
  refine rz_icmp_lt 38 34 dX7_findFacts_31 rfl rfl ?_ ?_
  · refine rz_iconst 39 dX7_findFacts_38 rfl ci_0 ?_
    exact rz_sub [0, 1, 2] rfl (rX7_findFacts_39 v d l0 l1 l2 (0 : Int32) (1 : Int32) x1)
  · refine rz_iconst 35 dX7_findFacts_34 rfl ci_1 ?_
    refine rz_goto 39 dX7_findFacts_35 rfl ?_
    exact rz_sub [0, 1, 2] rfl (rX7_findFacts_39 v d l0 l1 l2 (1 : Int32) (1 : Int32) x1)
def fX7_findFacts (l0 : Nat) (l1 : Nat) (l2 : Int32) : mM Unit := bGR 7 l0 15 (fun x1 => bGI 3 l1 4 (fun x2 => bIf (x2 = 0) (fX7_findFacts_17 l0 l1 l2 (0 : Int32) (0 : Int32) x1) (fX7_findFacts_17 l0 l1 l2 (1 : Int32) (0 : Int32) x1)))
set_option maxRecDepth 20000 in
theorem rX7_findFacts (v : mE) (d : Nat) (l0 : Nat) (l1 : Nat) (l2 : Int32) : Rz v RX7 cX7_findFacts 3 none false emU (d + 2) 0 [(0, vR l0), (1, vR l1), (2, vI l2)] [] (fX7_findFacts l0 l1 l2) := by
  unfold fX7_findFacts
  refine rz_aload_n 1 0 dX7_findFacts_0 rfl rfl ?_
  refine rz_gR 4 dX7_findFacts_1 rfl rfl fl_X7_61 (fun x1 => ?_)
  refine rz_iconst 5 dX7_findFacts_4 rfl ci_0 ?_
  refine rz_aload_n 6 1 dX7_findFacts_5 rfl rfl ?_
  refine rz_gI 9 dX7_findFacts_6 rfl rfl fl_X7_187 (fun x2 => ?_)
  refine rz_if_eq 16 12 dX7_findFacts_9 rfl rfl ?_ ?_
  · refine rz_iconst 17 dX7_findFacts_16 rfl ci_0 ?_
    exact rz_sub [0, 1, 2] rfl (rX7_findFacts_17 v d l0 l1 l2 (0 : Int32) (0 : Int32) x1)
  · refine rz_iconst 13 dX7_findFacts_12 rfl ci_1 ?_
    refine rz_goto 17 dX7_findFacts_13 rfl ?_
    exact rz_sub [0, 1, 2] rfl (rX7_findFacts_17 v d l0 l1 l2 (1 : Int32) (0 : Int32) x1)
theorem tX7_findFacts (v : mE) (d : Nat) (l0 : Nat) (l1 : Nat) (l2 : Int32) : Mt v yX7_findFacts cX7_findFacts 3 none emU (d + 2) [vR l0, vR l1, vI l2] (fX7_findFacts l0 l1 l2) := mt_of rfl rfl (fun h => by cases h) rfl rfl (rX7_findFacts v d l0 l1 l2)
theorem dX7_poorestOf_0 : decode cX7_poorestOf 0 = .ok (.iconst (-1), 1) := by decide +kernel
theorem dX7_poorestOf_1 : decode cX7_poorestOf 1 = .ok (.istore_n 2, 1) := by decide +kernel
theorem dX7_poorestOf_2 : decode cX7_poorestOf 2 = .ok (.iconst 0, 1) := by decide +kernel
theorem dX7_poorestOf_3 : decode cX7_poorestOf 3 = .ok (.istore_n 3, 1) := by decide +kernel
theorem dX7_poorestOf_4 : decode cX7_poorestOf 4 = .ok (.iconst 0, 1) := by decide +kernel
theorem dX7_poorestOf_5 : decode cX7_poorestOf 5 = .ok (.istore 4, 2) := by decide +kernel
theorem dX7_poorestOf_7 : decode cX7_poorestOf 7 = .ok (.iload 4, 2) := by decide +kernel
theorem dX7_poorestOf_9 : decode cX7_poorestOf 9 = .ok (.aload_n 0, 1) := by decide +kernel
theorem dX7_poorestOf_10 : decode cX7_poorestOf 10 = .ok (.getfield 33, 3) := by decide +kernel
theorem dX7_poorestOf_13 : decode cX7_poorestOf 13 = .ok (.if_icmp .ge 44, 3) := by decide +kernel
theorem dX7_poorestOf_16 : decode cX7_poorestOf 16 = .ok (.iload_n 1, 1) := by decide +kernel
theorem dX7_poorestOf_17 : decode cX7_poorestOf 17 = .ok (.iload 4, 2) := by decide +kernel
theorem dX7_poorestOf_19 : decode cX7_poorestOf 19 = .ok (.ishr, 1) := by decide +kernel
theorem dX7_poorestOf_20 : decode cX7_poorestOf 20 = .ok (.iconst 1, 1) := by decide +kernel
theorem dX7_poorestOf_21 : decode cX7_poorestOf 21 = .ok (.iand, 1) := by decide +kernel
theorem dX7_poorestOf_22 : decode cX7_poorestOf 22 = .ok (.iconst 1, 1) := by decide +kernel
theorem dX7_poorestOf_23 : decode cX7_poorestOf 23 = .ok (.if_icmp .ne 28, 3) := by decide +kernel
theorem dX7_poorestOf_26 : decode cX7_poorestOf 26 = .ok (.aload_n 0, 1) := by decide +kernel
theorem dX7_poorestOf_27 : decode cX7_poorestOf 27 = .ok (.iload 4, 2) := by decide +kernel
theorem dX7_poorestOf_29 : decode cX7_poorestOf 29 = .ok (.invokevirtual 194, 3) := by decide +kernel
theorem dX7_poorestOf_32 : decode cX7_poorestOf 32 = .ok (.istore 5, 2) := by decide +kernel
theorem dX7_poorestOf_34 : decode cX7_poorestOf 34 = .ok (.iload_n 2, 1) := by decide +kernel
theorem dX7_poorestOf_35 : decode cX7_poorestOf 35 = .ok (.iconst (-1), 1) := by decide +kernel
theorem dX7_poorestOf_36 : decode cX7_poorestOf 36 = .ok (.if_icmp .eq 9, 3) := by decide +kernel
theorem dX7_poorestOf_39 : decode cX7_poorestOf 39 = .ok (.iload 5, 2) := by decide +kernel
theorem dX7_poorestOf_41 : decode cX7_poorestOf 41 = .ok (.iload_n 3, 1) := by decide +kernel
theorem dX7_poorestOf_42 : decode cX7_poorestOf 42 = .ok (.if_icmp .ge 9, 3) := by decide +kernel
theorem dX7_poorestOf_45 : decode cX7_poorestOf 45 = .ok (.iload 4, 2) := by decide +kernel
theorem dX7_poorestOf_47 : decode cX7_poorestOf 47 = .ok (.istore_n 2, 1) := by decide +kernel
theorem dX7_poorestOf_48 : decode cX7_poorestOf 48 = .ok (.iload 5, 2) := by decide +kernel
theorem dX7_poorestOf_50 : decode cX7_poorestOf 50 = .ok (.istore_n 3, 1) := by decide +kernel
theorem dX7_poorestOf_51 : decode cX7_poorestOf 51 = .ok (.iinc 4 1, 3) := by decide +kernel
theorem dX7_poorestOf_54 : decode cX7_poorestOf 54 = .ok (.goto (-47), 3) := by decide +kernel
theorem dX7_poorestOf_57 : decode cX7_poorestOf 57 = .ok (.iload_n 2, 1) := by decide +kernel
theorem dX7_poorestOf_58 : decode cX7_poorestOf 58 = .ok (.ireturn, 1) := by decide +kernel
def fX7_poorestOf_45 (r7 : Nat → Int32 → Int32 → Int32 → Int32 → mM Int32) (l0 : Nat) (l1 : Int32) (l4 : Int32) (l5 : Int32) : mM Int32 := r7 l0 l1 l4 l5 (l4 + 1)
set_option maxRecDepth 20000 in
theorem rX7_poorestOf_45 (v : mE) (d : Nat) (r7 : Nat → Int32 → Int32 → Int32 → Int32 → mM Int32) (h7 : ∀ (y0 : Nat) (y1 : Int32) (y2 : Int32) (y3 : Int32) (y4 : Int32), Rz v RX7 cX7_poorestOf 6 (some .int) false emI (d + 2) 7 [(0, vR y0), (1, vI y1), (2, vI y2), (3, vI y3), (4, vI y4)] [] (r7 y0 y1 y2 y3 y4)) (l0 : Nat) (l1 : Int32) (l4 : Int32) (l5 : Int32) : Rz v RX7 cX7_poorestOf 6 (some .int) false emI (d + 2) 45 [(0, vR l0), (1, vI l1), (4, vI l4), (5, vI l5)] [] (fX7_poorestOf_45 r7 l0 l1 l4 l5) := by
  unfold fX7_poorestOf_45
  refine rz_iload 47 2 dX7_poorestOf_45 rfl rfl ?_
  refine rz_istore_n (lv' := [(2, vI l4), (0, vR l0), (1, vI l1), (4, vI l4), (5, vI l5)]) 48 dX7_poorestOf_47 rfl rfl rfl ?_
  refine rz_iload 50 4 dX7_poorestOf_48 rfl rfl ?_
  refine rz_istore_n (lv' := [(3, vI l5), (2, vI l4), (0, vR l0), (1, vI l1), (4, vI l4), (5, vI l5)]) 51 dX7_poorestOf_50 rfl rfl rfl ?_
  refine rz_iinc (lv' := [(4, vI (l4 + 1)), (3, vI l5), (2, vI l4), (0, vR l0), (1, vI l1), (5, vI l5)]) 54 4 dX7_poorestOf_51 rfl rfl (cn_1 _) rfl rfl ?_
  refine rz_goto 7 dX7_poorestOf_54 rfl ?_
  exact rz_sub [3, 4, 2, 1, 0] rfl (h7 l0 l1 l4 l5 (l4 + 1))
def fX7_poorestOf_7 : Nat → Nat → Int32 → Int32 → Int32 → Int32 → mM Int32
  | 0 => fun _ _ _ _ _ => fun _ => none
  | n + 1 => fun l0 l1 l2 l3 l4 => let r7 := fX7_poorestOf_7 n; bGI 7 l0 7 (fun x1 => bIf (x1 ≤ l4) (bRet l2) (bIf (((l1 >>> (l4 &&& 31)) &&& (1 : Int32)) = (1 : Int32)) (bCallV 7 l0 (fX7_heldYards l0 l4) (fun x2 => bIf (l2 = (-1 : Int32)) (fX7_poorestOf_45 r7 l0 l1 l4 x2) (bIf (l3 ≤ x2) (r7 l0 l1 l2 l3 (l4 + 1)) (fX7_poorestOf_45 r7 l0 l1 l4 x2)))) (r7 l0 l1 l2 l3 (l4 + 1))))
theorem qX7_poorestOf_7  (n : Nat) (l0 : Nat) (l1 : Int32) (l2 : Int32) (l3 : Int32) (l4 : Int32) : fX7_poorestOf_7 (n + 1) l0 l1 l2 l3 l4 = bGI 7 l0 7 (fun x1 => bIf (x1 ≤ l4) (bRet l2) (bIf (((l1 >>> (l4 &&& 31)) &&& (1 : Int32)) = (1 : Int32)) (bCallV 7 l0 (fX7_heldYards l0 l4) (fun x2 => bIf (l2 = (-1 : Int32)) (fX7_poorestOf_45 (fX7_poorestOf_7 n) l0 l1 l4 x2) (bIf (l3 ≤ x2) ((fX7_poorestOf_7 n) l0 l1 l2 l3 (l4 + 1)) (fX7_poorestOf_45 (fX7_poorestOf_7 n) l0 l1 l4 x2)))) ((fX7_poorestOf_7 n) l0 l1 l2 l3 (l4 + 1)))) := rfl
set_option maxRecDepth 20000 in
theorem rX7_poorestOf_7 (v : mE) (d : Nat) : ∀ (n : Nat) (l0 : Nat) (l1 : Int32) (l2 : Int32) (l3 : Int32) (l4 : Int32), Rz v RX7 cX7_poorestOf 6 (some .int) false emI (d + 2) 7 [(0, vR l0), (1, vI l1), (2, vI l2), (3, vI l3), (4, vI l4)] [] (fX7_poorestOf_7 n l0 l1 l2 l3 l4)
  | 0, _, _, _, _, _ => fun _ _ _ hm => by cases hm
  | n + 1, l0, l1, l2, l3, l4 => by
    have h7 := rX7_poorestOf_7 v d n
    unfold fX7_poorestOf_7
    generalize fX7_poorestOf_7 n = r7 at h7 ⊢
    refine rz_iload 9 4 dX7_poorestOf_7 rfl rfl ?_
    refine rz_aload_n 10 0 dX7_poorestOf_9 rfl rfl ?_
    refine rz_gI 13 dX7_poorestOf_10 rfl rfl fl_X7_33 (fun x1 => ?_)
    refine rz_icmp_ge 57 16 dX7_poorestOf_13 rfl rfl ?_ ?_
    · refine rz_iload_n 58 2 dX7_poorestOf_57 rfl rfl ?_
      exact rz_ireturn rfl rfl dX7_poorestOf_58
    · refine rz_iload_n 17 1 dX7_poorestOf_16 rfl rfl ?_
      refine rz_iload 19 4 dX7_poorestOf_17 rfl rfl ?_
      refine rz_ishr 20 dX7_poorestOf_19 rfl ?_
      refine rz_iconst 21 dX7_poorestOf_20 rfl ci_1 ?_
      refine rz_iand 22 dX7_poorestOf_21 rfl ?_
      refine rz_iconst 23 dX7_poorestOf_22 rfl ci_1 ?_
      refine rz_icmp_ne 51 26 dX7_poorestOf_23 rfl rfl ?_ ?_
      · refine rz_iinc (lv' := [(4, vI (l4 + 1)), (0, vR l0), (1, vI l1), (2, vI l2), (3, vI l3)]) 54 4 dX7_poorestOf_51 rfl rfl (cn_1 _) rfl rfl ?_
        refine rz_goto 7 dX7_poorestOf_54 rfl ?_
        exact rz_sub [1, 2, 3, 4, 0] rfl (h7 l0 l1 l2 l3 (l4 + 1))
      · refine rz_aload_n 27 0 dX7_poorestOf_26 rfl rfl ?_
        refine rz_iload 29 4 dX7_poorestOf_27 rfl rfl ?_
        refine rz_callV 32 dX7_poorestOf_29 rfl (tX7_heldYards v (d + 0) l0 l4) rfl rfl rfl rfl ml_X7_194 im_X7_heldYards se_X7_X7_heldYards in_X7 co_X7_heldYards rfl rfl (fun x2 => ?_)
        refine rz_istore (lv' := [(5, vI x2), (0, vR l0), (1, vI l1), (2, vI l2), (3, vI l3), (4, vI l4)]) 34 dX7_poorestOf_32 rfl rfl rfl ?_
        refine rz_iload_n 35 3 dX7_poorestOf_34 rfl rfl ?_
        refine rz_iconst 36 dX7_poorestOf_35 rfl ci_m1 ?_
        refine rz_icmp_eq 45 39 dX7_poorestOf_36 rfl rfl ?_ ?_
        · exact rz_sub [1, 2, 5, 0] rfl (rX7_poorestOf_45 v d r7 h7 l0 l1 l4 x2)
        · refine rz_iload 41 0 dX7_poorestOf_39 rfl rfl ?_
          refine rz_iload_n 42 4 dX7_poorestOf_41 rfl rfl ?_
          refine rz_icmp_ge 51 45 dX7_poorestOf_42 rfl rfl ?_ ?_
          · refine rz_iinc (lv' := [(4, vI (l4 + 1)), (5, vI x2), (0, vR l0), (1, vI l1), (2, vI l2), (3, vI l3)]) 54 5 dX7_poorestOf_51 rfl rfl (cn_1 _) rfl rfl ?_
            refine rz_goto 7 dX7_poorestOf_54 rfl ?_
            exact rz_sub [2, 3, 4, 5, 0] rfl (h7 l0 l1 l2 l3 (l4 + 1))
          · exact rz_sub [1, 2, 5, 0] rfl (rX7_poorestOf_45 v d r7 h7 l0 l1 l4 x2)
def fX7_poorestOf (l0 : Nat) (l1 : Int32) : mM Int32 := fX7_poorestOf_7 fu l0 l1 (-1 : Int32) (0 : Int32) (0 : Int32)
set_option maxRecDepth 20000 in
theorem rX7_poorestOf (v : mE) (d : Nat) (l0 : Nat) (l1 : Int32) : Rz v RX7 cX7_poorestOf 6 (some .int) false emI (d + 2) 0 [(0, vR l0), (1, vI l1)] [] (fX7_poorestOf l0 l1) := by
  unfold fX7_poorestOf
  refine rz_iconst 1 dX7_poorestOf_0 rfl ci_m1 ?_
  refine rz_istore_n (lv' := [(2, vI (-1 : Int32)), (0, vR l0), (1, vI l1)]) 2 dX7_poorestOf_1 rfl rfl rfl ?_
  refine rz_iconst 3 dX7_poorestOf_2 rfl ci_0 ?_
  refine rz_istore_n (lv' := [(3, vI (0 : Int32)), (2, vI (-1 : Int32)), (0, vR l0), (1, vI l1)]) 4 dX7_poorestOf_3 rfl rfl rfl ?_
  refine rz_iconst 5 dX7_poorestOf_4 rfl ci_0 ?_
  refine rz_istore (lv' := [(4, vI (0 : Int32)), (3, vI (0 : Int32)), (2, vI (-1 : Int32)), (0, vR l0), (1, vI l1)]) 7 dX7_poorestOf_5 rfl rfl rfl ?_
  exact rz_sub [3, 4, 2, 1, 0] rfl (rX7_poorestOf_7 v d fu l0 l1 (-1 : Int32) (0 : Int32) (0 : Int32))
theorem tX7_poorestOf (v : mE) (d : Nat) (l0 : Nat) (l1 : Int32) : Mt v yX7_poorestOf cX7_poorestOf 6 (some .int) emI (d + 2) [vR l0, vI l1] (fX7_poorestOf l0 l1) := mt_of rfl rfl (fun h => by cases h) rfl rfl (rX7_poorestOf v d l0 l1)
theorem dX7_isForEach_0 : decode cX7_isForEach 0 = .ok (.aload_n 1, 1) := by decide +kernel
theorem dX7_isForEach_1 : decode cX7_isForEach 1 = .ok (.getfield 187, 3) := by decide +kernel
theorem dX7_isForEach_4 : decode cX7_isForEach 4 = .ok (.ifCond .ne 28, 3) := by decide +kernel
theorem dX7_isForEach_7 : decode cX7_isForEach 7 = .ok (.aload_n 1, 1) := by decide +kernel
theorem dX7_isForEach_8 : decode cX7_isForEach 8 = .ok (.getfield 93, 3) := by decide +kernel
theorem dX7_isForEach_11 : decode cX7_isForEach 11 = .ok (.iload_n 2, 1) := by decide +kernel
theorem dX7_isForEach_12 : decode cX7_isForEach 12 = .ok (.if_icmp .lt 20, 3) := by decide +kernel
theorem dX7_isForEach_15 : decode cX7_isForEach 15 = .ok (.aload_n 0, 1) := by decide +kernel
theorem dX7_isForEach_16 : decode cX7_isForEach 16 = .ok (.invokevirtual 197, 3) := by decide +kernel
theorem dX7_isForEach_19 : decode cX7_isForEach 19 = .ok (.iload_n 2, 1) := by decide +kernel
theorem dX7_isForEach_20 : decode cX7_isForEach 20 = .ok (.iadd, 1) := by decide +kernel
theorem dX7_isForEach_21 : decode cX7_isForEach 21 = .ok (.iconst 1, 1) := by decide +kernel
theorem dX7_isForEach_22 : decode cX7_isForEach 22 = .ok (.isub, 1) := by decide +kernel
theorem dX7_isForEach_23 : decode cX7_isForEach 23 = .ok (.bipush 12, 2) := by decide +kernel
theorem dX7_isForEach_25 : decode cX7_isForEach 25 = .ok (.if_icmp .gt 7, 3) := by decide +kernel
theorem dX7_isForEach_28 : decode cX7_isForEach 28 = .ok (.iconst 1, 1) := by decide +kernel
theorem dX7_isForEach_29 : decode cX7_isForEach 29 = .ok (.goto 4, 3) := by decide +kernel
theorem dX7_isForEach_32 : decode cX7_isForEach 32 = .ok (.iconst 0, 1) := by decide +kernel
theorem dX7_isForEach_33 : decode cX7_isForEach 33 = .ok (.ireturn, 1) := by decide +kernel
def fX7_isForEach (l0 : Nat) (l1 : Nat) (l2 : Int32) : mM Int32 := bGI 3 l1 4 (fun x1 => bIf (x1 = 0) (bGI 3 l1 3 (fun x2 => bIf (x2 < l2) (bRetZ (0 : Int32)) (bCallV 7 l0 (fX7_countRopes l0) (fun x3 => bIf ((12 : Int32) < ((x3 + l2) - (1 : Int32))) (bRetZ (0 : Int32)) (bRetZ (1 : Int32)))))) (bRetZ (0 : Int32)))
set_option maxRecDepth 20000 in
theorem rX7_isForEach (v : mE) (d : Nat) (l0 : Nat) (l1 : Nat) (l2 : Int32) : Rz v RX7 cX7_isForEach 3 (some .boolean) false emI (d + 2) 0 [(0, vR l0), (1, vR l1), (2, vI l2)] [] (fX7_isForEach l0 l1 l2) := by
  unfold fX7_isForEach
  refine rz_aload_n 1 1 dX7_isForEach_0 rfl rfl ?_
  refine rz_gI 4 dX7_isForEach_1 rfl rfl fl_X7_187 (fun x1 => ?_)
  refine rz_if_ne 32 7 dX7_isForEach_4 rfl rfl ?_ ?_
  · refine rz_iconst 33 dX7_isForEach_32 rfl ci_0 ?_
    exact rz_zreturn rfl rfl dX7_isForEach_33
  · refine rz_aload_n 8 1 dX7_isForEach_7 rfl rfl ?_
    refine rz_gI 11 dX7_isForEach_8 rfl rfl fl_X7_93 (fun x2 => ?_)
    refine rz_iload_n 12 2 dX7_isForEach_11 rfl rfl ?_
    refine rz_icmp_lt 32 15 dX7_isForEach_12 rfl rfl ?_ ?_
    · refine rz_iconst 33 dX7_isForEach_32 rfl ci_0 ?_
      exact rz_zreturn rfl rfl dX7_isForEach_33
    · refine rz_aload_n 16 0 dX7_isForEach_15 rfl rfl ?_
      refine rz_callV 19 dX7_isForEach_16 rfl (tX7_countRopes v (d + 0) l0) rfl rfl rfl rfl ml_X7_197 im_X7_countRopes se_X7_X7_countRopes in_X7 co_X7_countRopes rfl rfl (fun x3 => ?_)
      refine rz_iload_n 20 2 dX7_isForEach_19 rfl rfl ?_
      refine rz_iadd 21 dX7_isForEach_20 rfl ?_
      refine rz_iconst 22 dX7_isForEach_21 rfl ci_1 ?_
      refine rz_isub 23 dX7_isForEach_22 rfl ?_
      refine rz_bipush 25 dX7_isForEach_23 rfl cb_12 ?_
      refine rz_icmp_gt 32 28 dX7_isForEach_25 rfl rfl ?_ ?_
      · refine rz_iconst 33 dX7_isForEach_32 rfl ci_0 ?_
        exact rz_zreturn rfl rfl dX7_isForEach_33
      · refine rz_iconst 29 dX7_isForEach_28 rfl ci_1 ?_
        refine rz_goto 33 dX7_isForEach_29 rfl ?_
        exact rz_zreturn rfl rfl dX7_isForEach_33
theorem tX7_isForEach (v : mE) (d : Nat) (l0 : Nat) (l1 : Nat) (l2 : Int32) : Mt v yX7_isForEach cX7_isForEach 3 (some .boolean) emI (d + 2) [vR l0, vR l1, vI l2] (fX7_isForEach l0 l1 l2) := mt_of rfl rfl (fun h => by cases h) rfl rfl (rX7_isForEach v d l0 l1 l2)
theorem dX7_shareOut_0 : decode cX7_shareOut 0 = .ok (.iload_n 2, 1) := by decide +kernel
theorem dX7_shareOut_1 : decode cX7_shareOut 1 = .ok (.invokestatic 131, 3) := by decide +kernel
theorem dX7_shareOut_4 : decode cX7_shareOut 4 = .ok (.istore_n 3, 1) := by decide +kernel
theorem dX7_shareOut_5 : decode cX7_shareOut 5 = .ok (.iload_n 3, 1) := by decide +kernel
theorem dX7_shareOut_6 : decode cX7_shareOut 6 = .ok (.ifCond .ne 4, 3) := by decide +kernel
theorem dX7_shareOut_9 : decode cX7_shareOut 9 = .ok (.return_, 1) := by decide +kernel
theorem dX7_shareOut_10 : decode cX7_shareOut 10 = .ok (.aload_n 0, 1) := by decide +kernel
theorem dX7_shareOut_11 : decode cX7_shareOut 11 = .ok (.getfield 45, 3) := by decide +kernel
theorem dX7_shareOut_14 : decode cX7_shareOut 14 = .ok (.iload_n 1, 1) := by decide +kernel
theorem dX7_shareOut_15 : decode cX7_shareOut 15 = .ok (.aaload, 1) := by decide +kernel
theorem dX7_shareOut_16 : decode cX7_shareOut 16 = .ok (.getfield 93, 3) := by decide +kernel
theorem dX7_shareOut_19 : decode cX7_shareOut 19 = .ok (.iload_n 3, 1) := by decide +kernel
theorem dX7_shareOut_20 : decode cX7_shareOut 20 = .ok (.idiv, 1) := by decide +kernel
theorem dX7_shareOut_21 : decode cX7_shareOut 21 = .ok (.istore 4, 2) := by decide +kernel
theorem dX7_shareOut_23 : decode cX7_shareOut 23 = .ok (.aload_n 0, 1) := by decide +kernel
theorem dX7_shareOut_24 : decode cX7_shareOut 24 = .ok (.getfield 45, 3) := by decide +kernel
theorem dX7_shareOut_27 : decode cX7_shareOut 27 = .ok (.iload_n 1, 1) := by decide +kernel
theorem dX7_shareOut_28 : decode cX7_shareOut 28 = .ok (.aaload, 1) := by decide +kernel
theorem dX7_shareOut_29 : decode cX7_shareOut 29 = .ok (.getfield 93, 3) := by decide +kernel
theorem dX7_shareOut_32 : decode cX7_shareOut 32 = .ok (.iload_n 3, 1) := by decide +kernel
theorem dX7_shareOut_33 : decode cX7_shareOut 33 = .ok (.irem, 1) := by decide +kernel
theorem dX7_shareOut_34 : decode cX7_shareOut 34 = .ok (.istore 5, 2) := by decide +kernel
theorem dX7_shareOut_36 : decode cX7_shareOut 36 = .ok (.iload_n 1, 1) := by decide +kernel
theorem dX7_shareOut_37 : decode cX7_shareOut 37 = .ok (.istore 6, 2) := by decide +kernel
theorem dX7_shareOut_39 : decode cX7_shareOut 39 = .ok (.iconst 0, 1) := by decide +kernel
theorem dX7_shareOut_40 : decode cX7_shareOut 40 = .ok (.istore 7, 2) := by decide +kernel
theorem dX7_shareOut_42 : decode cX7_shareOut 42 = .ok (.iconst 0, 1) := by decide +kernel
theorem dX7_shareOut_43 : decode cX7_shareOut 43 = .ok (.istore 8, 2) := by decide +kernel
theorem dX7_shareOut_45 : decode cX7_shareOut 45 = .ok (.iload 8, 2) := by decide +kernel
theorem dX7_shareOut_47 : decode cX7_shareOut 47 = .ok (.aload_n 0, 1) := by decide +kernel
theorem dX7_shareOut_48 : decode cX7_shareOut 48 = .ok (.getfield 33, 3) := by decide +kernel
theorem dX7_shareOut_51 : decode cX7_shareOut 51 = .ok (.if_icmp .ge 99, 3) := by decide +kernel
theorem dX7_shareOut_54 : decode cX7_shareOut 54 = .ok (.iload 6, 2) := by decide +kernel
theorem dX7_shareOut_56 : decode cX7_shareOut 56 = .ok (.iconst (-1), 1) := by decide +kernel
theorem dX7_shareOut_57 : decode cX7_shareOut 57 = .ok (.if_icmp .eq 93, 3) := by decide +kernel
theorem dX7_shareOut_60 : decode cX7_shareOut 60 = .ok (.iload_n 2, 1) := by decide +kernel
theorem dX7_shareOut_61 : decode cX7_shareOut 61 = .ok (.iload 8, 2) := by decide +kernel
theorem dX7_shareOut_63 : decode cX7_shareOut 63 = .ok (.ishr, 1) := by decide +kernel
theorem dX7_shareOut_64 : decode cX7_shareOut 64 = .ok (.iconst 1, 1) := by decide +kernel
theorem dX7_shareOut_65 : decode cX7_shareOut 65 = .ok (.iand, 1) := by decide +kernel
theorem dX7_shareOut_66 : decode cX7_shareOut 66 = .ok (.iconst 1, 1) := by decide +kernel
theorem dX7_shareOut_67 : decode cX7_shareOut 67 = .ok (.if_icmp .ne 77, 3) := by decide +kernel
theorem dX7_shareOut_70 : decode cX7_shareOut 70 = .ok (.aload_n 0, 1) := by decide +kernel
theorem dX7_shareOut_71 : decode cX7_shareOut 71 = .ok (.getfield 45, 3) := by decide +kernel
theorem dX7_shareOut_74 : decode cX7_shareOut 74 = .ok (.iload 6, 2) := by decide +kernel
theorem dX7_shareOut_76 : decode cX7_shareOut 76 = .ok (.aaload, 1) := by decide +kernel
theorem dX7_shareOut_77 : decode cX7_shareOut 77 = .ok (.iload 8, 2) := by decide +kernel
theorem dX7_shareOut_79 : decode cX7_shareOut 79 = .ok (.putfield 90, 3) := by decide +kernel
theorem dX7_shareOut_82 : decode cX7_shareOut 82 = .ok (.iinc 7 1, 3) := by decide +kernel
theorem dX7_shareOut_85 : decode cX7_shareOut 85 = .ok (.iload 7, 2) := by decide +kernel
theorem dX7_shareOut_87 : decode cX7_shareOut 87 = .ok (.iload_n 3, 1) := by decide +kernel
theorem dX7_shareOut_88 : decode cX7_shareOut 88 = .ok (.if_icmp .ge 10, 3) := by decide +kernel
theorem dX7_shareOut_91 : decode cX7_shareOut 91 = .ok (.aload_n 0, 1) := by decide +kernel
theorem dX7_shareOut_92 : decode cX7_shareOut 92 = .ok (.invokevirtual 200, 3) := by decide +kernel
theorem dX7_shareOut_95 : decode cX7_shareOut 95 = .ok (.goto 4, 3) := by decide +kernel
theorem dX7_shareOut_98 : decode cX7_shareOut 98 = .ok (.iconst (-1), 1) := by decide +kernel
theorem dX7_shareOut_99 : decode cX7_shareOut 99 = .ok (.istore 9, 2) := by decide +kernel
theorem dX7_shareOut_101 : decode cX7_shareOut 101 = .ok (.iload 9, 2) := by decide +kernel
theorem dX7_shareOut_103 : decode cX7_shareOut 103 = .ok (.iconst (-1), 1) := by decide +kernel
theorem dX7_shareOut_104 : decode cX7_shareOut 104 = .ok (.if_icmp .eq 36, 3) := by decide +kernel
theorem dX7_shareOut_107 : decode cX7_shareOut 107 = .ok (.aload_n 0, 1) := by decide +kernel
theorem dX7_shareOut_108 : decode cX7_shareOut 108 = .ok (.getfield 45, 3) := by decide +kernel
theorem dX7_shareOut_111 : decode cX7_shareOut 111 = .ok (.iload 6, 2) := by decide +kernel
theorem dX7_shareOut_113 : decode cX7_shareOut 113 = .ok (.aaload, 1) := by decide +kernel
theorem dX7_shareOut_114 : decode cX7_shareOut 114 = .ok (.iload 7, 2) := by decide +kernel
theorem dX7_shareOut_116 : decode cX7_shareOut 116 = .ok (.iload 5, 2) := by decide +kernel
theorem dX7_shareOut_118 : decode cX7_shareOut 118 = .ok (.if_icmp .gt 10, 3) := by decide +kernel
theorem dX7_shareOut_121 : decode cX7_shareOut 121 = .ok (.iload 4, 2) := by decide +kernel
theorem dX7_shareOut_123 : decode cX7_shareOut 123 = .ok (.iconst 1, 1) := by decide +kernel
theorem dX7_shareOut_124 : decode cX7_shareOut 124 = .ok (.iadd, 1) := by decide +kernel
theorem dX7_shareOut_125 : decode cX7_shareOut 125 = .ok (.goto 5, 3) := by decide +kernel
theorem dX7_shareOut_128 : decode cX7_shareOut 128 = .ok (.iload 4, 2) := by decide +kernel
theorem dX7_shareOut_130 : decode cX7_shareOut 130 = .ok (.aload_n 0, 1) := by decide +kernel
theorem dX7_shareOut_131 : decode cX7_shareOut 131 = .ok (.getfield 45, 3) := by decide +kernel
theorem dX7_shareOut_134 : decode cX7_shareOut 134 = .ok (.iload 9, 2) := by decide +kernel
theorem dX7_shareOut_136 : decode cX7_shareOut 136 = .ok (.aaload, 1) := by decide +kernel
theorem dX7_shareOut_137 : decode cX7_shareOut 137 = .ok (.invokevirtual 203, 3) := by decide +kernel
theorem dX7_shareOut_140 : decode cX7_shareOut 140 = .ok (.iload 9, 2) := by decide +kernel
theorem dX7_shareOut_142 : decode cX7_shareOut 142 = .ok (.istore 6, 2) := by decide +kernel
theorem dX7_shareOut_144 : decode cX7_shareOut 144 = .ok (.iinc 8 1, 3) := by decide +kernel
theorem dX7_shareOut_147 : decode cX7_shareOut 147 = .ok (.goto (-102), 3) := by decide +kernel
theorem dX7_shareOut_150 : decode cX7_shareOut 150 = .ok (.return_, 1) := by decide +kernel
def fX7_shareOut_140 (r45 : Nat → Int32 → Int32 → Int32 → Int32 → Int32 → Int32 → Int32 → mM Unit) (l0 : Nat) (l2 : Int32) (l3 : Int32) (l4 : Int32) (l5 : Int32) (l7 : Int32) (l8 : Int32) (l9 : Int32) : mM Unit := r45 l0 l2 l3 l4 l5 l9 l7 (l8 + 1)
set_option maxRecDepth 20000 in
theorem rX7_shareOut_140 (v : mE) (d : Nat) (r45 : Nat → Int32 → Int32 → Int32 → Int32 → Int32 → Int32 → Int32 → mM Unit) (h45 : ∀ (y0 : Nat) (y2 : Int32) (y3 : Int32) (y4 : Int32) (y5 : Int32) (y6 : Int32) (y7 : Int32) (y8 : Int32), Rz v RX7 cX7_shareOut 10 none false emU (d + 2) 45 [(0, vR y0), (2, vI y2), (3, vI y3), (4, vI y4), (5, vI y5), (6, vI y6), (7, vI y7), (8, vI y8)] [] (r45 y0 y2 y3 y4 y5 y6 y7 y8)) (l0 : Nat) (l2 : Int32) (l3 : Int32) (l4 : Int32) (l5 : Int32) (l7 : Int32) (l8 : Int32) (l9 : Int32) : Rz v RX7 cX7_shareOut 10 none false emU (d + 2) 140 [(0, vR l0), (2, vI l2), (3, vI l3), (4, vI l4), (5, vI l5), (7, vI l7), (8, vI l8), (9, vI l9)] [] (fX7_shareOut_140 r45 l0 l2 l3 l4 l5 l7 l8 l9) := by
  unfold fX7_shareOut_140
  refine rz_iload 142 7 dX7_shareOut_140 rfl rfl ?_
  refine rz_istore (lv' := [(6, vI l9), (0, vR l0), (2, vI l2), (3, vI l3), (4, vI l4), (5, vI l5), (7, vI l7), (8, vI l8), (9, vI l9)]) 144 dX7_shareOut_142 rfl rfl rfl ?_
  refine rz_iinc (lv' := [(8, vI (l8 + 1)), (6, vI l9), (0, vR l0), (2, vI l2), (3, vI l3), (4, vI l4), (5, vI l5), (7, vI l7), (9, vI l9)]) 147 7 dX7_shareOut_144 rfl rfl (cn_1 _) rfl rfl ?_
  refine rz_goto 45 dX7_shareOut_147 rfl ?_
  exact rz_sub [2, 3, 4, 5, 6, 1, 7, 0] rfl (h45 l0 l2 l3 l4 l5 l9 l7 (l8 + 1))
def fX7_shareOut_130 (r45 : Nat → Int32 → Int32 → Int32 → Int32 → Int32 → Int32 → Int32 → mM Unit) (l0 : Nat) (l2 : Int32) (l3 : Int32) (l4 : Int32) (l5 : Int32) (l7 : Int32) (l8 : Int32) (l9 : Int32) (s0 : Int32) (s1 : Nat) : mM Unit := bGR 7 l0 10 (fun x1 => bAR 14 x1 l9 (fun x2 => bCallV 3 s1 (fX3_splitAt s1 s0 x2) (fun _ => fX7_shareOut_140 r45 l0 l2 l3 l4 l5 l7 l8 l9)))
set_option maxRecDepth 20000 in
theorem rX7_shareOut_130 (v : mE) (d : Nat) (r45 : Nat → Int32 → Int32 → Int32 → Int32 → Int32 → Int32 → Int32 → mM Unit) (h45 : ∀ (y0 : Nat) (y2 : Int32) (y3 : Int32) (y4 : Int32) (y5 : Int32) (y6 : Int32) (y7 : Int32) (y8 : Int32), Rz v RX7 cX7_shareOut 10 none false emU (d + 2) 45 [(0, vR y0), (2, vI y2), (3, vI y3), (4, vI y4), (5, vI y5), (6, vI y6), (7, vI y7), (8, vI y8)] [] (r45 y0 y2 y3 y4 y5 y6 y7 y8)) (l0 : Nat) (l2 : Int32) (l3 : Int32) (l4 : Int32) (l5 : Int32) (l7 : Int32) (l8 : Int32) (l9 : Int32) (s0 : Int32) (s1 : Nat) : Rz v RX7 cX7_shareOut 10 none false emU (d + 2) 130 [(0, vR l0), (2, vI l2), (3, vI l3), (4, vI l4), (5, vI l5), (7, vI l7), (8, vI l8), (9, vI l9)] [vI s0, vR s1] (fX7_shareOut_130 r45 l0 l2 l3 l4 l5 l7 l8 l9 s0 s1) := by
  unfold fX7_shareOut_130
  refine rz_aload_n 131 0 dX7_shareOut_130 rfl rfl ?_
  refine rz_gR 134 dX7_shareOut_131 rfl rfl fl_X7_45 (fun x1 => ?_)
  refine rz_iload 136 7 dX7_shareOut_134 rfl rfl ?_
  refine rz_aald 137 dX7_shareOut_136 rfl (by decide) (fun x2 => ?_)
  refine rz_callV 140 dX7_shareOut_137 rfl (tX3_splitAt v (d + 0) s1 s0 x2) rfl rfl rfl rfl ml_X7_203 im_X3_splitAt se_X3_X3_splitAt in_X3 co_X3_splitAt rfl rfl (fun _ => ?_)
  exact rz_sub [0, 1, 2, 3, 4, 5, 6, 7] rfl (rX7_shareOut_140 v d r45 h45 l0 l2 l3 l4 l5 l7 l8 l9)
def fX7_shareOut_99 (r45 : Nat → Int32 → Int32 → Int32 → Int32 → Int32 → Int32 → Int32 → mM Unit) (l0 : Nat) (l2 : Int32) (l3 : Int32) (l4 : Int32) (l5 : Int32) (l6 : Int32) (l7 : Int32) (l8 : Int32) (s0 : Int32) : mM Unit := bIf (s0 = (-1 : Int32)) (fX7_shareOut_140 r45 l0 l2 l3 l4 l5 l7 l8 s0) (bGR 7 l0 10 (fun x1 => bAR 14 x1 l6 (fun x2 => bIf (l5 < l7) (fX7_shareOut_130 r45 l0 l2 l3 l4 l5 l7 l8 s0 l4 x2) (fX7_shareOut_130 r45 l0 l2 l3 l4 l5 l7 l8 s0 (l4 + (1 : Int32)) x2))))
set_option maxRecDepth 20000 in
theorem rX7_shareOut_99 (v : mE) (d : Nat) (r45 : Nat → Int32 → Int32 → Int32 → Int32 → Int32 → Int32 → Int32 → mM Unit) (h45 : ∀ (y0 : Nat) (y2 : Int32) (y3 : Int32) (y4 : Int32) (y5 : Int32) (y6 : Int32) (y7 : Int32) (y8 : Int32), Rz v RX7 cX7_shareOut 10 none false emU (d + 2) 45 [(0, vR y0), (2, vI y2), (3, vI y3), (4, vI y4), (5, vI y5), (6, vI y6), (7, vI y7), (8, vI y8)] [] (r45 y0 y2 y3 y4 y5 y6 y7 y8)) (l0 : Nat) (l2 : Int32) (l3 : Int32) (l4 : Int32) (l5 : Int32) (l6 : Int32) (l7 : Int32) (l8 : Int32) (s0 : Int32) : Rz v RX7 cX7_shareOut 10 none false emU (d + 2) 99 [(0, vR l0), (2, vI l2), (3, vI l3), (4, vI l4), (5, vI l5), (6, vI l6), (7, vI l7), (8, vI l8)] [vI s0] (fX7_shareOut_99 r45 l0 l2 l3 l4 l5 l6 l7 l8 s0) := by
  unfold fX7_shareOut_99
  refine rz_istore (lv' := [(9, vI s0), (0, vR l0), (2, vI l2), (3, vI l3), (4, vI l4), (5, vI l5), (6, vI l6), (7, vI l7), (8, vI l8)]) 101 dX7_shareOut_99 rfl rfl rfl ?_
  refine rz_iload 103 0 dX7_shareOut_101 rfl rfl ?_
  refine rz_iconst 104 dX7_shareOut_103 rfl ci_m1 ?_
  refine rz_icmp_eq 140 107 dX7_shareOut_104 rfl rfl ?_ ?_
  · exact rz_sub [1, 2, 3, 4, 5, 7, 8, 0] rfl (rX7_shareOut_140 v d r45 h45 l0 l2 l3 l4 l5 l7 l8 s0)
  · refine rz_aload_n 108 1 dX7_shareOut_107 rfl rfl ?_
    refine rz_gR 111 dX7_shareOut_108 rfl rfl fl_X7_45 (fun x1 => ?_)
    refine rz_iload 113 6 dX7_shareOut_111 rfl rfl ?_
    refine rz_aald 114 dX7_shareOut_113 rfl (by decide) (fun x2 => ?_)
    refine rz_iload 116 7 dX7_shareOut_114 rfl rfl ?_
    refine rz_iload 118 5 dX7_shareOut_116 rfl rfl ?_
    refine rz_icmp_gt 128 121 dX7_shareOut_118 rfl rfl ?_ ?_
    · refine rz_iload 130 4 dX7_shareOut_128 rfl rfl ?_
      exact rz_sub [1, 2, 3, 4, 5, 7, 8, 0] rfl (rX7_shareOut_130 v d r45 h45 l0 l2 l3 l4 l5 l7 l8 s0 l4 x2)
    · refine rz_iload 123 4 dX7_shareOut_121 rfl rfl ?_
      refine rz_iconst 124 dX7_shareOut_123 rfl ci_1 ?_
      refine rz_iadd 125 dX7_shareOut_124 rfl ?_
      refine rz_goto 130 dX7_shareOut_125 rfl ?_
      exact rz_sub [1, 2, 3, 4, 5, 7, 8, 0] rfl (rX7_shareOut_130 v d r45 h45 l0 l2 l3 l4 l5 l7 l8 s0 (l4 + (1 : Int32)) x2)
def fX7_shareOut_45 : Nat → Nat → Int32 → Int32 → Int32 → Int32 → Int32 → Int32 → Int32 → mM Unit
  | 0 => fun _ _ _ _ _ _ _ _ => fun _ => none
  | n + 1 => fun l0 l2 l3 l4 l5 l6 l7 l8 => let r45 := fX7_shareOut_45 n; bGI 7 l0 7 (fun x1 => bIf (x1 ≤ l8) (bRet ()) (bIf (l6 = (-1 : Int32)) (bRet ()) (bIf (((l2 >>> (l8 &&& 31)) &&& (1 : Int32)) = (1 : Int32)) (bGR 7 l0 10 (fun x2 => bAR 14 x2 l6 (fun x3 => bPI 3 x3 0 l8 (bIf (l3 ≤ (l7 + 1)) (fX7_shareOut_99 r45 l0 l2 l3 l4 l5 l6 (l7 + 1) l8 (-1 : Int32)) (bCallV 7 l0 (fX7_freeRope l0) (fun x4 => fX7_shareOut_99 r45 l0 l2 l3 l4 l5 l6 (l7 + 1) l8 x4)))))) (r45 l0 l2 l3 l4 l5 l6 l7 (l8 + 1)))))
theorem qX7_shareOut_45  (n : Nat) (l0 : Nat) (l2 : Int32) (l3 : Int32) (l4 : Int32) (l5 : Int32) (l6 : Int32) (l7 : Int32) (l8 : Int32) : fX7_shareOut_45 (n + 1) l0 l2 l3 l4 l5 l6 l7 l8 = bGI 7 l0 7 (fun x1 => bIf (x1 ≤ l8) (bRet ()) (bIf (l6 = (-1 : Int32)) (bRet ()) (bIf (((l2 >>> (l8 &&& 31)) &&& (1 : Int32)) = (1 : Int32)) (bGR 7 l0 10 (fun x2 => bAR 14 x2 l6 (fun x3 => bPI 3 x3 0 l8 (bIf (l3 ≤ (l7 + 1)) (fX7_shareOut_99 (fX7_shareOut_45 n) l0 l2 l3 l4 l5 l6 (l7 + 1) l8 (-1 : Int32)) (bCallV 7 l0 (fX7_freeRope l0) (fun x4 => fX7_shareOut_99 (fX7_shareOut_45 n) l0 l2 l3 l4 l5 l6 (l7 + 1) l8 x4)))))) ((fX7_shareOut_45 n) l0 l2 l3 l4 l5 l6 l7 (l8 + 1))))) := rfl
set_option maxRecDepth 20000 in
theorem rX7_shareOut_45 (v : mE) (d : Nat) : ∀ (n : Nat) (l0 : Nat) (l2 : Int32) (l3 : Int32) (l4 : Int32) (l5 : Int32) (l6 : Int32) (l7 : Int32) (l8 : Int32), Rz v RX7 cX7_shareOut 10 none false emU (d + 2) 45 [(0, vR l0), (2, vI l2), (3, vI l3), (4, vI l4), (5, vI l5), (6, vI l6), (7, vI l7), (8, vI l8)] [] (fX7_shareOut_45 n l0 l2 l3 l4 l5 l6 l7 l8)
  | 0, _, _, _, _, _, _, _, _ => fun _ _ _ hm => by cases hm
  | n + 1, l0, l2, l3, l4, l5, l6, l7, l8 => by
    have h45 := rX7_shareOut_45 v d n
    unfold fX7_shareOut_45
    generalize fX7_shareOut_45 n = r45 at h45 ⊢
    refine rz_iload 47 7 dX7_shareOut_45 rfl rfl ?_
    refine rz_aload_n 48 0 dX7_shareOut_47 rfl rfl ?_
    refine rz_gI 51 dX7_shareOut_48 rfl rfl fl_X7_33 (fun x1 => ?_)
    refine rz_icmp_ge 150 54 dX7_shareOut_51 rfl rfl ?_ ?_
    · exact rz_return rfl rfl dX7_shareOut_150
    · refine rz_iload 56 5 dX7_shareOut_54 rfl rfl ?_
      refine rz_iconst 57 dX7_shareOut_56 rfl ci_m1 ?_
      refine rz_icmp_eq 150 60 dX7_shareOut_57 rfl rfl ?_ ?_
      · exact rz_return rfl rfl dX7_shareOut_150
      · refine rz_iload_n 61 1 dX7_shareOut_60 rfl rfl ?_
        refine rz_iload 63 7 dX7_shareOut_61 rfl rfl ?_
        refine rz_ishr 64 dX7_shareOut_63 rfl ?_
        refine rz_iconst 65 dX7_shareOut_64 rfl ci_1 ?_
        refine rz_iand 66 dX7_shareOut_65 rfl ?_
        refine rz_iconst 67 dX7_shareOut_66 rfl ci_1 ?_
        refine rz_icmp_ne 144 70 dX7_shareOut_67 rfl rfl ?_ ?_
        · refine rz_iinc (lv' := [(8, vI (l8 + 1)), (0, vR l0), (2, vI l2), (3, vI l3), (4, vI l4), (5, vI l5), (6, vI l6), (7, vI l7)]) 147 7 dX7_shareOut_144 rfl rfl (cn_1 _) rfl rfl ?_
          refine rz_goto 45 dX7_shareOut_147 rfl ?_
          exact rz_sub [1, 2, 3, 4, 5, 6, 7, 0] rfl (h45 l0 l2 l3 l4 l5 l6 l7 (l8 + 1))
        · refine rz_aload_n 71 0 dX7_shareOut_70 rfl rfl ?_
          refine rz_gR 74 dX7_shareOut_71 rfl rfl fl_X7_45 (fun x2 => ?_)
          refine rz_iload 76 5 dX7_shareOut_74 rfl rfl ?_
          refine rz_aald 77 dX7_shareOut_76 rfl (by decide) (fun x3 => ?_)
          refine rz_iload 79 7 dX7_shareOut_77 rfl rfl ?_
          refine rz_pI 82 dX7_shareOut_79 rfl rfl rfl rfl fl_X7_90 ?_
          refine rz_iinc (lv' := [(7, vI (l7 + 1)), (0, vR l0), (2, vI l2), (3, vI l3), (4, vI l4), (5, vI l5), (6, vI l6), (8, vI l8)]) 85 6 dX7_shareOut_82 rfl rfl (cn_1 _) rfl rfl ?_
          refine rz_iload 87 0 dX7_shareOut_85 rfl rfl ?_
          refine rz_iload_n 88 3 dX7_shareOut_87 rfl rfl ?_
          refine rz_icmp_ge 98 91 dX7_shareOut_88 rfl rfl ?_ ?_
          · refine rz_iconst 99 dX7_shareOut_98 rfl ci_m1 ?_
            exact rz_sub [1, 2, 3, 4, 5, 6, 0, 7] rfl (rX7_shareOut_99 v d r45 h45 l0 l2 l3 l4 l5 l6 (l7 + 1) l8 (-1 : Int32))
          · refine rz_aload_n 92 1 dX7_shareOut_91 rfl rfl ?_
            refine rz_callV 95 dX7_shareOut_92 rfl (tX7_freeRope v (d + 0) l0) rfl rfl rfl rfl ml_X7_200 im_X7_freeRope se_X7_X7_freeRope in_X7 co_X7_freeRope rfl rfl (fun x4 => ?_)
            refine rz_goto 99 dX7_shareOut_95 rfl ?_
            exact rz_sub [1, 2, 3, 4, 5, 6, 0, 7] rfl (rX7_shareOut_99 v d r45 h45 l0 l2 l3 l4 l5 l6 (l7 + 1) l8 x4)
def fX7_shareOut (l0 : Nat) (l1 : Int32) (l2 : Int32) : mM Unit := bCall (fJ6_bitCount_0f7a4 l2) (fun x1 => bIf (x1 = 0) (bRet ()) (bGR 7 l0 10 (fun x2 => bAR 14 x2 l1 (fun x3 => bGI 3 x3 3 (fun x4 => bNz x1 (bGR 7 l0 10 (fun x5 => bAR 14 x5 l1 (fun x6 => bGI 3 x6 3 (fun x7 => bNz x1 (fX7_shareOut_45 fu l0 l2 x1 (x4 / x1) (x7 - x7 / x1 * x1) l1 (0 : Int32) (0 : Int32)))))))))))
set_option maxRecDepth 20000 in
theorem rX7_shareOut (v : mE) (d : Nat) (l0 : Nat) (l1 : Int32) (l2 : Int32) : Rz v RX7 cX7_shareOut 10 none false emU (d + 2) 0 [(0, vR l0), (1, vI l1), (2, vI l2)] [] (fX7_shareOut l0 l1 l2) := by
  unfold fX7_shareOut
  refine rz_iload_n 1 2 dX7_shareOut_0 rfl rfl ?_
  refine rz_callS 4 dX7_shareOut_1 rfl (tJ6_bitCount_0f7a4 v (d + 1) l2) rfl rfl ml_X7_131 sm_J6_bitCount_0f7a4 in_J6 co_J6_bitCount_0f7a4 rfl rfl (fun x1 => ?_)
  refine rz_istore_n (lv' := [(3, vI x1), (0, vR l0), (1, vI l1), (2, vI l2)]) 5 dX7_shareOut_4 rfl rfl rfl ?_
  refine rz_iload_n 6 0 dX7_shareOut_5 rfl rfl ?_
  refine rz_if_ne 10 9 dX7_shareOut_6 rfl rfl ?_ ?_
  · refine rz_aload_n 11 1 dX7_shareOut_10 rfl rfl ?_
    refine rz_gR 14 dX7_shareOut_11 rfl rfl fl_X7_45 (fun x2 => ?_)
    refine rz_iload_n 15 2 dX7_shareOut_14 rfl rfl ?_
    refine rz_aald 16 dX7_shareOut_15 rfl (by decide) (fun x3 => ?_)
    refine rz_gI 19 dX7_shareOut_16 rfl rfl fl_X7_93 (fun x4 => ?_)
    refine rz_iload_n 20 0 dX7_shareOut_19 rfl rfl ?_
    refine rz_idiv 21 dX7_shareOut_20 rfl ?_
    refine rz_istore (lv' := [(4, vI (x4 / x1)), (3, vI x1), (0, vR l0), (1, vI l1), (2, vI l2)]) 23 dX7_shareOut_21 rfl rfl rfl ?_
    refine rz_aload_n 24 2 dX7_shareOut_23 rfl rfl ?_
    refine rz_gR 27 dX7_shareOut_24 rfl rfl fl_X7_45 (fun x5 => ?_)
    refine rz_iload_n 28 3 dX7_shareOut_27 rfl rfl ?_
    refine rz_aald 29 dX7_shareOut_28 rfl (by decide) (fun x6 => ?_)
    refine rz_gI 32 dX7_shareOut_29 rfl rfl fl_X7_93 (fun x7 => ?_)
    refine rz_iload_n 33 1 dX7_shareOut_32 rfl rfl ?_
    refine rz_irem 34 dX7_shareOut_33 rfl ?_
    refine rz_istore (lv' := [(5, vI (x7 - x7 / x1 * x1)), (4, vI (x4 / x1)), (3, vI x1), (0, vR l0), (1, vI l1), (2, vI l2)]) 36 dX7_shareOut_34 rfl rfl rfl ?_
    refine rz_iload_n 37 4 dX7_shareOut_36 rfl rfl ?_
    refine rz_istore (lv' := [(6, vI l1), (5, vI (x7 - x7 / x1 * x1)), (4, vI (x4 / x1)), (3, vI x1), (0, vR l0), (1, vI l1), (2, vI l2)]) 39 dX7_shareOut_37 rfl rfl rfl ?_
    refine rz_iconst 40 dX7_shareOut_39 rfl ci_0 ?_
    refine rz_istore (lv' := [(7, vI (0 : Int32)), (6, vI l1), (5, vI (x7 - x7 / x1 * x1)), (4, vI (x4 / x1)), (3, vI x1), (0, vR l0), (1, vI l1), (2, vI l2)]) 42 dX7_shareOut_40 rfl rfl rfl ?_
    refine rz_iconst 43 dX7_shareOut_42 rfl ci_0 ?_
    refine rz_istore (lv' := [(8, vI (0 : Int32)), (7, vI (0 : Int32)), (6, vI l1), (5, vI (x7 - x7 / x1 * x1)), (4, vI (x4 / x1)), (3, vI x1), (0, vR l0), (1, vI l1), (2, vI l2)]) 45 dX7_shareOut_43 rfl rfl rfl ?_
    exact rz_sub [6, 8, 5, 4, 3, 2, 1, 0] rfl (rX7_shareOut_45 v d fu l0 l2 x1 (x4 / x1) (x7 - x7 / x1 * x1) l1 (0 : Int32) (0 : Int32))
  · exact rz_return rfl rfl dX7_shareOut_9
theorem tX7_shareOut (v : mE) (d : Nat) (l0 : Nat) (l1 : Int32) (l2 : Int32) : Mt v yX7_shareOut cX7_shareOut 10 none emU (d + 2) [vR l0, vI l1, vI l2] (fX7_shareOut l0 l1 l2) := mt_of rfl rfl (fun h => by cases h) rfl rfl (rX7_shareOut v d l0 l1 l2)
theorem dX7_handDown_0 : decode cX7_handDown 0 = .ok (.aload_n 0, 1) := by decide +kernel
theorem dX7_handDown_1 : decode cX7_handDown 1 = .ok (.aload_n 0, 1) := by decide +kernel
theorem dX7_handDown_2 : decode cX7_handDown 2 = .ok (.getfield 45, 3) := by decide +kernel
theorem dX7_handDown_5 : decode cX7_handDown 5 = .ok (.iload_n 1, 1) := by decide +kernel
theorem dX7_handDown_6 : decode cX7_handDown 6 = .ok (.aaload, 1) := by decide +kernel
theorem dX7_handDown_7 : decode cX7_handDown 7 = .ok (.iload_n 2, 1) := by decide +kernel
theorem dX7_handDown_8 : decode cX7_handDown 8 = .ok (.invokevirtual 161, 3) := by decide +kernel
theorem dX7_handDown_11 : decode cX7_handDown 11 = .ok (.aload_n 0, 1) := by decide +kernel
theorem dX7_handDown_12 : decode cX7_handDown 12 = .ok (.getfield 64, 3) := by decide +kernel
theorem dX7_handDown_15 : decode cX7_handDown 15 = .ok (.ifnonnull 7, 3) := by decide +kernel
theorem dX7_handDown_18 : decode cX7_handDown 18 = .ok (.iconst 0, 1) := by decide +kernel
theorem dX7_handDown_19 : decode cX7_handDown 19 = .ok (.goto 14, 3) := by decide +kernel
theorem dX7_handDown_22 : decode cX7_handDown 22 = .ok (.aload_n 0, 1) := by decide +kernel
theorem dX7_handDown_23 : decode cX7_handDown 23 = .ok (.getfield 64, 3) := by decide +kernel
theorem dX7_handDown_26 : decode cX7_handDown 26 = .ok (.aload_n 0, 1) := by decide +kernel
theorem dX7_handDown_27 : decode cX7_handDown 27 = .ok (.getfield 61, 3) := by decide +kernel
theorem dX7_handDown_30 : decode cX7_handDown 30 = .ok (.invokevirtual 165, 3) := by decide +kernel
theorem dX7_handDown_33 : decode cX7_handDown 33 = .ok (.istore_n 3, 1) := by decide +kernel
theorem dX7_handDown_34 : decode cX7_handDown 34 = .ok (.iload_n 2, 1) := by decide +kernel
theorem dX7_handDown_35 : decode cX7_handDown 35 = .ok (.ifCond .eq 8, 3) := by decide +kernel
theorem dX7_handDown_38 : decode cX7_handDown 38 = .ok (.iload_n 3, 1) := by decide +kernel
theorem dX7_handDown_39 : decode cX7_handDown 39 = .ok (.iconst 4, 1) := by decide +kernel
theorem dX7_handDown_40 : decode cX7_handDown 40 = .ok (.if_icmp .ne 16, 3) := by decide +kernel
theorem dX7_handDown_43 : decode cX7_handDown 43 = .ok (.aload_n 0, 1) := by decide +kernel
theorem dX7_handDown_44 : decode cX7_handDown 44 = .ok (.getfield 45, 3) := by decide +kernel
theorem dX7_handDown_47 : decode cX7_handDown 47 = .ok (.iload_n 1, 1) := by decide +kernel
theorem dX7_handDown_48 : decode cX7_handDown 48 = .ok (.aaload, 1) := by decide +kernel
theorem dX7_handDown_49 : decode cX7_handDown 49 = .ok (.iconst (-1), 1) := by decide +kernel
theorem dX7_handDown_50 : decode cX7_handDown 50 = .ok (.putfield 90, 3) := by decide +kernel
theorem dX7_handDown_53 : decode cX7_handDown 53 = .ok (.goto 90, 3) := by decide +kernel
theorem dX7_handDown_56 : decode cX7_handDown 56 = .ok (.iload_n 3, 1) := by decide +kernel
theorem dX7_handDown_57 : decode cX7_handDown 57 = .ok (.iconst 1, 1) := by decide +kernel
theorem dX7_handDown_58 : decode cX7_handDown 58 = .ok (.if_icmp .ne 19, 3) := by decide +kernel
theorem dX7_handDown_61 : decode cX7_handDown 61 = .ok (.aload_n 0, 1) := by decide +kernel
theorem dX7_handDown_62 : decode cX7_handDown 62 = .ok (.getfield 45, 3) := by decide +kernel
theorem dX7_handDown_65 : decode cX7_handDown 65 = .ok (.iload_n 1, 1) := by decide +kernel
theorem dX7_handDown_66 : decode cX7_handDown 66 = .ok (.aaload, 1) := by decide +kernel
theorem dX7_handDown_67 : decode cX7_handDown 67 = .ok (.iload_n 2, 1) := by decide +kernel
theorem dX7_handDown_68 : decode cX7_handDown 68 = .ok (.invokestatic 171, 3) := by decide +kernel
theorem dX7_handDown_71 : decode cX7_handDown 71 = .ok (.putfield 90, 3) := by decide +kernel
theorem dX7_handDown_74 : decode cX7_handDown 74 = .ok (.goto 69, 3) := by decide +kernel
theorem dX7_handDown_77 : decode cX7_handDown 77 = .ok (.iload_n 3, 1) := by decide +kernel
theorem dX7_handDown_78 : decode cX7_handDown 78 = .ok (.iconst 2, 1) := by decide +kernel
theorem dX7_handDown_79 : decode cX7_handDown 79 = .ok (.if_icmp .ne 20, 3) := by decide +kernel
theorem dX7_handDown_82 : decode cX7_handDown 82 = .ok (.aload_n 0, 1) := by decide +kernel
theorem dX7_handDown_83 : decode cX7_handDown 83 = .ok (.getfield 45, 3) := by decide +kernel
theorem dX7_handDown_86 : decode cX7_handDown 86 = .ok (.iload_n 1, 1) := by decide +kernel
theorem dX7_handDown_87 : decode cX7_handDown 87 = .ok (.aaload, 1) := by decide +kernel
theorem dX7_handDown_88 : decode cX7_handDown 88 = .ok (.aload_n 0, 1) := by decide +kernel
theorem dX7_handDown_89 : decode cX7_handDown 89 = .ok (.iload_n 2, 1) := by decide +kernel
theorem dX7_handDown_90 : decode cX7_handDown 90 = .ok (.invokevirtual 174, 3) := by decide +kernel
theorem dX7_handDown_93 : decode cX7_handDown 93 = .ok (.putfield 90, 3) := by decide +kernel
theorem dX7_handDown_96 : decode cX7_handDown 96 = .ok (.goto 47, 3) := by decide +kernel
theorem dX7_handDown_99 : decode cX7_handDown 99 = .ok (.iload_n 3, 1) := by decide +kernel
theorem dX7_handDown_100 : decode cX7_handDown 100 = .ok (.iconst 3, 1) := by decide +kernel
theorem dX7_handDown_101 : decode cX7_handDown 101 = .ok (.if_icmp .ne 29, 3) := by decide +kernel
theorem dX7_handDown_104 : decode cX7_handDown 104 = .ok (.aload_n 0, 1) := by decide +kernel
theorem dX7_handDown_105 : decode cX7_handDown 105 = .ok (.aload_n 0, 1) := by decide +kernel
theorem dX7_handDown_106 : decode cX7_handDown 106 = .ok (.getfield 45, 3) := by decide +kernel
theorem dX7_handDown_109 : decode cX7_handDown 109 = .ok (.iload_n 1, 1) := by decide +kernel
theorem dX7_handDown_110 : decode cX7_handDown 110 = .ok (.aaload, 1) := by decide +kernel
theorem dX7_handDown_111 : decode cX7_handDown 111 = .ok (.iload_n 2, 1) := by decide +kernel
theorem dX7_handDown_112 : decode cX7_handDown 112 = .ok (.invokestatic 131, 3) := by decide +kernel
theorem dX7_handDown_115 : decode cX7_handDown 115 = .ok (.invokevirtual 177, 3) := by decide +kernel
theorem dX7_handDown_118 : decode cX7_handDown 118 = .ok (.ifCond .eq 12, 3) := by decide +kernel
theorem dX7_handDown_121 : decode cX7_handDown 121 = .ok (.aload_n 0, 1) := by decide +kernel
theorem dX7_handDown_122 : decode cX7_handDown 122 = .ok (.iload_n 1, 1) := by decide +kernel
theorem dX7_handDown_123 : decode cX7_handDown 123 = .ok (.iload_n 2, 1) := by decide +kernel
theorem dX7_handDown_124 : decode cX7_handDown 124 = .ok (.invokevirtual 181, 3) := by decide +kernel
theorem dX7_handDown_127 : decode cX7_handDown 127 = .ok (.goto 16, 3) := by decide +kernel
theorem dX7_handDown_130 : decode cX7_handDown 130 = .ok (.aload_n 0, 1) := by decide +kernel
theorem dX7_handDown_131 : decode cX7_handDown 131 = .ok (.getfield 45, 3) := by decide +kernel
theorem dX7_handDown_134 : decode cX7_handDown 134 = .ok (.iload_n 1, 1) := by decide +kernel
theorem dX7_handDown_135 : decode cX7_handDown 135 = .ok (.aaload, 1) := by decide +kernel
theorem dX7_handDown_136 : decode cX7_handDown 136 = .ok (.iload_n 2, 1) := by decide +kernel
theorem dX7_handDown_137 : decode cX7_handDown 137 = .ok (.invokestatic 184, 3) := by decide +kernel
theorem dX7_handDown_140 : decode cX7_handDown 140 = .ok (.putfield 90, 3) := by decide +kernel
theorem dX7_handDown_143 : decode cX7_handDown 143 = .ok (.return_, 1) := by decide +kernel
def fX7_handDown_130 (l0 : Nat) (l1 : Int32) (l2 : Int32) : mM Unit := bGR 7 l0 10 (fun x1 => bAR 14 x1 l1 (fun x2 => bCall (fX7_leastOf l2) (fun x3 => bPI 3 x2 0 x3 (bRet ()))))
set_option maxRecDepth 20000 in
theorem rX7_handDown_130 (v : mE) (d : Nat) (l0 : Nat) (l1 : Int32) (l2 : Int32) : Rz v RX7 cX7_handDown 4 none false emU (d + 3) 130 [(0, vR l0), (1, vI l1), (2, vI l2)] [] (fX7_handDown_130 l0 l1 l2) := by
  unfold fX7_handDown_130
  refine rz_aload_n 131 0 dX7_handDown_130 rfl rfl ?_
  refine rz_gR 134 dX7_handDown_131 rfl rfl fl_X7_45 (fun x1 => ?_)
  refine rz_iload_n 135 1 dX7_handDown_134 rfl rfl ?_
  refine rz_aald 136 dX7_handDown_135 rfl (by decide) (fun x2 => ?_)
  refine rz_iload_n 137 2 dX7_handDown_136 rfl rfl ?_
  refine rz_callS 140 dX7_handDown_137 rfl (tX7_leastOf v (d + 2) l2) rfl rfl ml_X7_184 sm_X7_leastOf in_X7 co_X7_leastOf rfl rfl (fun x3 => ?_)
  refine rz_pI 143 dX7_handDown_140 rfl rfl rfl rfl fl_X7_90 ?_
  exact rz_return rfl rfl dX7_handDown_143
def fX7_handDown_43 (l0 : Nat) (l1 : Int32) : mM Unit := bGR 7 l0 10 (fun x1 => bAR 14 x1 l1 (fun x2 => bPI 3 x2 0 (-1 : Int32) (bRet ())))
set_option maxRecDepth 20000 in
theorem rX7_handDown_43 (v : mE) (d : Nat) (l0 : Nat) (l1 : Int32) : Rz v RX7 cX7_handDown 4 none false emU (d + 3) 43 [(0, vR l0), (1, vI l1)] [] (fX7_handDown_43 l0 l1) := by
  unfold fX7_handDown_43
  refine rz_aload_n 44 0 dX7_handDown_43 rfl rfl ?_
  refine rz_gR 47 dX7_handDown_44 rfl rfl fl_X7_45 (fun x1 => ?_)
  refine rz_iload_n 48 1 dX7_handDown_47 rfl rfl ?_
  refine rz_aald 49 dX7_handDown_48 rfl (by decide) (fun x2 => ?_)
  refine rz_iconst 50 dX7_handDown_49 rfl ci_m1 ?_
  refine rz_pI 53 dX7_handDown_50 rfl rfl rfl rfl fl_X7_90 ?_
  refine rz_goto 143 dX7_handDown_53 rfl ?_
  exact rz_return rfl rfl dX7_handDown_143
def fX7_handDown_33 (l0 : Nat) (l1 : Int32) (l2 : Int32) (s0 : Int32) : mM Unit := bIf (l2 = 0) (fX7_handDown_43 l0 l1) (bIf (s0 = (4 : Int32)) (fX7_handDown_43 l0 l1) (bIf (s0 = (1 : Int32)) (bGR 7 l0 10 (fun x8 => bAR 14 x8 l1 (fun x9 => bCall (fX7_greatestOf l2) (fun x10 => bPI 3 x9 0 x10 (bRet ()))))) (bIf (s0 = (2 : Int32)) (bGR 7 l0 10 (fun x5 => bAR 14 x5 l1 (fun x6 => bCallV 7 l0 (fX7_poorestOf l0 l2) (fun x7 => bPI 3 x6 0 x7 (bRet ()))))) (bIf (s0 = (3 : Int32)) (bGR 7 l0 10 (fun x1 => bAR 14 x1 l1 (fun x2 => bCall (fJ6_bitCount_0f7a4 l2) (fun x3 => bCallV 7 l0 (fX7_isForEach l0 x2 x3) (fun x4 => bIf (x4 = 0) (fX7_handDown_130 l0 l1 l2) (bCallV 7 l0 (fX7_shareOut l0 l1 l2) (fun _ => bRet ()))))))) (fX7_handDown_130 l0 l1 l2)))))
set_option maxRecDepth 20000 in
theorem rX7_handDown_33 (v : mE) (d : Nat) (l0 : Nat) (l1 : Int32) (l2 : Int32) (s0 : Int32) : Rz v RX7 cX7_handDown 4 none false emU (d + 3) 33 [(0, vR l0), (1, vI l1), (2, vI l2)] [vI s0] (fX7_handDown_33 l0 l1 l2 s0) := by
  unfold fX7_handDown_33
  refine rz_istore_n (lv' := [(3, vI s0), (0, vR l0), (1, vI l1), (2, vI l2)]) 34 dX7_handDown_33 rfl rfl rfl ?_
  refine rz_iload_n 35 3 dX7_handDown_34 rfl rfl ?_
  refine rz_if_eq 43 38 dX7_handDown_35 rfl rfl ?_ ?_
  · exact rz_sub [1, 2] rfl (rX7_handDown_43 v d l0 l1)
  · refine rz_iload_n 39 0 dX7_handDown_38 rfl rfl ?_
    refine rz_iconst 40 dX7_handDown_39 rfl ci_4 ?_
    refine rz_icmp_ne 56 43 dX7_handDown_40 rfl rfl ?_ ?_
    · refine rz_iload_n 57 0 dX7_handDown_56 rfl rfl ?_
      refine rz_iconst 58 dX7_handDown_57 rfl ci_1 ?_
      refine rz_icmp_ne 77 61 dX7_handDown_58 rfl rfl ?_ ?_
      · refine rz_iload_n 78 0 dX7_handDown_77 rfl rfl ?_
        refine rz_iconst 79 dX7_handDown_78 rfl ci_2 ?_
        refine rz_icmp_ne 99 82 dX7_handDown_79 rfl rfl ?_ ?_
        · refine rz_iload_n 100 0 dX7_handDown_99 rfl rfl ?_
          refine rz_iconst 101 dX7_handDown_100 rfl ci_3 ?_
          refine rz_icmp_ne 130 104 dX7_handDown_101 rfl rfl ?_ ?_
          · exact rz_sub [1, 2, 3] rfl (rX7_handDown_130 v d l0 l1 l2)
          · refine rz_aload_n 105 1 dX7_handDown_104 rfl rfl ?_
            refine rz_aload_n 106 1 dX7_handDown_105 rfl rfl ?_
            refine rz_gR 109 dX7_handDown_106 rfl rfl fl_X7_45 (fun x1 => ?_)
            refine rz_iload_n 110 2 dX7_handDown_109 rfl rfl ?_
            refine rz_aald 111 dX7_handDown_110 rfl (by decide) (fun x2 => ?_)
            refine rz_iload_n 112 3 dX7_handDown_111 rfl rfl ?_
            refine rz_callS 115 dX7_handDown_112 rfl (tJ6_bitCount_0f7a4 v (d + 2) l2) rfl rfl ml_X7_131 sm_J6_bitCount_0f7a4 in_J6 co_J6_bitCount_0f7a4 rfl rfl (fun x3 => ?_)
            refine rz_callV 118 dX7_handDown_115 rfl (tX7_isForEach v (d + 0) l0 x2 x3) rfl rfl rfl rfl ml_X7_177 im_X7_isForEach se_X7_X7_isForEach in_X7 co_X7_isForEach rfl rfl (fun x4 => ?_)
            refine rz_if_eq 130 121 dX7_handDown_118 rfl rfl ?_ ?_
            · exact rz_sub [1, 2, 3] rfl (rX7_handDown_130 v d l0 l1 l2)
            · refine rz_aload_n 122 1 dX7_handDown_121 rfl rfl ?_
              refine rz_iload_n 123 2 dX7_handDown_122 rfl rfl ?_
              refine rz_iload_n 124 3 dX7_handDown_123 rfl rfl ?_
              refine rz_callV 127 dX7_handDown_124 rfl (tX7_shareOut v (d + 0) l0 l1 l2) rfl rfl rfl rfl ml_X7_181 im_X7_shareOut se_X7_X7_shareOut in_X7 co_X7_shareOut rfl rfl (fun _ => ?_)
              refine rz_goto 143 dX7_handDown_127 rfl ?_
              exact rz_return rfl rfl dX7_handDown_143
        · refine rz_aload_n 83 1 dX7_handDown_82 rfl rfl ?_
          refine rz_gR 86 dX7_handDown_83 rfl rfl fl_X7_45 (fun x5 => ?_)
          refine rz_iload_n 87 2 dX7_handDown_86 rfl rfl ?_
          refine rz_aald 88 dX7_handDown_87 rfl (by decide) (fun x6 => ?_)
          refine rz_aload_n 89 1 dX7_handDown_88 rfl rfl ?_
          refine rz_iload_n 90 3 dX7_handDown_89 rfl rfl ?_
          refine rz_callV 93 dX7_handDown_90 rfl (tX7_poorestOf v (d + 0) l0 l2) rfl rfl rfl rfl ml_X7_174 im_X7_poorestOf se_X7_X7_poorestOf in_X7 co_X7_poorestOf rfl rfl (fun x7 => ?_)
          refine rz_pI 96 dX7_handDown_93 rfl rfl rfl rfl fl_X7_90 ?_
          refine rz_goto 143 dX7_handDown_96 rfl ?_
          exact rz_return rfl rfl dX7_handDown_143
      · refine rz_aload_n 62 1 dX7_handDown_61 rfl rfl ?_
        refine rz_gR 65 dX7_handDown_62 rfl rfl fl_X7_45 (fun x8 => ?_)
        refine rz_iload_n 66 2 dX7_handDown_65 rfl rfl ?_
        refine rz_aald 67 dX7_handDown_66 rfl (by decide) (fun x9 => ?_)
        refine rz_iload_n 68 3 dX7_handDown_67 rfl rfl ?_
        refine rz_callS 71 dX7_handDown_68 rfl (tX7_greatestOf v (d + 2) l2) rfl rfl ml_X7_171 sm_X7_greatestOf in_X7 co_X7_greatestOf rfl rfl (fun x10 => ?_)
        refine rz_pI 74 dX7_handDown_71 rfl rfl rfl rfl fl_X7_90 ?_
        refine rz_goto 143 dX7_handDown_74 rfl ?_
        exact rz_return rfl rfl dX7_handDown_143
    · exact rz_sub [1, 2] rfl (rX7_handDown_43 v d l0 l1)
def fX7_handDown (l0 : Nat) (l1 : Int32) (l2 : Int32) : mM Unit := bGR 7 l0 10 (fun x1 => bAR 14 x1 l1 (fun x2 => bCallV 7 l0 (fX7_findFacts l0 x2 l2) (fun _ => bGR 7 l0 16 (fun x3 => bIf (¬ x3 = 0) (bGR 7 l0 16 (fun x4 => bGR 7 l0 15 (fun x5 => bCallV 0 x4 (fX0_whomFor x4 x5) (fun x6 => fX7_handDown_33 l0 l1 l2 x6)))) (fX7_handDown_33 l0 l1 l2 (0 : Int32))))))
set_option maxRecDepth 20000 in
theorem rX7_handDown (v : mE) (d : Nat) (l0 : Nat) (l1 : Int32) (l2 : Int32) : Rz v RX7 cX7_handDown 4 none false emU (d + 3) 0 [(0, vR l0), (1, vI l1), (2, vI l2)] [] (fX7_handDown l0 l1 l2) := by
  unfold fX7_handDown
  refine rz_aload_n 1 0 dX7_handDown_0 rfl rfl ?_
  refine rz_aload_n 2 0 dX7_handDown_1 rfl rfl ?_
  refine rz_gR 5 dX7_handDown_2 rfl rfl fl_X7_45 (fun x1 => ?_)
  refine rz_iload_n 6 1 dX7_handDown_5 rfl rfl ?_
  refine rz_aald 7 dX7_handDown_6 rfl (by decide) (fun x2 => ?_)
  refine rz_iload_n 8 2 dX7_handDown_7 rfl rfl ?_
  refine rz_callV 11 dX7_handDown_8 rfl (tX7_findFacts v (d + 0) l0 x2 l2) rfl rfl rfl rfl ml_X7_161 im_X7_findFacts se_X7_X7_findFacts in_X7 co_X7_findFacts rfl rfl (fun _ => ?_)
  refine rz_aload_n 12 0 dX7_handDown_11 rfl rfl ?_
  refine rz_gR 15 dX7_handDown_12 rfl rfl fl_X7_64 (fun x3 => ?_)
  refine rz_ifnonnull 22 18 dX7_handDown_15 rfl rfl ?_ ?_
  · refine rz_aload_n 23 0 dX7_handDown_22 rfl rfl ?_
    refine rz_gR 26 dX7_handDown_23 rfl rfl fl_X7_64 (fun x4 => ?_)
    refine rz_aload_n 27 0 dX7_handDown_26 rfl rfl ?_
    refine rz_gR 30 dX7_handDown_27 rfl rfl fl_X7_61 (fun x5 => ?_)
    refine rz_callV 33 dX7_handDown_30 rfl (tX0_whomFor v (d + 1) x4 x5) rfl rfl rfl rfl ml_X7_165 im_X0_whomFor se_X0_X0_whomFor in_X0 co_X0_whomFor rfl rfl (fun x6 => ?_)
    exact rz_sub [0, 1, 2] rfl (rX7_handDown_33 v d l0 l1 l2 x6)
  · refine rz_iconst 19 dX7_handDown_18 rfl ci_0 ?_
    refine rz_goto 33 dX7_handDown_19 rfl ?_
    exact rz_sub [0, 1, 2] rfl (rX7_handDown_33 v d l0 l1 l2 (0 : Int32))
theorem tX7_handDown (v : mE) (d : Nat) (l0 : Nat) (l1 : Int32) (l2 : Int32) : Mt v yX7_handDown cX7_handDown 4 none emU (d + 3) [vR l0, vI l1, vI l2] (fX7_handDown l0 l1 l2) := mt_of rfl rfl (fun h => by cases h) rfl rfl (rX7_handDown v d l0 l1 l2)
theorem dX7_bury_0 : decode cX7_bury 0 = .ok (.iconst 0, 1) := by decide +kernel
theorem dX7_bury_1 : decode cX7_bury 1 = .ok (.istore_n 2, 1) := by decide +kernel
theorem dX7_bury_2 : decode cX7_bury 2 = .ok (.iload_n 2, 1) := by decide +kernel
theorem dX7_bury_3 : decode cX7_bury 3 = .ok (.bipush 12, 2) := by decide +kernel
theorem dX7_bury_5 : decode cX7_bury 5 = .ok (.if_icmp .ge 32, 3) := by decide +kernel
theorem dX7_bury_8 : decode cX7_bury 8 = .ok (.aload_n 0, 1) := by decide +kernel
theorem dX7_bury_9 : decode cX7_bury 9 = .ok (.getfield 45, 3) := by decide +kernel
theorem dX7_bury_12 : decode cX7_bury 12 = .ok (.iload_n 2, 1) := by decide +kernel
theorem dX7_bury_13 : decode cX7_bury 13 = .ok (.aaload, 1) := by decide +kernel
theorem dX7_bury_14 : decode cX7_bury 14 = .ok (.getfield 151, 3) := by decide +kernel
theorem dX7_bury_17 : decode cX7_bury 17 = .ok (.iload_n 1, 1) := by decide +kernel
theorem dX7_bury_18 : decode cX7_bury 18 = .ok (.if_icmp .ne 13, 3) := by decide +kernel
theorem dX7_bury_21 : decode cX7_bury 21 = .ok (.aload_n 0, 1) := by decide +kernel
theorem dX7_bury_22 : decode cX7_bury 22 = .ok (.getfield 45, 3) := by decide +kernel
theorem dX7_bury_25 : decode cX7_bury 25 = .ok (.iload_n 2, 1) := by decide +kernel
theorem dX7_bury_26 : decode cX7_bury 26 = .ok (.aaload, 1) := by decide +kernel
theorem dX7_bury_27 : decode cX7_bury 27 = .ok (.iconst (-1), 1) := by decide +kernel
theorem dX7_bury_28 : decode cX7_bury 28 = .ok (.putfield 151, 3) := by decide +kernel
theorem dX7_bury_31 : decode cX7_bury 31 = .ok (.iinc 2 1, 3) := by decide +kernel
theorem dX7_bury_34 : decode cX7_bury 34 = .ok (.goto (-32), 3) := by decide +kernel
theorem dX7_bury_37 : decode cX7_bury 37 = .ok (.aload_n 0, 1) := by decide +kernel
theorem dX7_bury_38 : decode cX7_bury 38 = .ok (.iload_n 1, 1) := by decide +kernel
theorem dX7_bury_39 : decode cX7_bury 39 = .ok (.invokevirtual 154, 3) := by decide +kernel
theorem dX7_bury_42 : decode cX7_bury 42 = .ok (.istore_n 2, 1) := by decide +kernel
theorem dX7_bury_43 : decode cX7_bury 43 = .ok (.iconst 0, 1) := by decide +kernel
theorem dX7_bury_44 : decode cX7_bury 44 = .ok (.istore_n 3, 1) := by decide +kernel
theorem dX7_bury_45 : decode cX7_bury 45 = .ok (.iload_n 3, 1) := by decide +kernel
theorem dX7_bury_46 : decode cX7_bury 46 = .ok (.bipush 12, 2) := by decide +kernel
theorem dX7_bury_48 : decode cX7_bury 48 = .ok (.if_icmp .ge 50, 3) := by decide +kernel
theorem dX7_bury_51 : decode cX7_bury 51 = .ok (.aload_n 0, 1) := by decide +kernel
theorem dX7_bury_52 : decode cX7_bury 52 = .ok (.getfield 45, 3) := by decide +kernel
theorem dX7_bury_55 : decode cX7_bury 55 = .ok (.iload_n 3, 1) := by decide +kernel
theorem dX7_bury_56 : decode cX7_bury 56 = .ok (.aaload, 1) := by decide +kernel
theorem dX7_bury_57 : decode cX7_bury 57 = .ok (.invokevirtual 86, 3) := by decide +kernel
theorem dX7_bury_60 : decode cX7_bury 60 = .ok (.ifCond .eq 32, 3) := by decide +kernel
theorem dX7_bury_63 : decode cX7_bury 63 = .ok (.aload_n 0, 1) := by decide +kernel
theorem dX7_bury_64 : decode cX7_bury 64 = .ok (.getfield 45, 3) := by decide +kernel
theorem dX7_bury_67 : decode cX7_bury 67 = .ok (.iload_n 3, 1) := by decide +kernel
theorem dX7_bury_68 : decode cX7_bury 68 = .ok (.aaload, 1) := by decide +kernel
theorem dX7_bury_69 : decode cX7_bury 69 = .ok (.getfield 90, 3) := by decide +kernel
theorem dX7_bury_72 : decode cX7_bury 72 = .ok (.iload_n 1, 1) := by decide +kernel
theorem dX7_bury_73 : decode cX7_bury 73 = .ok (.if_icmp .ne 19, 3) := by decide +kernel
theorem dX7_bury_76 : decode cX7_bury 76 = .ok (.aload_n 0, 1) := by decide +kernel
theorem dX7_bury_77 : decode cX7_bury 77 = .ok (.getfield 45, 3) := by decide +kernel
theorem dX7_bury_80 : decode cX7_bury 80 = .ok (.iload_n 3, 1) := by decide +kernel
theorem dX7_bury_81 : decode cX7_bury 81 = .ok (.aaload, 1) := by decide +kernel
theorem dX7_bury_82 : decode cX7_bury 82 = .ok (.iconst (-1), 1) := by decide +kernel
theorem dX7_bury_83 : decode cX7_bury 83 = .ok (.putfield 151, 3) := by decide +kernel
theorem dX7_bury_86 : decode cX7_bury 86 = .ok (.aload_n 0, 1) := by decide +kernel
theorem dX7_bury_87 : decode cX7_bury 87 = .ok (.iload_n 3, 1) := by decide +kernel
theorem dX7_bury_88 : decode cX7_bury 88 = .ok (.iload_n 2, 1) := by decide +kernel
theorem dX7_bury_89 : decode cX7_bury 89 = .ok (.invokevirtual 157, 3) := by decide +kernel
theorem dX7_bury_92 : decode cX7_bury 92 = .ok (.iinc 3 1, 3) := by decide +kernel
theorem dX7_bury_95 : decode cX7_bury 95 = .ok (.goto (-50), 3) := by decide +kernel
theorem dX7_bury_98 : decode cX7_bury 98 = .ok (.return_, 1) := by decide +kernel
def fX7_bury_45 : Nat → Nat → Int32 → Int32 → Int32 → mM Unit
  | 0 => fun _ _ _ _ => fun _ => none
  | n + 1 => fun l0 l1 l2 l3 => let r45 := fX7_bury_45 n; bIf ((12 : Int32) ≤ l3) (bRet ()) (bGR 7 l0 10 (fun x1 => bAR 14 x1 l3 (fun x2 => bCallV 3 x2 (fX3_isThere x2) (fun x3 => bIf (x3 = 0) (r45 l0 l1 l2 (l3 + 1)) (bGR 7 l0 10 (fun x4 => bAR 14 x4 l3 (fun x5 => bGI 3 x5 0 (fun x6 => bIf (x6 = l1) (bGR 7 l0 10 (fun x7 => bAR 14 x7 l3 (fun x8 => bPI 3 x8 1 (-1 : Int32) (bCallV 7 l0 (fX7_handDown l0 l3 l2) (fun _ => r45 l0 l1 l2 (l3 + 1)))))) (r45 l0 l1 l2 (l3 + 1))))))))))
theorem qX7_bury_45  (n : Nat) (l0 : Nat) (l1 : Int32) (l2 : Int32) (l3 : Int32) : fX7_bury_45 (n + 1) l0 l1 l2 l3 = bIf ((12 : Int32) ≤ l3) (bRet ()) (bGR 7 l0 10 (fun x1 => bAR 14 x1 l3 (fun x2 => bCallV 3 x2 (fX3_isThere x2) (fun x3 => bIf (x3 = 0) ((fX7_bury_45 n) l0 l1 l2 (l3 + 1)) (bGR 7 l0 10 (fun x4 => bAR 14 x4 l3 (fun x5 => bGI 3 x5 0 (fun x6 => bIf (x6 = l1) (bGR 7 l0 10 (fun x7 => bAR 14 x7 l3 (fun x8 => bPI 3 x8 1 (-1 : Int32) (bCallV 7 l0 (fX7_handDown l0 l3 l2) (fun _ => (fX7_bury_45 n) l0 l1 l2 (l3 + 1)))))) ((fX7_bury_45 n) l0 l1 l2 (l3 + 1)))))))))) := rfl
set_option maxRecDepth 20000 in
theorem rX7_bury_45 (v : mE) (d : Nat) : ∀ (n : Nat) (l0 : Nat) (l1 : Int32) (l2 : Int32) (l3 : Int32), Rz v RX7 cX7_bury 4 none false emU (d + 4) 45 [(0, vR l0), (1, vI l1), (2, vI l2), (3, vI l3)] [] (fX7_bury_45 n l0 l1 l2 l3)
  | 0, _, _, _, _ => fun _ _ _ hm => by cases hm
  | n + 1, l0, l1, l2, l3 => by
    have h45 := rX7_bury_45 v d n
    unfold fX7_bury_45
    generalize fX7_bury_45 n = r45 at h45 ⊢
    refine rz_iload_n 46 3 dX7_bury_45 rfl rfl ?_
    refine rz_bipush 48 dX7_bury_46 rfl cb_12 ?_
    refine rz_icmp_ge 98 51 dX7_bury_48 rfl rfl ?_ ?_
    · exact rz_return rfl rfl dX7_bury_98
    · refine rz_aload_n 52 0 dX7_bury_51 rfl rfl ?_
      refine rz_gR 55 dX7_bury_52 rfl rfl fl_X7_45 (fun x1 => ?_)
      refine rz_iload_n 56 3 dX7_bury_55 rfl rfl ?_
      refine rz_aald 57 dX7_bury_56 rfl (by decide) (fun x2 => ?_)
      refine rz_callV 60 dX7_bury_57 rfl (tX3_isThere v (d + 3) x2) rfl rfl rfl rfl ml_X7_86 im_X3_isThere se_X3_X3_isThere in_X3 co_X3_isThere rfl rfl (fun x3 => ?_)
      refine rz_if_eq 92 63 dX7_bury_60 rfl rfl ?_ ?_
      · refine rz_iinc (lv' := [(3, vI (l3 + 1)), (0, vR l0), (1, vI l1), (2, vI l2)]) 95 3 dX7_bury_92 rfl rfl (cn_1 _) rfl rfl ?_
        refine rz_goto 45 dX7_bury_95 rfl ?_
        exact rz_sub [1, 2, 3, 0] rfl (h45 l0 l1 l2 (l3 + 1))
      · refine rz_aload_n 64 0 dX7_bury_63 rfl rfl ?_
        refine rz_gR 67 dX7_bury_64 rfl rfl fl_X7_45 (fun x4 => ?_)
        refine rz_iload_n 68 3 dX7_bury_67 rfl rfl ?_
        refine rz_aald 69 dX7_bury_68 rfl (by decide) (fun x5 => ?_)
        refine rz_gI 72 dX7_bury_69 rfl rfl fl_X7_90 (fun x6 => ?_)
        refine rz_iload_n 73 1 dX7_bury_72 rfl rfl ?_
        refine rz_icmp_ne 92 76 dX7_bury_73 rfl rfl ?_ ?_
        · refine rz_iinc (lv' := [(3, vI (l3 + 1)), (0, vR l0), (1, vI l1), (2, vI l2)]) 95 3 dX7_bury_92 rfl rfl (cn_1 _) rfl rfl ?_
          refine rz_goto 45 dX7_bury_95 rfl ?_
          exact rz_sub [1, 2, 3, 0] rfl (h45 l0 l1 l2 (l3 + 1))
        · refine rz_aload_n 77 0 dX7_bury_76 rfl rfl ?_
          refine rz_gR 80 dX7_bury_77 rfl rfl fl_X7_45 (fun x7 => ?_)
          refine rz_iload_n 81 3 dX7_bury_80 rfl rfl ?_
          refine rz_aald 82 dX7_bury_81 rfl (by decide) (fun x8 => ?_)
          refine rz_iconst 83 dX7_bury_82 rfl ci_m1 ?_
          refine rz_pI 86 dX7_bury_83 rfl rfl rfl rfl fl_X7_151 ?_
          refine rz_aload_n 87 0 dX7_bury_86 rfl rfl ?_
          refine rz_iload_n 88 3 dX7_bury_87 rfl rfl ?_
          refine rz_iload_n 89 2 dX7_bury_88 rfl rfl ?_
          refine rz_callV 92 dX7_bury_89 rfl (tX7_handDown v (d + 0) l0 l3 l2) rfl rfl rfl rfl ml_X7_157 im_X7_handDown se_X7_X7_handDown in_X7 co_X7_handDown rfl rfl (fun _ => ?_)
          refine rz_iinc (lv' := [(3, vI (l3 + 1)), (0, vR l0), (1, vI l1), (2, vI l2)]) 95 3 dX7_bury_92 rfl rfl (cn_1 _) rfl rfl ?_
          refine rz_goto 45 dX7_bury_95 rfl ?_
          exact rz_sub [1, 2, 3, 0] rfl (h45 l0 l1 l2 (l3 + 1))
def fX7_bury_37 (l0 : Nat) (l1 : Int32) : mM Unit := bCallV 7 l0 (fX7_heirSet l0 l1) (fun x1 => fX7_bury_45 fu l0 l1 x1 (0 : Int32))
set_option maxRecDepth 20000 in
theorem rX7_bury_37 (v : mE) (d : Nat) (l0 : Nat) (l1 : Int32) : Rz v RX7 cX7_bury 4 none false emU (d + 4) 37 [(0, vR l0), (1, vI l1)] [] (fX7_bury_37 l0 l1) := by
  unfold fX7_bury_37
  refine rz_aload_n 38 0 dX7_bury_37 rfl rfl ?_
  refine rz_iload_n 39 1 dX7_bury_38 rfl rfl ?_
  refine rz_callV 42 dX7_bury_39 rfl (tX7_heirSet v (d + 2) l0 l1) rfl rfl rfl rfl ml_X7_154 im_X7_heirSet se_X7_X7_heirSet in_X7 co_X7_heirSet rfl rfl (fun x1 => ?_)
  refine rz_istore_n (lv' := [(2, vI x1), (0, vR l0), (1, vI l1)]) 43 dX7_bury_42 rfl rfl rfl ?_
  refine rz_iconst 44 dX7_bury_43 rfl ci_0 ?_
  refine rz_istore_n (lv' := [(3, vI (0 : Int32)), (2, vI x1), (0, vR l0), (1, vI l1)]) 45 dX7_bury_44 rfl rfl rfl ?_
  exact rz_sub [2, 3, 1, 0] rfl (rX7_bury_45 v d fu l0 l1 x1 (0 : Int32))
def fX7_bury_2 : Nat → Nat → Int32 → Int32 → mM Unit
  | 0 => fun _ _ _ => fun _ => none
  | n + 1 => fun l0 l1 l2 => let r2 := fX7_bury_2 n; bIf ((12 : Int32) ≤ l2) (fX7_bury_37 l0 l1) (bGR 7 l0 10 (fun x1 => bAR 14 x1 l2 (fun x2 => bGI 3 x2 1 (fun x3 => bIf (x3 = l1) (bGR 7 l0 10 (fun x4 => bAR 14 x4 l2 (fun x5 => bPI 3 x5 1 (-1 : Int32) (r2 l0 l1 (l2 + 1))))) (r2 l0 l1 (l2 + 1))))))
theorem qX7_bury_2  (n : Nat) (l0 : Nat) (l1 : Int32) (l2 : Int32) : fX7_bury_2 (n + 1) l0 l1 l2 = bIf ((12 : Int32) ≤ l2) (fX7_bury_37 l0 l1) (bGR 7 l0 10 (fun x1 => bAR 14 x1 l2 (fun x2 => bGI 3 x2 1 (fun x3 => bIf (x3 = l1) (bGR 7 l0 10 (fun x4 => bAR 14 x4 l2 (fun x5 => bPI 3 x5 1 (-1 : Int32) ((fX7_bury_2 n) l0 l1 (l2 + 1))))) ((fX7_bury_2 n) l0 l1 (l2 + 1)))))) := rfl
set_option maxRecDepth 20000 in
theorem rX7_bury_2 (v : mE) (d : Nat) : ∀ (n : Nat) (l0 : Nat) (l1 : Int32) (l2 : Int32), Rz v RX7 cX7_bury 4 none false emU (d + 4) 2 [(0, vR l0), (1, vI l1), (2, vI l2)] [] (fX7_bury_2 n l0 l1 l2)
  | 0, _, _, _ => fun _ _ _ hm => by cases hm
  | n + 1, l0, l1, l2 => by
    have h2 := rX7_bury_2 v d n
    unfold fX7_bury_2
    generalize fX7_bury_2 n = r2 at h2 ⊢
    refine rz_iload_n 3 2 dX7_bury_2 rfl rfl ?_
    refine rz_bipush 5 dX7_bury_3 rfl cb_12 ?_
    refine rz_icmp_ge 37 8 dX7_bury_5 rfl rfl ?_ ?_
    · exact rz_sub [0, 1] rfl (rX7_bury_37 v d l0 l1)
    · refine rz_aload_n 9 0 dX7_bury_8 rfl rfl ?_
      refine rz_gR 12 dX7_bury_9 rfl rfl fl_X7_45 (fun x1 => ?_)
      refine rz_iload_n 13 2 dX7_bury_12 rfl rfl ?_
      refine rz_aald 14 dX7_bury_13 rfl (by decide) (fun x2 => ?_)
      refine rz_gI 17 dX7_bury_14 rfl rfl fl_X7_151 (fun x3 => ?_)
      refine rz_iload_n 18 1 dX7_bury_17 rfl rfl ?_
      refine rz_icmp_ne 31 21 dX7_bury_18 rfl rfl ?_ ?_
      · refine rz_iinc (lv' := [(2, vI (l2 + 1)), (0, vR l0), (1, vI l1)]) 34 2 dX7_bury_31 rfl rfl (cn_1 _) rfl rfl ?_
        refine rz_goto 2 dX7_bury_34 rfl ?_
        exact rz_sub [1, 2, 0] rfl (h2 l0 l1 (l2 + 1))
      · refine rz_aload_n 22 0 dX7_bury_21 rfl rfl ?_
        refine rz_gR 25 dX7_bury_22 rfl rfl fl_X7_45 (fun x4 => ?_)
        refine rz_iload_n 26 2 dX7_bury_25 rfl rfl ?_
        refine rz_aald 27 dX7_bury_26 rfl (by decide) (fun x5 => ?_)
        refine rz_iconst 28 dX7_bury_27 rfl ci_m1 ?_
        refine rz_pI 31 dX7_bury_28 rfl rfl rfl rfl fl_X7_151 ?_
        refine rz_iinc (lv' := [(2, vI (l2 + 1)), (0, vR l0), (1, vI l1)]) 34 2 dX7_bury_31 rfl rfl (cn_1 _) rfl rfl ?_
        refine rz_goto 2 dX7_bury_34 rfl ?_
        exact rz_sub [1, 2, 0] rfl (h2 l0 l1 (l2 + 1))
def fX7_bury (l0 : Nat) (l1 : Int32) : mM Unit := fX7_bury_2 fu l0 l1 (0 : Int32)
set_option maxRecDepth 20000 in
theorem rX7_bury (v : mE) (d : Nat) (l0 : Nat) (l1 : Int32) : Rz v RX7 cX7_bury 4 none false emU (d + 4) 0 [(0, vR l0), (1, vI l1)] [] (fX7_bury l0 l1) := by
  unfold fX7_bury
  refine rz_iconst 1 dX7_bury_0 rfl ci_0 ?_
  refine rz_istore_n (lv' := [(2, vI (0 : Int32)), (0, vR l0), (1, vI l1)]) 2 dX7_bury_1 rfl rfl rfl ?_
  exact rz_sub [1, 2, 0] rfl (rX7_bury_2 v d fu l0 l1 (0 : Int32))
theorem tX7_bury (v : mE) (d : Nat) (l0 : Nat) (l1 : Int32) : Mt v yX7_bury cX7_bury 4 none emU (d + 4) [vR l0, vI l1] (fX7_bury l0 l1) := mt_of rfl rfl (fun h => by cases h) rfl rfl (rX7_bury v d l0 l1)
theorem dX7_passYear_0 : decode cX7_passYear 0 = .ok (.aload_n 0, 1) := by decide +kernel
theorem dX7_passYear_1 : decode cX7_passYear 1 = .ok (.getfield 9, 3) := by decide +kernel
theorem dX7_passYear_4 : decode cX7_passYear 4 = .ok (.sipush 200, 3) := by decide +kernel
theorem dX7_passYear_7 : decode cX7_passYear 7 = .ok (.if_icmp .lt 4, 3) := by decide +kernel
theorem dX7_passYear_10 : decode cX7_passYear 10 = .ok (.return_, 1) := by decide +kernel
theorem dX7_passYear_11 : decode cX7_passYear 11 = .ok (.aload_n 0, 1) := by decide +kernel
theorem dX7_passYear_12 : decode cX7_passYear 12 = .ok (.dup, 1) := by decide +kernel
theorem dX7_passYear_13 : decode cX7_passYear 13 = .ok (.getfield 9, 3) := by decide +kernel
theorem dX7_passYear_16 : decode cX7_passYear 16 = .ok (.iconst 1, 1) := by decide +kernel
theorem dX7_passYear_17 : decode cX7_passYear 17 = .ok (.iadd, 1) := by decide +kernel
theorem dX7_passYear_18 : decode cX7_passYear 18 = .ok (.putfield 9, 3) := by decide +kernel
theorem dX7_passYear_21 : decode cX7_passYear 21 = .ok (.aload_n 0, 1) := by decide +kernel
theorem dX7_passYear_22 : decode cX7_passYear 22 = .ok (.sipush 999, 3) := by decide +kernel
theorem dX7_passYear_25 : decode cX7_passYear 25 = .ok (.aload_n 0, 1) := by decide +kernel
theorem dX7_passYear_26 : decode cX7_passYear 26 = .ok (.getfield 15, 3) := by decide +kernel
theorem dX7_passYear_29 : decode cX7_passYear 29 = .ok (.aload_n 0, 1) := by decide +kernel
theorem dX7_passYear_30 : decode cX7_passYear 30 = .ok (.getfield 21, 3) := by decide +kernel
theorem dX7_passYear_33 : decode cX7_passYear 33 = .ok (.iadd, 1) := by decide +kernel
theorem dX7_passYear_34 : decode cX7_passYear 34 = .ok (.invokestatic 143, 3) := by decide +kernel
theorem dX7_passYear_37 : decode cX7_passYear 37 = .ok (.putfield 15, 3) := by decide +kernel
theorem dX7_passYear_40 : decode cX7_passYear 40 = .ok (.aload_n 0, 1) := by decide +kernel
theorem dX7_passYear_41 : decode cX7_passYear 41 = .ok (.getfield 24, 3) := by decide +kernel
theorem dX7_passYear_44 : decode cX7_passYear 44 = .ok (.ifCond .le 56, 3) := by decide +kernel
theorem dX7_passYear_47 : decode cX7_passYear 47 = .ok (.aload_n 0, 1) := by decide +kernel
theorem dX7_passYear_48 : decode cX7_passYear 48 = .ok (.aload_n 0, 1) := by decide +kernel
theorem dX7_passYear_49 : decode cX7_passYear 49 = .ok (.getfield 30, 3) := by decide +kernel
theorem dX7_passYear_52 : decode cX7_passYear 52 = .ok (.sipush 2801, 3) := by decide +kernel
theorem dX7_passYear_55 : decode cX7_passYear 55 = .ok (.imul, 1) := by decide +kernel
theorem dX7_passYear_56 : decode cX7_passYear 56 = .ok (.sipush 9011, 3) := by decide +kernel
theorem dX7_passYear_59 : decode cX7_passYear 59 = .ok (.iadd, 1) := by decide +kernel
theorem dX7_passYear_60 : decode cX7_passYear 60 = .ok (.ldc 146, 2) := by decide +kernel
theorem dX7_passYear_62 : decode cX7_passYear 62 = .ok (.irem, 1) := by decide +kernel
theorem dX7_passYear_63 : decode cX7_passYear 63 = .ok (.putfield 30, 3) := by decide +kernel
theorem dX7_passYear_66 : decode cX7_passYear 66 = .ok (.aload_n 0, 1) := by decide +kernel
theorem dX7_passYear_67 : decode cX7_passYear 67 = .ok (.getfield 30, 3) := by decide +kernel
theorem dX7_passYear_70 : decode cX7_passYear 70 = .ok (.bipush 8, 2) := by decide +kernel
theorem dX7_passYear_72 : decode cX7_passYear 72 = .ok (.idiv, 1) := by decide +kernel
theorem dX7_passYear_73 : decode cX7_passYear 73 = .ok (.bipush 16, 2) := by decide +kernel
theorem dX7_passYear_75 : decode cX7_passYear 75 = .ok (.irem, 1) := by decide +kernel
theorem dX7_passYear_76 : decode cX7_passYear 76 = .ok (.aload_n 0, 1) := by decide +kernel
theorem dX7_passYear_77 : decode cX7_passYear 77 = .ok (.getfield 24, 3) := by decide +kernel
theorem dX7_passYear_80 : decode cX7_passYear 80 = .ok (.if_icmp .ge 20, 3) := by decide +kernel
theorem dX7_passYear_83 : decode cX7_passYear 83 = .ok (.aload_n 0, 1) := by decide +kernel
theorem dX7_passYear_84 : decode cX7_passYear 84 = .ok (.iconst 0, 1) := by decide +kernel
theorem dX7_passYear_85 : decode cX7_passYear 85 = .ok (.aload_n 0, 1) := by decide +kernel
theorem dX7_passYear_86 : decode cX7_passYear 86 = .ok (.getfield 15, 3) := by decide +kernel
theorem dX7_passYear_89 : decode cX7_passYear 89 = .ok (.aload_n 0, 1) := by decide +kernel
theorem dX7_passYear_90 : decode cX7_passYear 90 = .ok (.getfield 27, 3) := by decide +kernel
theorem dX7_passYear_93 : decode cX7_passYear 93 = .ok (.isub, 1) := by decide +kernel
theorem dX7_passYear_94 : decode cX7_passYear 94 = .ok (.invokestatic 109, 3) := by decide +kernel
theorem dX7_passYear_97 : decode cX7_passYear 97 = .ok (.putfield 15, 3) := by decide +kernel
theorem dX7_passYear_100 : decode cX7_passYear 100 = .ok (.iconst 0, 1) := by decide +kernel
theorem dX7_passYear_101 : decode cX7_passYear 101 = .ok (.istore_n 1, 1) := by decide +kernel
theorem dX7_passYear_102 : decode cX7_passYear 102 = .ok (.iload_n 1, 1) := by decide +kernel
theorem dX7_passYear_103 : decode cX7_passYear 103 = .ok (.aload_n 0, 1) := by decide +kernel
theorem dX7_passYear_104 : decode cX7_passYear 104 = .ok (.getfield 33, 3) := by decide +kernel
theorem dX7_passYear_107 : decode cX7_passYear 107 = .ok (.if_icmp .ge 27, 3) := by decide +kernel
theorem dX7_passYear_110 : decode cX7_passYear 110 = .ok (.aload_n 0, 1) := by decide +kernel
theorem dX7_passYear_111 : decode cX7_passYear 111 = .ok (.getfield 40, 3) := by decide +kernel
theorem dX7_passYear_114 : decode cX7_passYear 114 = .ok (.iload_n 1, 1) := by decide +kernel
theorem dX7_passYear_115 : decode cX7_passYear 115 = .ok (.iaload, 1) := by decide +kernel
theorem dX7_passYear_116 : decode cX7_passYear 116 = .ok (.aload_n 0, 1) := by decide +kernel
theorem dX7_passYear_117 : decode cX7_passYear 117 = .ok (.getfield 9, 3) := by decide +kernel
theorem dX7_passYear_120 : decode cX7_passYear 120 = .ok (.if_icmp .ne 8, 3) := by decide +kernel
theorem dX7_passYear_123 : decode cX7_passYear 123 = .ok (.aload_n 0, 1) := by decide +kernel
theorem dX7_passYear_124 : decode cX7_passYear 124 = .ok (.iload_n 1, 1) := by decide +kernel
theorem dX7_passYear_125 : decode cX7_passYear 125 = .ok (.invokevirtual 147, 3) := by decide +kernel
theorem dX7_passYear_128 : decode cX7_passYear 128 = .ok (.iinc 1 1, 3) := by decide +kernel
theorem dX7_passYear_131 : decode cX7_passYear 131 = .ok (.goto (-29), 3) := by decide +kernel
theorem dX7_passYear_134 : decode cX7_passYear 134 = .ok (.return_, 1) := by decide +kernel
def fX7_passYear_102 : Nat → Nat → Int32 → mM Unit
  | 0 => fun _ _ => fun _ => none
  | n + 1 => fun l0 l1 => let r102 := fX7_passYear_102 n; bGI 7 l0 7 (fun x1 => bIf (x1 ≤ l1) (bRet ()) (bGR 7 l0 9 (fun x2 => bAI 11 x2 l1 (fun x3 => bGI 7 l0 0 (fun x4 => bIf (x3 = x4) (bCallV 7 l0 (fX7_bury l0 l1) (fun _ => r102 l0 (l1 + 1))) (r102 l0 (l1 + 1)))))))
theorem qX7_passYear_102  (n : Nat) (l0 : Nat) (l1 : Int32) : fX7_passYear_102 (n + 1) l0 l1 = bGI 7 l0 7 (fun x1 => bIf (x1 ≤ l1) (bRet ()) (bGR 7 l0 9 (fun x2 => bAI 11 x2 l1 (fun x3 => bGI 7 l0 0 (fun x4 => bIf (x3 = x4) (bCallV 7 l0 (fX7_bury l0 l1) (fun _ => (fX7_passYear_102 n) l0 (l1 + 1))) ((fX7_passYear_102 n) l0 (l1 + 1))))))) := rfl
set_option maxRecDepth 20000 in
theorem rX7_passYear_102 (v : mE) (d : Nat) : ∀ (n : Nat) (l0 : Nat) (l1 : Int32), Rz v RX7 cX7_passYear 2 none false emU (d + 5) 102 [(0, vR l0), (1, vI l1)] [] (fX7_passYear_102 n l0 l1)
  | 0, _, _ => fun _ _ _ hm => by cases hm
  | n + 1, l0, l1 => by
    have h102 := rX7_passYear_102 v d n
    unfold fX7_passYear_102
    generalize fX7_passYear_102 n = r102 at h102 ⊢
    refine rz_iload_n 103 1 dX7_passYear_102 rfl rfl ?_
    refine rz_aload_n 104 0 dX7_passYear_103 rfl rfl ?_
    refine rz_gI 107 dX7_passYear_104 rfl rfl fl_X7_33 (fun x1 => ?_)
    refine rz_icmp_ge 134 110 dX7_passYear_107 rfl rfl ?_ ?_
    · exact rz_return rfl rfl dX7_passYear_134
    · refine rz_aload_n 111 0 dX7_passYear_110 rfl rfl ?_
      refine rz_gR 114 dX7_passYear_111 rfl rfl fl_X7_40 (fun x2 => ?_)
      refine rz_iload_n 115 1 dX7_passYear_114 rfl rfl ?_
      refine rz_iald 116 dX7_passYear_115 rfl (fun x3 => ?_)
      refine rz_aload_n 117 0 dX7_passYear_116 rfl rfl ?_
      refine rz_gI 120 dX7_passYear_117 rfl rfl fl_X7_9 (fun x4 => ?_)
      refine rz_icmp_ne 128 123 dX7_passYear_120 rfl rfl ?_ ?_
      · refine rz_iinc (lv' := [(1, vI (l1 + 1)), (0, vR l0)]) 131 1 dX7_passYear_128 rfl rfl (cn_1 _) rfl rfl ?_
        refine rz_goto 102 dX7_passYear_131 rfl ?_
        exact rz_sub [1, 0] rfl (h102 l0 (l1 + 1))
      · refine rz_aload_n 124 0 dX7_passYear_123 rfl rfl ?_
        refine rz_iload_n 125 1 dX7_passYear_124 rfl rfl ?_
        refine rz_callV 128 dX7_passYear_125 rfl (tX7_bury v (d + 0) l0 l1) rfl rfl rfl rfl ml_X7_147 im_X7_bury se_X7_X7_bury in_X7 co_X7_bury rfl rfl (fun _ => ?_)
        refine rz_iinc (lv' := [(1, vI (l1 + 1)), (0, vR l0)]) 131 1 dX7_passYear_128 rfl rfl (cn_1 _) rfl rfl ?_
        refine rz_goto 102 dX7_passYear_131 rfl ?_
        exact rz_sub [1, 0] rfl (h102 l0 (l1 + 1))
def fX7_passYear_100 (l0 : Nat) : mM Unit := fX7_passYear_102 fu l0 (0 : Int32)
set_option maxRecDepth 20000 in
theorem rX7_passYear_100 (v : mE) (d : Nat) (l0 : Nat) : Rz v RX7 cX7_passYear 2 none false emU (d + 5) 100 [(0, vR l0)] [] (fX7_passYear_100 l0) := by
  unfold fX7_passYear_100
  refine rz_iconst 101 dX7_passYear_100 rfl ci_0 ?_
  refine rz_istore_n (lv' := [(1, vI (0 : Int32)), (0, vR l0)]) 102 dX7_passYear_101 rfl rfl rfl ?_
  exact rz_sub [1, 0] rfl (rX7_passYear_102 v d fu l0 (0 : Int32))
def fX7_passYear (l0 : Nat) : mM Unit := bGI 7 l0 0 (fun x1 => bIf (x1 < (200 : Int32)) (bGI 7 l0 0 (fun x2 => bPI 7 l0 0 (x2 + (1 : Int32)) (bGI 7 l0 1 (fun x3 => bGI 7 l0 3 (fun x4 => bPI 7 l0 1 (jMin (999 : Int32) (x3 + x4)) (bGI 7 l0 4 (fun x5 => bIf (x5 ≤ 0) (fX7_passYear_100 l0) (bGI 7 l0 6 (fun x6 => bNz (65536 : Int32) (bPI 7 l0 6 (((x6 * (2801 : Int32)) + (9011 : Int32)) - ((x6 * (2801 : Int32)) + (9011 : Int32)) / (65536 : Int32) * (65536 : Int32)) (bGI 7 l0 6 (fun x7 => bNz (8 : Int32) (bNz (16 : Int32) (bGI 7 l0 4 (fun x8 => bIf (x8 ≤ ((x7 / (8 : Int32)) - (x7 / (8 : Int32)) / (16 : Int32) * (16 : Int32))) (fX7_passYear_100 l0) (bGI 7 l0 1 (fun x9 => bGI 7 l0 5 (fun x10 => bPI 7 l0 1 (jMax (0 : Int32) (x9 - x10)) (fX7_passYear_100 l0))))))))))))))))))) (bRet ()))
set_option maxRecDepth 20000 in
theorem rX7_passYear (v : mE) (d : Nat) (l0 : Nat) : Rz v RX7 cX7_passYear 2 none false emU (d + 5) 0 [(0, vR l0)] [] (fX7_passYear l0) := by
  unfold fX7_passYear
  refine rz_aload_n 1 0 dX7_passYear_0 rfl rfl ?_
  refine rz_gI 4 dX7_passYear_1 rfl rfl fl_X7_9 (fun x1 => ?_)
  refine rz_sipush 7 dX7_passYear_4 rfl cs_200 ?_
  refine rz_icmp_lt 11 10 dX7_passYear_7 rfl rfl ?_ ?_
  · refine rz_aload_n 12 0 dX7_passYear_11 rfl rfl ?_
    refine rz_dup 13 dX7_passYear_12 rfl rfl ?_
    refine rz_gI 16 dX7_passYear_13 rfl rfl fl_X7_9 (fun x2 => ?_)
    refine rz_iconst 17 dX7_passYear_16 rfl ci_1 ?_
    refine rz_iadd 18 dX7_passYear_17 rfl ?_
    refine rz_pI 21 dX7_passYear_18 rfl rfl rfl rfl fl_X7_9 ?_
    refine rz_aload_n 22 0 dX7_passYear_21 rfl rfl ?_
    refine rz_sipush 25 dX7_passYear_22 rfl cs_999 ?_
    refine rz_aload_n 26 0 dX7_passYear_25 rfl rfl ?_
    refine rz_gI 29 dX7_passYear_26 rfl rfl fl_X7_15 (fun x3 => ?_)
    refine rz_aload_n 30 0 dX7_passYear_29 rfl rfl ?_
    refine rz_gI 33 dX7_passYear_30 rfl rfl fl_X7_21 (fun x4 => ?_)
    refine rz_iadd 34 dX7_passYear_33 rfl ?_
    refine rz_mmin 37 dX7_passYear_34 rfl ml_X7_143 rfl rfl ?_
    refine rz_pI 40 dX7_passYear_37 rfl rfl rfl rfl fl_X7_15 ?_
    refine rz_aload_n 41 0 dX7_passYear_40 rfl rfl ?_
    refine rz_gI 44 dX7_passYear_41 rfl rfl fl_X7_24 (fun x5 => ?_)
    refine rz_if_le 100 47 dX7_passYear_44 rfl rfl ?_ ?_
    · exact rz_sub [0] rfl (rX7_passYear_100 v d l0)
    · refine rz_aload_n 48 0 dX7_passYear_47 rfl rfl ?_
      refine rz_aload_n 49 0 dX7_passYear_48 rfl rfl ?_
      refine rz_gI 52 dX7_passYear_49 rfl rfl fl_X7_30 (fun x6 => ?_)
      refine rz_sipush 55 dX7_passYear_52 rfl cs_2801 ?_
      refine rz_imul 56 dX7_passYear_55 rfl ?_
      refine rz_sipush 59 dX7_passYear_56 rfl cs_9011 ?_
      refine rz_iadd 60 dX7_passYear_59 rfl ?_
      refine rz_ldc 62 dX7_passYear_60 rfl ct_X7_146 ?_
      refine rz_irem 63 dX7_passYear_62 rfl ?_
      refine rz_pI 66 dX7_passYear_63 rfl rfl rfl rfl fl_X7_30 ?_
      refine rz_aload_n 67 0 dX7_passYear_66 rfl rfl ?_
      refine rz_gI 70 dX7_passYear_67 rfl rfl fl_X7_30 (fun x7 => ?_)
      refine rz_bipush 72 dX7_passYear_70 rfl cb_8 ?_
      refine rz_idiv 73 dX7_passYear_72 rfl ?_
      refine rz_bipush 75 dX7_passYear_73 rfl cb_16 ?_
      refine rz_irem 76 dX7_passYear_75 rfl ?_
      refine rz_aload_n 77 0 dX7_passYear_76 rfl rfl ?_
      refine rz_gI 80 dX7_passYear_77 rfl rfl fl_X7_24 (fun x8 => ?_)
      refine rz_icmp_ge 100 83 dX7_passYear_80 rfl rfl ?_ ?_
      · exact rz_sub [0] rfl (rX7_passYear_100 v d l0)
      · refine rz_aload_n 84 0 dX7_passYear_83 rfl rfl ?_
        refine rz_iconst 85 dX7_passYear_84 rfl ci_0 ?_
        refine rz_aload_n 86 0 dX7_passYear_85 rfl rfl ?_
        refine rz_gI 89 dX7_passYear_86 rfl rfl fl_X7_15 (fun x9 => ?_)
        refine rz_aload_n 90 0 dX7_passYear_89 rfl rfl ?_
        refine rz_gI 93 dX7_passYear_90 rfl rfl fl_X7_27 (fun x10 => ?_)
        refine rz_isub 94 dX7_passYear_93 rfl ?_
        refine rz_mmax 97 dX7_passYear_94 rfl ml_X7_109 rfl rfl ?_
        refine rz_pI 100 dX7_passYear_97 rfl rfl rfl rfl fl_X7_15 ?_
        exact rz_sub [0] rfl (rX7_passYear_100 v d l0)
  · exact rz_return rfl rfl dX7_passYear_10
theorem tX7_passYear (v : mE) (d : Nat) (l0 : Nat) : Mt v yX7_passYear cX7_passYear 2 none emU (d + 5) [vR l0] (fX7_passYear l0) := mt_of rfl rfl (fun h => by cases h) rfl rfl (rX7_passYear v d l0)

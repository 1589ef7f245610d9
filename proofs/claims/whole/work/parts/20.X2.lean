theorem dX2_init_0 : decode cX2_init 0 = .ok (.aload_n 0, 1) := by decide +kernel
theorem dX2_init_1 : decode cX2_init 1 = .ok (.invokespecial 3, 3) := by decide +kernel
theorem dX2_init_4 : decode cX2_init 4 = .ok (.aload_n 0, 1) := by decide +kernel
theorem dX2_init_5 : decode cX2_init 5 = .ok (.iconst 1, 1) := by decide +kernel
theorem dX2_init_6 : decode cX2_init 6 = .ok (.putfield 9, 3) := by decide +kernel
theorem dX2_init_9 : decode cX2_init 9 = .ok (.aload_n 0, 1) := by decide +kernel
theorem dX2_init_10 : decode cX2_init 10 = .ok (.iconst 0, 1) := by decide +kernel
theorem dX2_init_11 : decode cX2_init 11 = .ok (.putfield 15, 3) := by decide +kernel
theorem dX2_init_14 : decode cX2_init 14 = .ok (.aload_n 0, 1) := by decide +kernel
theorem dX2_init_15 : decode cX2_init 15 = .ok (.iconst 0, 1) := by decide +kernel
theorem dX2_init_16 : decode cX2_init 16 = .ok (.putfield 19, 3) := by decide +kernel
theorem dX2_init_19 : decode cX2_init 19 = .ok (.aload_n 0, 1) := by decide +kernel
theorem dX2_init_20 : decode cX2_init 20 = .ok (.iconst 0, 1) := by decide +kernel
theorem dX2_init_21 : decode cX2_init 21 = .ok (.putfield 22, 3) := by decide +kernel
theorem dX2_init_24 : decode cX2_init 24 = .ok (.aload_n 0, 1) := by decide +kernel
theorem dX2_init_25 : decode cX2_init 25 = .ok (.bipush 12, 2) := by decide +kernel
theorem dX2_init_27 : decode cX2_init 27 = .ok (.newarray .int, 2) := by decide +kernel
theorem dX2_init_29 : decode cX2_init 29 = .ok (.putfield 25, 3) := by decide +kernel
theorem dX2_init_32 : decode cX2_init 32 = .ok (.aload_n 0, 1) := by decide +kernel
theorem dX2_init_33 : decode cX2_init 33 = .ok (.iconst 1, 1) := by decide +kernel
theorem dX2_init_34 : decode cX2_init 34 = .ok (.newarray .int, 2) := by decide +kernel
theorem dX2_init_36 : decode cX2_init 36 = .ok (.putfield 29, 3) := by decide +kernel
theorem dX2_init_39 : decode cX2_init 39 = .ok (.aload_n 0, 1) := by decide +kernel
theorem dX2_init_40 : decode cX2_init 40 = .ok (.bipush 13, 2) := by decide +kernel
theorem dX2_init_42 : decode cX2_init 42 = .ok (.newarray .int, 2) := by decide +kernel
theorem dX2_init_44 : decode cX2_init 44 = .ok (.putfield 32, 3) := by decide +kernel
theorem dX2_init_47 : decode cX2_init 47 = .ok (.return_, 1) := by decide +kernel
def fX2_init (l0 : Nat) : mM Unit := bObj l0 (bPZ 2 l0 0 (1 : Int32) (bPI 2 l0 1 (0 : Int32) (bPI 2 l0 2 (0 : Int32) (bPI 2 l0 3 (0 : Int32) (bNa 11 (12 : Int32) (fun x1 => bPR 2 l0 4 x1 (bNa 11 (1 : Int32) (fun x2 => bPR 2 l0 5 x2 (bNa 11 (13 : Int32) (fun x3 => bPR 2 l0 6 x3 (bRet ())))))))))))
set_option maxRecDepth 20000 in
theorem rX2_init (v : mE) (d : Nat) (l0 : Nat) : Rz v RX2 cX2_init 1 none true emU (d + 1) 0 [(0, vR l0)] [] (fX2_init l0) := by
  unfold fX2_init
  refine rz_aload_n 1 0 dX2_init_0 rfl rfl ?_
  refine rz_obj 4 dX2_init_1 rfl ml_X2_3 im_java_lang_Object__init____V co_java_lang_Object__init____V rfl rfl ?_
  refine rz_aload_n 5 0 dX2_init_4 rfl rfl ?_
  refine rz_iconst 6 dX2_init_5 rfl ci_1 ?_
  refine rz_pZ 9 dX2_init_6 rfl rfl rfl rfl fl_X2_9 ?_
  refine rz_aload_n 10 0 dX2_init_9 rfl rfl ?_
  refine rz_iconst 11 dX2_init_10 rfl ci_0 ?_
  refine rz_pI 14 dX2_init_11 rfl rfl rfl rfl fl_X2_15 ?_
  refine rz_aload_n 15 0 dX2_init_14 rfl rfl ?_
  refine rz_iconst 16 dX2_init_15 rfl ci_0 ?_
  refine rz_pI 19 dX2_init_16 rfl rfl rfl rfl fl_X2_19 ?_
  refine rz_aload_n 20 0 dX2_init_19 rfl rfl ?_
  refine rz_iconst 21 dX2_init_20 rfl ci_0 ?_
  refine rz_pI 24 dX2_init_21 rfl rfl rfl rfl fl_X2_22 ?_
  refine rz_aload_n 25 0 dX2_init_24 rfl rfl ?_
  refine rz_bipush 27 dX2_init_25 rfl cb_12 ?_
  refine rz_newa 29 dX2_init_27 rfl (by decide) ac_int (fun x1 => ?_)
  refine rz_pR 32 dX2_init_29 rfl rfl rfl fl_X2_25 ?_
  refine rz_aload_n 33 0 dX2_init_32 rfl rfl ?_
  refine rz_iconst 34 dX2_init_33 rfl ci_1 ?_
  refine rz_newa 36 dX2_init_34 rfl (by decide) ac_int (fun x2 => ?_)
  refine rz_pR 39 dX2_init_36 rfl rfl rfl fl_X2_29 ?_
  refine rz_aload_n 40 0 dX2_init_39 rfl rfl ?_
  refine rz_bipush 42 dX2_init_40 rfl cb_13 ?_
  refine rz_newa 44 dX2_init_42 rfl (by decide) ac_int (fun x3 => ?_)
  refine rz_pR 47 dX2_init_44 rfl rfl rfl fl_X2_32 ?_
  exact rz_return rfl rfl dX2_init_47
theorem tX2_init (v : mE) (d : Nat) (l0 : Nat) : Mt v yX2_init cX2_init 1 none emU (d + 1) [vR l0] (fX2_init l0) := mt_of rfl rfl (fun _ => rfl) rfl rfl (rX2_init v d l0)
theorem dX2_with_0 : decode cX2_with 0 = .ok (.iload_n 1, 1) := by decide +kernel
theorem dX2_with_1 : decode cX2_with 1 = .ok (.sipush 1024, 3) := by decide +kernel
theorem dX2_with_4 : decode cX2_with 4 = .ok (.irem, 1) := by decide +kernel
theorem dX2_with_5 : decode cX2_with 5 = .ok (.iload_n 2, 1) := by decide +kernel
theorem dX2_with_6 : decode cX2_with 6 = .ok (.iadd, 1) := by decide +kernel
theorem dX2_with_7 : decode cX2_with 7 = .ok (.istore_n 3, 1) := by decide +kernel
theorem dX2_with_8 : decode cX2_with 8 = .ok (.iload_n 3, 1) := by decide +kernel
theorem dX2_with_9 : decode cX2_with 9 = .ok (.aload_n 0, 1) := by decide +kernel
theorem dX2_with_10 : decode cX2_with 10 = .ok (.getfield 22, 3) := by decide +kernel
theorem dX2_with_13 : decode cX2_with 13 = .ok (.if_icmp .lt 17, 3) := by decide +kernel
theorem dX2_with_16 : decode cX2_with 16 = .ok (.iload_n 1, 1) := by decide +kernel
theorem dX2_with_17 : decode cX2_with 17 = .ok (.iload_n 1, 1) := by decide +kernel
theorem dX2_with_18 : decode cX2_with 18 = .ok (.sipush 1024, 3) := by decide +kernel
theorem dX2_with_21 : decode cX2_with 21 = .ok (.irem, 1) := by decide +kernel
theorem dX2_with_22 : decode cX2_with 22 = .ok (.isub, 1) := by decide +kernel
theorem dX2_with_23 : decode cX2_with 23 = .ok (.sipush 1024, 3) := by decide +kernel
theorem dX2_with_26 : decode cX2_with 26 = .ok (.iadd, 1) := by decide +kernel
theorem dX2_with_27 : decode cX2_with 27 = .ok (.goto 6, 3) := by decide +kernel
theorem dX2_with_30 : decode cX2_with 30 = .ok (.iload_n 1, 1) := by decide +kernel
theorem dX2_with_31 : decode cX2_with 31 = .ok (.iload_n 2, 1) := by decide +kernel
theorem dX2_with_32 : decode cX2_with 32 = .ok (.iadd, 1) := by decide +kernel
theorem dX2_with_33 : decode cX2_with 33 = .ok (.ireturn, 1) := by decide +kernel
def fX2_with (l0 : Nat) (l1 : Int32) (l2 : Int32) : mM Int32 := bNz (1024 : Int32) (bGI 2 l0 3 (fun x1 => bIf (((l1 - l1 / (1024 : Int32) * (1024 : Int32)) + l2) < x1) (bRet (l1 + l2)) (bNz (1024 : Int32) (bRet ((l1 - (l1 - l1 / (1024 : Int32) * (1024 : Int32))) + (1024 : Int32))))))
set_option maxRecDepth 20000 in
theorem rX2_with (v : mE) (d : Nat) (l0 : Nat) (l1 : Int32) (l2 : Int32) : Rz v RX2 cX2_with 4 (some .int) false emI (d + 0) 0 [(0, vR l0), (1, vI l1), (2, vI l2)] [] (fX2_with l0 l1 l2) := by
  unfold fX2_with
  refine rz_iload_n 1 1 dX2_with_0 rfl rfl ?_
  refine rz_sipush 4 dX2_with_1 rfl cs_1024 ?_
  refine rz_irem 5 dX2_with_4 rfl ?_
  refine rz_iload_n 6 2 dX2_with_5 rfl rfl ?_
  refine rz_iadd 7 dX2_with_6 rfl ?_
  refine rz_istore_n (lv' := [(3, vI ((l1 - l1 / (1024 : Int32) * (1024 : Int32)) + l2)), (0, vR l0), (1, vI l1), (2, vI l2)]) 8 dX2_with_7 rfl rfl rfl ?_
  refine rz_iload_n 9 0 dX2_with_8 rfl rfl ?_
  refine rz_aload_n 10 1 dX2_with_9 rfl rfl ?_
  refine rz_gI 13 dX2_with_10 rfl rfl fl_X2_22 (fun x1 => ?_)
  refine rz_icmp_lt 30 16 dX2_with_13 rfl rfl ?_ ?_
  · refine rz_iload_n 31 2 dX2_with_30 rfl rfl ?_
    refine rz_iload_n 32 3 dX2_with_31 rfl rfl ?_
    refine rz_iadd 33 dX2_with_32 rfl ?_
    exact rz_ireturn rfl rfl dX2_with_33
  · refine rz_iload_n 17 2 dX2_with_16 rfl rfl ?_
    refine rz_iload_n 18 2 dX2_with_17 rfl rfl ?_
    refine rz_sipush 21 dX2_with_18 rfl cs_1024 ?_
    refine rz_irem 22 dX2_with_21 rfl ?_
    refine rz_isub 23 dX2_with_22 rfl ?_
    refine rz_sipush 26 dX2_with_23 rfl cs_1024 ?_
    refine rz_iadd 27 dX2_with_26 rfl ?_
    refine rz_goto 33 dX2_with_27 rfl ?_
    exact rz_ireturn rfl rfl dX2_with_33
theorem tX2_with (v : mE) (d : Nat) (l0 : Nat) (l1 : Int32) (l2 : Int32) : Mt v yX2_with cX2_with 4 (some .int) emI (d + 0) [vR l0, vI l1, vI l2] (fX2_with l0 l1 l2) := mt_of rfl rfl (fun h => by cases h) rfl rfl (rX2_with v d l0 l1 l2)
theorem dX2_fillSets_0 : decode cX2_fillSets 0 = .ok (.iconst 1, 1) := by decide +kernel
theorem dX2_fillSets_1 : decode cX2_fillSets 1 = .ok (.aload_n 0, 1) := by decide +kernel
theorem dX2_fillSets_2 : decode cX2_fillSets 2 = .ok (.getfield 19, 3) := by decide +kernel
theorem dX2_fillSets_5 : decode cX2_fillSets 5 = .ok (.ishl, 1) := by decide +kernel
theorem dX2_fillSets_6 : decode cX2_fillSets 6 = .ok (.istore_n 1, 1) := by decide +kernel
theorem dX2_fillSets_7 : decode cX2_fillSets 7 = .ok (.aload_n 0, 1) := by decide +kernel
theorem dX2_fillSets_8 : decode cX2_fillSets 8 = .ok (.getfield 29, 3) := by decide +kernel
theorem dX2_fillSets_11 : decode cX2_fillSets 11 = .ok (.arraylength, 1) := by decide +kernel
theorem dX2_fillSets_12 : decode cX2_fillSets 12 = .ok (.iload_n 1, 1) := by decide +kernel
theorem dX2_fillSets_13 : decode cX2_fillSets 13 = .ok (.if_icmp .ge 10, 3) := by decide +kernel
theorem dX2_fillSets_16 : decode cX2_fillSets 16 = .ok (.aload_n 0, 1) := by decide +kernel
theorem dX2_fillSets_17 : decode cX2_fillSets 17 = .ok (.iload_n 1, 1) := by decide +kernel
theorem dX2_fillSets_18 : decode cX2_fillSets 18 = .ok (.newarray .int, 2) := by decide +kernel
theorem dX2_fillSets_20 : decode cX2_fillSets 20 = .ok (.putfield 29, 3) := by decide +kernel
theorem dX2_fillSets_23 : decode cX2_fillSets 23 = .ok (.aload_n 0, 1) := by decide +kernel
theorem dX2_fillSets_24 : decode cX2_fillSets 24 = .ok (.getfield 29, 3) := by decide +kernel
theorem dX2_fillSets_27 : decode cX2_fillSets 27 = .ok (.iconst 0, 1) := by decide +kernel
theorem dX2_fillSets_28 : decode cX2_fillSets 28 = .ok (.iconst 0, 1) := by decide +kernel
theorem dX2_fillSets_29 : decode cX2_fillSets 29 = .ok (.iastore, 1) := by decide +kernel
theorem dX2_fillSets_30 : decode cX2_fillSets 30 = .ok (.iconst 1, 1) := by decide +kernel
theorem dX2_fillSets_31 : decode cX2_fillSets 31 = .ok (.istore_n 2, 1) := by decide +kernel
theorem dX2_fillSets_32 : decode cX2_fillSets 32 = .ok (.iload_n 2, 1) := by decide +kernel
theorem dX2_fillSets_33 : decode cX2_fillSets 33 = .ok (.iload_n 1, 1) := by decide +kernel
theorem dX2_fillSets_34 : decode cX2_fillSets 34 = .ok (.if_icmp .ge 125, 3) := by decide +kernel
theorem dX2_fillSets_37 : decode cX2_fillSets 37 = .ok (.iconst 0, 1) := by decide +kernel
theorem dX2_fillSets_38 : decode cX2_fillSets 38 = .ok (.istore_n 3, 1) := by decide +kernel
theorem dX2_fillSets_39 : decode cX2_fillSets 39 = .ok (.iconst 0, 1) := by decide +kernel
theorem dX2_fillSets_40 : decode cX2_fillSets 40 = .ok (.istore 4, 2) := by decide +kernel
theorem dX2_fillSets_42 : decode cX2_fillSets 42 = .ok (.iload 4, 2) := by decide +kernel
theorem dX2_fillSets_44 : decode cX2_fillSets 44 = .ok (.aload_n 0, 1) := by decide +kernel
theorem dX2_fillSets_45 : decode cX2_fillSets 45 = .ok (.getfield 19, 3) := by decide +kernel
theorem dX2_fillSets_48 : decode cX2_fillSets 48 = .ok (.if_icmp .ge 48, 3) := by decide +kernel
theorem dX2_fillSets_51 : decode cX2_fillSets 51 = .ok (.iload_n 2, 1) := by decide +kernel
theorem dX2_fillSets_52 : decode cX2_fillSets 52 = .ok (.iload 4, 2) := by decide +kernel
theorem dX2_fillSets_54 : decode cX2_fillSets 54 = .ok (.ishr, 1) := by decide +kernel
theorem dX2_fillSets_55 : decode cX2_fillSets 55 = .ok (.iconst 1, 1) := by decide +kernel
theorem dX2_fillSets_56 : decode cX2_fillSets 56 = .ok (.iand, 1) := by decide +kernel
theorem dX2_fillSets_57 : decode cX2_fillSets 57 = .ok (.iconst 1, 1) := by decide +kernel
theorem dX2_fillSets_58 : decode cX2_fillSets 58 = .ok (.if_icmp .ne 32, 3) := by decide +kernel
theorem dX2_fillSets_61 : decode cX2_fillSets 61 = .ok (.iload_n 3, 1) := by decide +kernel
theorem dX2_fillSets_62 : decode cX2_fillSets 62 = .ok (.aload_n 0, 1) := by decide +kernel
theorem dX2_fillSets_63 : decode cX2_fillSets 63 = .ok (.aload_n 0, 1) := by decide +kernel
theorem dX2_fillSets_64 : decode cX2_fillSets 64 = .ok (.getfield 29, 3) := by decide +kernel
theorem dX2_fillSets_67 : decode cX2_fillSets 67 = .ok (.iload_n 2, 1) := by decide +kernel
theorem dX2_fillSets_68 : decode cX2_fillSets 68 = .ok (.iconst 1, 1) := by decide +kernel
theorem dX2_fillSets_69 : decode cX2_fillSets 69 = .ok (.iload 4, 2) := by decide +kernel
theorem dX2_fillSets_71 : decode cX2_fillSets 71 = .ok (.ishl, 1) := by decide +kernel
theorem dX2_fillSets_72 : decode cX2_fillSets 72 = .ok (.iconst (-1), 1) := by decide +kernel
theorem dX2_fillSets_73 : decode cX2_fillSets 73 = .ok (.ixor, 1) := by decide +kernel
theorem dX2_fillSets_74 : decode cX2_fillSets 74 = .ok (.iand, 1) := by decide +kernel
theorem dX2_fillSets_75 : decode cX2_fillSets 75 = .ok (.iaload, 1) := by decide +kernel
theorem dX2_fillSets_76 : decode cX2_fillSets 76 = .ok (.aload_n 0, 1) := by decide +kernel
theorem dX2_fillSets_77 : decode cX2_fillSets 77 = .ok (.getfield 25, 3) := by decide +kernel
theorem dX2_fillSets_80 : decode cX2_fillSets 80 = .ok (.iload 4, 2) := by decide +kernel
theorem dX2_fillSets_82 : decode cX2_fillSets 82 = .ok (.iaload, 1) := by decide +kernel
theorem dX2_fillSets_83 : decode cX2_fillSets 83 = .ok (.invokevirtual 72, 3) := by decide +kernel
theorem dX2_fillSets_86 : decode cX2_fillSets 86 = .ok (.invokestatic 76, 3) := by decide +kernel
theorem dX2_fillSets_89 : decode cX2_fillSets 89 = .ok (.istore_n 3, 1) := by decide +kernel
theorem dX2_fillSets_90 : decode cX2_fillSets 90 = .ok (.iinc 4 1, 3) := by decide +kernel
theorem dX2_fillSets_93 : decode cX2_fillSets 93 = .ok (.goto (-51), 3) := by decide +kernel
theorem dX2_fillSets_96 : decode cX2_fillSets 96 = .ok (.aload_n 0, 1) := by decide +kernel
theorem dX2_fillSets_97 : decode cX2_fillSets 97 = .ok (.getfield 29, 3) := by decide +kernel
theorem dX2_fillSets_100 : decode cX2_fillSets 100 = .ok (.iload_n 2, 1) := by decide +kernel
theorem dX2_fillSets_101 : decode cX2_fillSets 101 = .ok (.iload_n 3, 1) := by decide +kernel
theorem dX2_fillSets_102 : decode cX2_fillSets 102 = .ok (.iastore, 1) := by decide +kernel
theorem dX2_fillSets_103 : decode cX2_fillSets 103 = .ok (.iload_n 3, 1) := by decide +kernel
theorem dX2_fillSets_104 : decode cX2_fillSets 104 = .ok (.sipush 1024, 3) := by decide +kernel
theorem dX2_fillSets_107 : decode cX2_fillSets 107 = .ok (.idiv, 1) := by decide +kernel
theorem dX2_fillSets_108 : decode cX2_fillSets 108 = .ok (.bipush 12, 2) := by decide +kernel
theorem dX2_fillSets_110 : decode cX2_fillSets 110 = .ok (.invokestatic 81, 3) := by decide +kernel
theorem dX2_fillSets_113 : decode cX2_fillSets 113 = .ok (.istore 4, 2) := by decide +kernel
theorem dX2_fillSets_115 : decode cX2_fillSets 115 = .ok (.iload_n 2, 1) := by decide +kernel
theorem dX2_fillSets_116 : decode cX2_fillSets 116 = .ok (.invokestatic 84, 3) := by decide +kernel
theorem dX2_fillSets_119 : decode cX2_fillSets 119 = .ok (.istore 5, 2) := by decide +kernel
theorem dX2_fillSets_121 : decode cX2_fillSets 121 = .ok (.aload_n 0, 1) := by decide +kernel
theorem dX2_fillSets_122 : decode cX2_fillSets 122 = .ok (.getfield 32, 3) := by decide +kernel
theorem dX2_fillSets_125 : decode cX2_fillSets 125 = .ok (.iload 4, 2) := by decide +kernel
theorem dX2_fillSets_127 : decode cX2_fillSets 127 = .ok (.iaload, 1) := by decide +kernel
theorem dX2_fillSets_128 : decode cX2_fillSets 128 = .ok (.iconst (-1), 1) := by decide +kernel
theorem dX2_fillSets_129 : decode cX2_fillSets 129 = .ok (.if_icmp .eq 15, 3) := by decide +kernel
theorem dX2_fillSets_132 : decode cX2_fillSets 132 = .ok (.iload 5, 2) := by decide +kernel
theorem dX2_fillSets_134 : decode cX2_fillSets 134 = .ok (.aload_n 0, 1) := by decide +kernel
theorem dX2_fillSets_135 : decode cX2_fillSets 135 = .ok (.getfield 32, 3) := by decide +kernel
theorem dX2_fillSets_138 : decode cX2_fillSets 138 = .ok (.iload 4, 2) := by decide +kernel
theorem dX2_fillSets_140 : decode cX2_fillSets 140 = .ok (.iaload, 1) := by decide +kernel
theorem dX2_fillSets_141 : decode cX2_fillSets 141 = .ok (.if_icmp .ge 12, 3) := by decide +kernel
theorem dX2_fillSets_144 : decode cX2_fillSets 144 = .ok (.aload_n 0, 1) := by decide +kernel
theorem dX2_fillSets_145 : decode cX2_fillSets 145 = .ok (.getfield 32, 3) := by decide +kernel
theorem dX2_fillSets_148 : decode cX2_fillSets 148 = .ok (.iload 4, 2) := by decide +kernel
theorem dX2_fillSets_150 : decode cX2_fillSets 150 = .ok (.iload 5, 2) := by decide +kernel
theorem dX2_fillSets_152 : decode cX2_fillSets 152 = .ok (.iastore, 1) := by decide +kernel
theorem dX2_fillSets_153 : decode cX2_fillSets 153 = .ok (.iinc 2 1, 3) := by decide +kernel
theorem dX2_fillSets_156 : decode cX2_fillSets 156 = .ok (.goto (-124), 3) := by decide +kernel
theorem dX2_fillSets_159 : decode cX2_fillSets 159 = .ok (.return_, 1) := by decide +kernel
def fX2_fillSets_144 (r32 : Nat → Int32 → Int32 → mM Unit) (l0 : Nat) (l1 : Int32) (l2 : Int32) (l4 : Int32) (l5 : Int32) : mM Unit := bGR 2 l0 6 (fun x1 => bSI x1 l4 l5 (r32 l0 l1 (l2 + 1)))
set_option maxRecDepth 20000 in
theorem rX2_fillSets_144 (v : mE) (d : Nat) (r32 : Nat → Int32 → Int32 → mM Unit) (h32 : ∀ (y0 : Nat) (y1 : Int32) (y2 : Int32), Rz v RX2 cX2_fillSets 6 none false emU (d + 1) 32 [(0, vR y0), (1, vI y1), (2, vI y2)] [] (r32 y0 y1 y2)) (l0 : Nat) (l1 : Int32) (l2 : Int32) (l4 : Int32) (l5 : Int32) : Rz v RX2 cX2_fillSets 6 none false emU (d + 1) 144 [(0, vR l0), (1, vI l1), (2, vI l2), (4, vI l4), (5, vI l5)] [] (fX2_fillSets_144 r32 l0 l1 l2 l4 l5) := by
  unfold fX2_fillSets_144
  refine rz_aload_n 145 0 dX2_fillSets_144 rfl rfl ?_
  refine rz_gR 148 dX2_fillSets_145 rfl rfl fl_X2_32 (fun x1 => ?_)
  refine rz_iload 150 3 dX2_fillSets_148 rfl rfl ?_
  refine rz_iload 152 4 dX2_fillSets_150 rfl rfl ?_
  refine rz_iast 153 dX2_fillSets_152 rfl ?_
  refine rz_iinc (lv' := [(2, vI (l2 + 1)), (0, vR l0), (1, vI l1), (4, vI l4), (5, vI l5)]) 156 2 dX2_fillSets_153 rfl rfl (cn_1 _) rfl rfl ?_
  refine rz_goto 32 dX2_fillSets_156 rfl ?_
  exact rz_sub [1, 2, 0] rfl (h32 l0 l1 (l2 + 1))
def fX2_fillSets_96 (r32 : Nat → Int32 → Int32 → mM Unit) (l0 : Nat) (l1 : Int32) (l2 : Int32) (l3 : Int32) : mM Unit := bGR 2 l0 5 (fun x1 => bSI x1 l2 l3 (bNz (1024 : Int32) (bCall (fJ6_bitCount_0f7a4 l2) (fun x2 => bGR 2 l0 6 (fun x3 => bAI 11 x3 (jMin (l3 / (1024 : Int32)) (12 : Int32)) (fun x4 => bIf (x4 = (-1 : Int32)) (fX2_fillSets_144 r32 l0 l1 l2 (jMin (l3 / (1024 : Int32)) (12 : Int32)) x2) (bGR 2 l0 6 (fun x5 => bAI 11 x5 (jMin (l3 / (1024 : Int32)) (12 : Int32)) (fun x6 => bIf (x6 ≤ x2) (r32 l0 l1 (l2 + 1)) (fX2_fillSets_144 r32 l0 l1 l2 (jMin (l3 / (1024 : Int32)) (12 : Int32)) x2))))))))))
set_option maxRecDepth 20000 in
theorem rX2_fillSets_96 (v : mE) (d : Nat) (r32 : Nat → Int32 → Int32 → mM Unit) (h32 : ∀ (y0 : Nat) (y1 : Int32) (y2 : Int32), Rz v RX2 cX2_fillSets 6 none false emU (d + 1) 32 [(0, vR y0), (1, vI y1), (2, vI y2)] [] (r32 y0 y1 y2)) (l0 : Nat) (l1 : Int32) (l2 : Int32) (l3 : Int32) : Rz v RX2 cX2_fillSets 6 none false emU (d + 1) 96 [(0, vR l0), (1, vI l1), (2, vI l2), (3, vI l3)] [] (fX2_fillSets_96 r32 l0 l1 l2 l3) := by
  unfold fX2_fillSets_96
  refine rz_aload_n 97 0 dX2_fillSets_96 rfl rfl ?_
  refine rz_gR 100 dX2_fillSets_97 rfl rfl fl_X2_29 (fun x1 => ?_)
  refine rz_iload_n 101 2 dX2_fillSets_100 rfl rfl ?_
  refine rz_iload_n 102 3 dX2_fillSets_101 rfl rfl ?_
  refine rz_iast 103 dX2_fillSets_102 rfl ?_
  refine rz_iload_n 104 3 dX2_fillSets_103 rfl rfl ?_
  refine rz_sipush 107 dX2_fillSets_104 rfl cs_1024 ?_
  refine rz_idiv 108 dX2_fillSets_107 rfl ?_
  refine rz_bipush 110 dX2_fillSets_108 rfl cb_12 ?_
  refine rz_mmin 113 dX2_fillSets_110 rfl ml_X2_81 rfl rfl ?_
  refine rz_istore (lv' := [(4, vI (jMin (l3 / (1024 : Int32)) (12 : Int32))), (0, vR l0), (1, vI l1), (2, vI l2), (3, vI l3)]) 115 dX2_fillSets_113 rfl rfl rfl ?_
  refine rz_iload_n 116 3 dX2_fillSets_115 rfl rfl ?_
  refine rz_callS 119 dX2_fillSets_116 rfl (tJ6_bitCount_0f7a4 v (d + 0) l2) rfl rfl ml_X2_84 sm_J6_bitCount_0f7a4 in_J6 co_J6_bitCount_0f7a4 rfl rfl (fun x2 => ?_)
  refine rz_istore (lv' := [(5, vI x2), (4, vI (jMin (l3 / (1024 : Int32)) (12 : Int32))), (0, vR l0), (1, vI l1), (2, vI l2), (3, vI l3)]) 121 dX2_fillSets_119 rfl rfl rfl ?_
  refine rz_aload_n 122 2 dX2_fillSets_121 rfl rfl ?_
  refine rz_gR 125 dX2_fillSets_122 rfl rfl fl_X2_32 (fun x3 => ?_)
  refine rz_iload 127 1 dX2_fillSets_125 rfl rfl ?_
  refine rz_iald 128 dX2_fillSets_127 rfl (fun x4 => ?_)
  refine rz_iconst 129 dX2_fillSets_128 rfl ci_m1 ?_
  refine rz_icmp_eq 144 132 dX2_fillSets_129 rfl rfl ?_ ?_
  · exact rz_sub [2, 3, 4, 1, 0] rfl (rX2_fillSets_144 v d r32 h32 l0 l1 l2 (jMin (l3 / (1024 : Int32)) (12 : Int32)) x2)
  · refine rz_iload 134 0 dX2_fillSets_132 rfl rfl ?_
    refine rz_aload_n 135 2 dX2_fillSets_134 rfl rfl ?_
    refine rz_gR 138 dX2_fillSets_135 rfl rfl fl_X2_32 (fun x5 => ?_)
    refine rz_iload 140 1 dX2_fillSets_138 rfl rfl ?_
    refine rz_iald 141 dX2_fillSets_140 rfl (fun x6 => ?_)
    refine rz_icmp_ge 153 144 dX2_fillSets_141 rfl rfl ?_ ?_
    · refine rz_iinc (lv' := [(2, vI (l2 + 1)), (5, vI x2), (4, vI (jMin (l3 / (1024 : Int32)) (12 : Int32))), (0, vR l0), (1, vI l1), (3, vI l3)]) 156 4 dX2_fillSets_153 rfl rfl (cn_1 _) rfl rfl ?_
      refine rz_goto 32 dX2_fillSets_156 rfl ?_
      exact rz_sub [3, 4, 0] rfl (h32 l0 l1 (l2 + 1))
    · exact rz_sub [2, 3, 4, 1, 0] rfl (rX2_fillSets_144 v d r32 h32 l0 l1 l2 (jMin (l3 / (1024 : Int32)) (12 : Int32)) x2)
def fX2_fillSets_42 (r32 : Nat → Int32 → Int32 → mM Unit) : Nat → Nat → Int32 → Int32 → Int32 → Int32 → mM Unit
  | 0 => fun _ _ _ _ _ => fun _ => none
  | n + 1 => fun l0 l1 l2 l3 l4 => let r42 := fX2_fillSets_42 r32 n; bGI 2 l0 2 (fun x1 => bIf (x1 ≤ l4) (fX2_fillSets_96 r32 l0 l1 l2 l3) (bIf (((l2 >>> (l4 &&& 31)) &&& (1 : Int32)) = (1 : Int32)) (bGR 2 l0 5 (fun x2 => bAI 11 x2 (l2 &&& (((1 : Int32) <<< (l4 &&& 31)) ^^^ (-1 : Int32))) (fun x3 => bGR 2 l0 4 (fun x4 => bAI 11 x4 l4 (fun x5 => bCallV 2 l0 (fX2_with l0 x3 x5) (fun x6 => r42 l0 l1 l2 (jMax l3 x6) (l4 + 1))))))) (r42 l0 l1 l2 l3 (l4 + 1))))
theorem qX2_fillSets_42 (r32 : Nat → Int32 → Int32 → mM Unit) (n : Nat) (l0 : Nat) (l1 : Int32) (l2 : Int32) (l3 : Int32) (l4 : Int32) : fX2_fillSets_42 r32 (n + 1) l0 l1 l2 l3 l4 = bGI 2 l0 2 (fun x1 => bIf (x1 ≤ l4) (fX2_fillSets_96 r32 l0 l1 l2 l3) (bIf (((l2 >>> (l4 &&& 31)) &&& (1 : Int32)) = (1 : Int32)) (bGR 2 l0 5 (fun x2 => bAI 11 x2 (l2 &&& (((1 : Int32) <<< (l4 &&& 31)) ^^^ (-1 : Int32))) (fun x3 => bGR 2 l0 4 (fun x4 => bAI 11 x4 l4 (fun x5 => bCallV 2 l0 (fX2_with l0 x3 x5) (fun x6 => (fX2_fillSets_42 r32 n) l0 l1 l2 (jMax l3 x6) (l4 + 1))))))) ((fX2_fillSets_42 r32 n) l0 l1 l2 l3 (l4 + 1)))) := rfl
set_option maxRecDepth 20000 in
theorem rX2_fillSets_42 (v : mE) (d : Nat) (r32 : Nat → Int32 → Int32 → mM Unit) (h32 : ∀ (y0 : Nat) (y1 : Int32) (y2 : Int32), Rz v RX2 cX2_fillSets 6 none false emU (d + 1) 32 [(0, vR y0), (1, vI y1), (2, vI y2)] [] (r32 y0 y1 y2)) : ∀ (n : Nat) (l0 : Nat) (l1 : Int32) (l2 : Int32) (l3 : Int32) (l4 : Int32), Rz v RX2 cX2_fillSets 6 none false emU (d + 1) 42 [(0, vR l0), (1, vI l1), (2, vI l2), (3, vI l3), (4, vI l4)] [] (fX2_fillSets_42 r32 n l0 l1 l2 l3 l4)
  | 0, _, _, _, _, _ => fun _ _ _ hm => by cases hm
  | n + 1, l0, l1, l2, l3, l4 => by
    have h42 := rX2_fillSets_42 v d r32 h32 n
    unfold fX2_fillSets_42
    generalize fX2_fillSets_42 r32 n = r42 at h42 ⊢
    refine rz_iload 44 4 dX2_fillSets_42 rfl rfl ?_
    refine rz_aload_n 45 0 dX2_fillSets_44 rfl rfl ?_
    refine rz_gI 48 dX2_fillSets_45 rfl rfl fl_X2_19 (fun x1 => ?_)
    refine rz_icmp_ge 96 51 dX2_fillSets_48 rfl rfl ?_ ?_
    · exact rz_sub [0, 1, 2, 3] rfl (rX2_fillSets_96 v d r32 h32 l0 l1 l2 l3)
    · refine rz_iload_n 52 2 dX2_fillSets_51 rfl rfl ?_
      refine rz_iload 54 4 dX2_fillSets_52 rfl rfl ?_
      refine rz_ishr 55 dX2_fillSets_54 rfl ?_
      refine rz_iconst 56 dX2_fillSets_55 rfl ci_1 ?_
      refine rz_iand 57 dX2_fillSets_56 rfl ?_
      refine rz_iconst 58 dX2_fillSets_57 rfl ci_1 ?_
      refine rz_icmp_ne 90 61 dX2_fillSets_58 rfl rfl ?_ ?_
      · refine rz_iinc (lv' := [(4, vI (l4 + 1)), (0, vR l0), (1, vI l1), (2, vI l2), (3, vI l3)]) 93 4 dX2_fillSets_90 rfl rfl (cn_1 _) rfl rfl ?_
        refine rz_goto 42 dX2_fillSets_93 rfl ?_
        exact rz_sub [1, 2, 3, 4, 0] rfl (h42 l0 l1 l2 l3 (l4 + 1))
      · refine rz_iload_n 62 3 dX2_fillSets_61 rfl rfl ?_
        refine rz_aload_n 63 0 dX2_fillSets_62 rfl rfl ?_
        refine rz_aload_n 64 0 dX2_fillSets_63 rfl rfl ?_
        refine rz_gR 67 dX2_fillSets_64 rfl rfl fl_X2_29 (fun x2 => ?_)
        refine rz_iload_n 68 2 dX2_fillSets_67 rfl rfl ?_
        refine rz_iconst 69 dX2_fillSets_68 rfl ci_1 ?_
        refine rz_iload 71 4 dX2_fillSets_69 rfl rfl ?_
        refine rz_ishl 72 dX2_fillSets_71 rfl ?_
        refine rz_iconst 73 dX2_fillSets_72 rfl ci_m1 ?_
        refine rz_ixor 74 dX2_fillSets_73 rfl ?_
        refine rz_iand 75 dX2_fillSets_74 rfl ?_
        refine rz_iald 76 dX2_fillSets_75 rfl (fun x3 => ?_)
        refine rz_aload_n 77 0 dX2_fillSets_76 rfl rfl ?_
        refine rz_gR 80 dX2_fillSets_77 rfl rfl fl_X2_25 (fun x4 => ?_)
        refine rz_iload 82 4 dX2_fillSets_80 rfl rfl ?_
        refine rz_iald 83 dX2_fillSets_82 rfl (fun x5 => ?_)
        refine rz_callV 86 dX2_fillSets_83 rfl (tX2_with v (d + 0) l0 x3 x5) rfl rfl rfl rfl ml_X2_72 im_X2_with se_X2_X2_with in_X2 co_X2_with rfl rfl (fun x6 => ?_)
        refine rz_mmax 89 dX2_fillSets_86 rfl ml_X2_76 rfl rfl ?_
        refine rz_istore_n (lv' := [(3, vI (jMax l3 x6)), (0, vR l0), (1, vI l1), (2, vI l2), (4, vI l4)]) 90 dX2_fillSets_89 rfl rfl rfl ?_
        refine rz_iinc (lv' := [(4, vI (l4 + 1)), (3, vI (jMax l3 x6)), (0, vR l0), (1, vI l1), (2, vI l2)]) 93 4 dX2_fillSets_90 rfl rfl (cn_1 _) rfl rfl ?_
        refine rz_goto 42 dX2_fillSets_93 rfl ?_
        exact rz_sub [2, 3, 4, 1, 0] rfl (h42 l0 l1 l2 (jMax l3 x6) (l4 + 1))
def fX2_fillSets_32 : Nat → Nat → Int32 → Int32 → mM Unit
  | 0 => fun _ _ _ => fun _ => none
  | n + 1 => fun l0 l1 l2 => let r32 := fX2_fillSets_32 n; bIf (l1 ≤ l2) (bRet ()) (fX2_fillSets_42 r32 fu l0 l1 l2 (0 : Int32) (0 : Int32))
theorem qX2_fillSets_32  (n : Nat) (l0 : Nat) (l1 : Int32) (l2 : Int32) : fX2_fillSets_32 (n + 1) l0 l1 l2 = bIf (l1 ≤ l2) (bRet ()) (fX2_fillSets_42 (fX2_fillSets_32 n) fu l0 l1 l2 (0 : Int32) (0 : Int32)) := rfl
set_option maxRecDepth 20000 in
theorem rX2_fillSets_32 (v : mE) (d : Nat) : ∀ (n : Nat) (l0 : Nat) (l1 : Int32) (l2 : Int32), Rz v RX2 cX2_fillSets 6 none false emU (d + 1) 32 [(0, vR l0), (1, vI l1), (2, vI l2)] [] (fX2_fillSets_32 n l0 l1 l2)
  | 0, _, _, _ => fun _ _ _ hm => by cases hm
  | n + 1, l0, l1, l2 => by
    have h32 := rX2_fillSets_32 v d n
    unfold fX2_fillSets_32
    generalize fX2_fillSets_32 n = r32 at h32 ⊢
    refine rz_iload_n 33 2 dX2_fillSets_32 rfl rfl ?_
    refine rz_iload_n 34 1 dX2_fillSets_33 rfl rfl ?_
    refine rz_icmp_ge 159 37 dX2_fillSets_34 rfl rfl ?_ ?_
    · exact rz_return rfl rfl dX2_fillSets_159
    · refine rz_iconst 38 dX2_fillSets_37 rfl ci_0 ?_
      refine rz_istore_n (lv' := [(3, vI (0 : Int32)), (0, vR l0), (1, vI l1), (2, vI l2)]) 39 dX2_fillSets_38 rfl rfl rfl ?_
      refine rz_iconst 40 dX2_fillSets_39 rfl ci_0 ?_
      refine rz_istore (lv' := [(4, vI (0 : Int32)), (3, vI (0 : Int32)), (0, vR l0), (1, vI l1), (2, vI l2)]) 42 dX2_fillSets_40 rfl rfl rfl ?_
      exact rz_sub [2, 3, 4, 1, 0] rfl (rX2_fillSets_42 v d r32 h32 fu l0 l1 l2 (0 : Int32) (0 : Int32))
def fX2_fillSets_23 (l0 : Nat) (l1 : Int32) : mM Unit := bGR 2 l0 5 (fun x1 => bSI x1 (0 : Int32) (0 : Int32) (fX2_fillSets_32 fu l0 l1 (1 : Int32)))
set_option maxRecDepth 20000 in
theorem rX2_fillSets_23 (v : mE) (d : Nat) (l0 : Nat) (l1 : Int32) : Rz v RX2 cX2_fillSets 6 none false emU (d + 1) 23 [(0, vR l0), (1, vI l1)] [] (fX2_fillSets_23 l0 l1) := by
  unfold fX2_fillSets_23
  refine rz_aload_n 24 0 dX2_fillSets_23 rfl rfl ?_
  refine rz_gR 27 dX2_fillSets_24 rfl rfl fl_X2_29 (fun x1 => ?_)
  refine rz_iconst 28 dX2_fillSets_27 rfl ci_0 ?_
  refine rz_iconst 29 dX2_fillSets_28 rfl ci_0 ?_
  refine rz_iast 30 dX2_fillSets_29 rfl ?_
  refine rz_iconst 31 dX2_fillSets_30 rfl ci_1 ?_
  refine rz_istore_n (lv' := [(2, vI (1 : Int32)), (0, vR l0), (1, vI l1)]) 32 dX2_fillSets_31 rfl rfl rfl ?_
  exact rz_sub [1, 2, 0] rfl (rX2_fillSets_32 v d fu l0 l1 (1 : Int32))
def fX2_fillSets (l0 : Nat) : mM Unit := bGI 2 l0 2 (fun x1 => bGR 2 l0 5 (fun x2 => bLen 11 x2 (fun x3 => bIf (((1 : Int32) <<< (x1 &&& 31)) ≤ x3) (fX2_fillSets_23 l0 ((1 : Int32) <<< (x1 &&& 31))) (bNa 11 ((1 : Int32) <<< (x1 &&& 31)) (fun x4 => bPR 2 l0 5 x4 (fX2_fillSets_23 l0 ((1 : Int32) <<< (x1 &&& 31))))))))
set_option maxRecDepth 20000 in
theorem rX2_fillSets (v : mE) (d : Nat) (l0 : Nat) : Rz v RX2 cX2_fillSets 6 none false emU (d + 1) 0 [(0, vR l0)] [] (fX2_fillSets l0) := by
  unfold fX2_fillSets
  refine rz_iconst 1 dX2_fillSets_0 rfl ci_1 ?_
  refine rz_aload_n 2 0 dX2_fillSets_1 rfl rfl ?_
  refine rz_gI 5 dX2_fillSets_2 rfl rfl fl_X2_19 (fun x1 => ?_)
  refine rz_ishl 6 dX2_fillSets_5 rfl ?_
  refine rz_istore_n (lv' := [(1, vI ((1 : Int32) <<< (x1 &&& 31))), (0, vR l0)]) 7 dX2_fillSets_6 rfl rfl rfl ?_
  refine rz_aload_n 8 1 dX2_fillSets_7 rfl rfl ?_
  refine rz_gR 11 dX2_fillSets_8 rfl rfl fl_X2_29 (fun x2 => ?_)
  refine rz_alen 12 dX2_fillSets_11 rfl (by decide) (fun x3 => ?_)
  refine rz_iload_n 13 0 dX2_fillSets_12 rfl rfl ?_
  refine rz_icmp_ge 23 16 dX2_fillSets_13 rfl rfl ?_ ?_
  · exact rz_sub [1, 0] rfl (rX2_fillSets_23 v d l0 ((1 : Int32) <<< (x1 &&& 31)))
  · refine rz_aload_n 17 1 dX2_fillSets_16 rfl rfl ?_
    refine rz_iload_n 18 0 dX2_fillSets_17 rfl rfl ?_
    refine rz_newa 20 dX2_fillSets_18 rfl (by decide) ac_int (fun x4 => ?_)
    refine rz_pR 23 dX2_fillSets_20 rfl rfl rfl fl_X2_29 ?_
    exact rz_sub [1, 0] rfl (rX2_fillSets_23 v d l0 ((1 : Int32) <<< (x1 &&& 31)))
theorem tX2_fillSets (v : mE) (d : Nat) (l0 : Nat) : Mt v yX2_fillSets cX2_fillSets 6 none emU (d + 1) [vR l0] (fX2_fillSets l0) := mt_of rfl rfl (fun h => by cases h) rfl rfl (rX2_fillSets v d l0)
theorem dX2_weigh_0 : decode cX2_weigh 0 = .ok (.aload_n 1, 1) := by decide +kernel
theorem dX2_weigh_1 : decode cX2_weigh 1 = .ok (.invokevirtual 35, 3) := by decide +kernel
theorem dX2_weigh_4 : decode cX2_weigh 4 = .ok (.istore_n 2, 1) := by decide +kernel
theorem dX2_weigh_5 : decode cX2_weigh 5 = .ok (.aload_n 0, 1) := by decide +kernel
theorem dX2_weigh_6 : decode cX2_weigh 6 = .ok (.iload_n 2, 1) := by decide +kernel
theorem dX2_weigh_7 : decode cX2_weigh 7 = .ok (.aload_n 1, 1) := by decide +kernel
theorem dX2_weigh_8 : decode cX2_weigh 8 = .ok (.getfield 41, 3) := by decide +kernel
theorem dX2_weigh_11 : decode cX2_weigh 11 = .ok (.if_icmp .le 7, 3) := by decide +kernel
theorem dX2_weigh_14 : decode cX2_weigh 14 = .ok (.iconst 1, 1) := by decide +kernel
theorem dX2_weigh_15 : decode cX2_weigh 15 = .ok (.goto 4, 3) := by decide +kernel
theorem dX2_weigh_18 : decode cX2_weigh 18 = .ok (.iconst 0, 1) := by decide +kernel
theorem dX2_weigh_19 : decode cX2_weigh 19 = .ok (.putfield 9, 3) := by decide +kernel
theorem dX2_weigh_22 : decode cX2_weigh 22 = .ok (.aload_n 0, 1) := by decide +kernel
theorem dX2_weigh_23 : decode cX2_weigh 23 = .ok (.iload_n 2, 1) := by decide +kernel
theorem dX2_weigh_24 : decode cX2_weigh 24 = .ok (.iconst 1, 1) := by decide +kernel
theorem dX2_weigh_25 : decode cX2_weigh 25 = .ok (.isub, 1) := by decide +kernel
theorem dX2_weigh_26 : decode cX2_weigh 26 = .ok (.putfield 22, 3) := by decide +kernel
theorem dX2_weigh_29 : decode cX2_weigh 29 = .ok (.aload_n 0, 1) := by decide +kernel
theorem dX2_weigh_30 : decode cX2_weigh 30 = .ok (.iconst 0, 1) := by decide +kernel
theorem dX2_weigh_31 : decode cX2_weigh 31 = .ok (.putfield 15, 3) := by decide +kernel
theorem dX2_weigh_34 : decode cX2_weigh 34 = .ok (.aload_n 0, 1) := by decide +kernel
theorem dX2_weigh_35 : decode cX2_weigh 35 = .ok (.iconst 0, 1) := by decide +kernel
theorem dX2_weigh_36 : decode cX2_weigh 36 = .ok (.putfield 19, 3) := by decide +kernel
theorem dX2_weigh_39 : decode cX2_weigh 39 = .ok (.iconst 0, 1) := by decide +kernel
theorem dX2_weigh_40 : decode cX2_weigh 40 = .ok (.istore_n 3, 1) := by decide +kernel
theorem dX2_weigh_41 : decode cX2_weigh 41 = .ok (.iload_n 3, 1) := by decide +kernel
theorem dX2_weigh_42 : decode cX2_weigh 42 = .ok (.bipush 12, 2) := by decide +kernel
theorem dX2_weigh_44 : decode cX2_weigh 44 = .ok (.if_icmp .ge 98, 3) := by decide +kernel
theorem dX2_weigh_47 : decode cX2_weigh 47 = .ok (.aload_n 1, 1) := by decide +kernel
theorem dX2_weigh_48 : decode cX2_weigh 48 = .ok (.getfield 44, 3) := by decide +kernel
theorem dX2_weigh_51 : decode cX2_weigh 51 = .ok (.iload_n 3, 1) := by decide +kernel
theorem dX2_weigh_52 : decode cX2_weigh 52 = .ok (.aaload, 1) := by decide +kernel
theorem dX2_weigh_53 : decode cX2_weigh 53 = .ok (.astore 4, 2) := by decide +kernel
theorem dX2_weigh_55 : decode cX2_weigh 55 = .ok (.aload 4, 2) := by decide +kernel
theorem dX2_weigh_57 : decode cX2_weigh 57 = .ok (.invokevirtual 48, 3) := by decide +kernel
theorem dX2_weigh_60 : decode cX2_weigh 60 = .ok (.ifCond .eq 25, 3) := by decide +kernel
theorem dX2_weigh_63 : decode cX2_weigh 63 = .ok (.aload 4, 2) := by decide +kernel
theorem dX2_weigh_65 : decode cX2_weigh 65 = .ok (.invokevirtual 54, 3) := by decide +kernel
theorem dX2_weigh_68 : decode cX2_weigh 68 = .ok (.iload_n 2, 1) := by decide +kernel
theorem dX2_weigh_69 : decode cX2_weigh 69 = .ok (.if_icmp .lt 16, 3) := by decide +kernel
theorem dX2_weigh_72 : decode cX2_weigh 72 = .ok (.aload_n 0, 1) := by decide +kernel
theorem dX2_weigh_73 : decode cX2_weigh 73 = .ok (.dup, 1) := by decide +kernel
theorem dX2_weigh_74 : decode cX2_weigh 74 = .ok (.getfield 15, 3) := by decide +kernel
theorem dX2_weigh_77 : decode cX2_weigh 77 = .ok (.iconst 1, 1) := by decide +kernel
theorem dX2_weigh_78 : decode cX2_weigh 78 = .ok (.iadd, 1) := by decide +kernel
theorem dX2_weigh_79 : decode cX2_weigh 79 = .ok (.putfield 15, 3) := by decide +kernel
theorem dX2_weigh_82 : decode cX2_weigh 82 = .ok (.goto 54, 3) := by decide +kernel
theorem dX2_weigh_85 : decode cX2_weigh 85 = .ok (.aload 4, 2) := by decide +kernel
theorem dX2_weigh_87 : decode cX2_weigh 87 = .ok (.invokevirtual 48, 3) := by decide +kernel
theorem dX2_weigh_90 : decode cX2_weigh 90 = .ok (.ifCond .eq 46, 3) := by decide +kernel
theorem dX2_weigh_93 : decode cX2_weigh 93 = .ok (.aload 4, 2) := by decide +kernel
theorem dX2_weigh_95 : decode cX2_weigh 95 = .ok (.getfield 57, 3) := by decide +kernel
theorem dX2_weigh_98 : decode cX2_weigh 98 = .ok (.ifCond .ne 38, 3) := by decide +kernel
theorem dX2_weigh_101 : decode cX2_weigh 101 = .ok (.aload 4, 2) := by decide +kernel
theorem dX2_weigh_103 : decode cX2_weigh 103 = .ok (.invokevirtual 54, 3) := by decide +kernel
theorem dX2_weigh_106 : decode cX2_weigh 106 = .ok (.iconst 1, 1) := by decide +kernel
theorem dX2_weigh_107 : decode cX2_weigh 107 = .ok (.if_icmp .le 29, 3) := by decide +kernel
theorem dX2_weigh_110 : decode cX2_weigh 110 = .ok (.aload_n 0, 1) := by decide +kernel
theorem dX2_weigh_111 : decode cX2_weigh 111 = .ok (.getfield 25, 3) := by decide +kernel
theorem dX2_weigh_114 : decode cX2_weigh 114 = .ok (.aload_n 0, 1) := by decide +kernel
theorem dX2_weigh_115 : decode cX2_weigh 115 = .ok (.getfield 19, 3) := by decide +kernel
theorem dX2_weigh_118 : decode cX2_weigh 118 = .ok (.aload 4, 2) := by decide +kernel
theorem dX2_weigh_120 : decode cX2_weigh 120 = .ok (.invokevirtual 54, 3) := by decide +kernel
theorem dX2_weigh_123 : decode cX2_weigh 123 = .ok (.iconst 1, 1) := by decide +kernel
theorem dX2_weigh_124 : decode cX2_weigh 124 = .ok (.isub, 1) := by decide +kernel
theorem dX2_weigh_125 : decode cX2_weigh 125 = .ok (.iastore, 1) := by decide +kernel
theorem dX2_weigh_126 : decode cX2_weigh 126 = .ok (.aload_n 0, 1) := by decide +kernel
theorem dX2_weigh_127 : decode cX2_weigh 127 = .ok (.dup, 1) := by decide +kernel
theorem dX2_weigh_128 : decode cX2_weigh 128 = .ok (.getfield 19, 3) := by decide +kernel
theorem dX2_weigh_131 : decode cX2_weigh 131 = .ok (.iconst 1, 1) := by decide +kernel
theorem dX2_weigh_132 : decode cX2_weigh 132 = .ok (.iadd, 1) := by decide +kernel
theorem dX2_weigh_133 : decode cX2_weigh 133 = .ok (.putfield 19, 3) := by decide +kernel
theorem dX2_weigh_136 : decode cX2_weigh 136 = .ok (.iinc 3 1, 3) := by decide +kernel
theorem dX2_weigh_139 : decode cX2_weigh 139 = .ok (.goto (-98), 3) := by decide +kernel
theorem dX2_weigh_142 : decode cX2_weigh 142 = .ok (.aload_n 0, 1) := by decide +kernel
theorem dX2_weigh_143 : decode cX2_weigh 143 = .ok (.getfield 32, 3) := by decide +kernel
theorem dX2_weigh_146 : decode cX2_weigh 146 = .ok (.iconst (-1), 1) := by decide +kernel
theorem dX2_weigh_147 : decode cX2_weigh 147 = .ok (.invokestatic 60, 3) := by decide +kernel
theorem dX2_weigh_150 : decode cX2_weigh 150 = .ok (.aload_n 0, 1) := by decide +kernel
theorem dX2_weigh_151 : decode cX2_weigh 151 = .ok (.getfield 32, 3) := by decide +kernel
theorem dX2_weigh_154 : decode cX2_weigh 154 = .ok (.iconst 0, 1) := by decide +kernel
theorem dX2_weigh_155 : decode cX2_weigh 155 = .ok (.iconst 0, 1) := by decide +kernel
theorem dX2_weigh_156 : decode cX2_weigh 156 = .ok (.iastore, 1) := by decide +kernel
theorem dX2_weigh_157 : decode cX2_weigh 157 = .ok (.aload_n 0, 1) := by decide +kernel
theorem dX2_weigh_158 : decode cX2_weigh 158 = .ok (.getfield 9, 3) := by decide +kernel
theorem dX2_weigh_161 : decode cX2_weigh 161 = .ok (.ifCond .ne 18, 3) := by decide +kernel
theorem dX2_weigh_164 : decode cX2_weigh 164 = .ok (.aload_n 1, 1) := by decide +kernel
theorem dX2_weigh_165 : decode cX2_weigh 165 = .ok (.invokevirtual 66, 3) := by decide +kernel
theorem dX2_weigh_168 : decode cX2_weigh 168 = .ok (.aload_n 0, 1) := by decide +kernel
theorem dX2_weigh_169 : decode cX2_weigh 169 = .ok (.getfield 15, 3) := by decide +kernel
theorem dX2_weigh_172 : decode cX2_weigh 172 = .ok (.if_icmp .le 7, 3) := by decide +kernel
theorem dX2_weigh_175 : decode cX2_weigh 175 = .ok (.aload_n 0, 1) := by decide +kernel
theorem dX2_weigh_176 : decode cX2_weigh 176 = .ok (.invokevirtual 69, 3) := by decide +kernel
theorem dX2_weigh_179 : decode cX2_weigh 179 = .ok (.return_, 1) := by decide +kernel
def fX2_weigh_142 (l0 : Nat) (l1 : Nat) : mM Unit := bGR 2 l0 6 (fun x1 => bCall (fJ7_fill_53178 x1 (-1 : Int32)) (fun _ => bGR 2 l0 6 (fun x2 => bSI x2 (0 : Int32) (0 : Int32) (bGI 2 l0 0 (fun x3 => bIf (x3 = 0) (bCallV 7 l1 (fX7_countAlive l1) (fun x4 => bGI 2 l0 1 (fun x5 => bIf (x4 ≤ x5) (bRet ()) (bCallV 2 l0 (fX2_fillSets l0) (fun _ => bRet ()))))) (bRet ()))))))
set_option maxRecDepth 20000 in
theorem rX2_weigh_142 (v : mE) (d : Nat) (l0 : Nat) (l1 : Nat) : Rz v RX2 cX2_weigh 5 none false emU (d + 2) 142 [(0, vR l0), (1, vR l1)] [] (fX2_weigh_142 l0 l1) := by
  unfold fX2_weigh_142
  refine rz_aload_n 143 0 dX2_weigh_142 rfl rfl ?_
  refine rz_gR 146 dX2_weigh_143 rfl rfl fl_X2_32 (fun x1 => ?_)
  refine rz_iconst 147 dX2_weigh_146 rfl ci_m1 ?_
  refine rz_callS 150 dX2_weigh_147 rfl (tJ7_fill_53178 v (d + 1) x1 (-1 : Int32)) rfl rfl ml_X2_60 sm_J7_fill_53178 in_J7 co_J7_fill_53178 rfl rfl (fun _ => ?_)
  refine rz_aload_n 151 0 dX2_weigh_150 rfl rfl ?_
  refine rz_gR 154 dX2_weigh_151 rfl rfl fl_X2_32 (fun x2 => ?_)
  refine rz_iconst 155 dX2_weigh_154 rfl ci_0 ?_
  refine rz_iconst 156 dX2_weigh_155 rfl ci_0 ?_
  refine rz_iast 157 dX2_weigh_156 rfl ?_
  refine rz_aload_n 158 0 dX2_weigh_157 rfl rfl ?_
  refine rz_gI 161 dX2_weigh_158 rfl rfl fl_X2_9 (fun x3 => ?_)
  refine rz_if_ne 179 164 dX2_weigh_161 rfl rfl ?_ ?_
  · exact rz_return rfl rfl dX2_weigh_179
  · refine rz_aload_n 165 1 dX2_weigh_164 rfl rfl ?_
    refine rz_callV 168 dX2_weigh_165 rfl (tX7_countAlive v (d + 0) l1) rfl rfl rfl rfl ml_X2_66 im_X7_countAlive se_X7_X7_countAlive in_X7 co_X7_countAlive rfl rfl (fun x4 => ?_)
    refine rz_aload_n 169 0 dX2_weigh_168 rfl rfl ?_
    refine rz_gI 172 dX2_weigh_169 rfl rfl fl_X2_15 (fun x5 => ?_)
    refine rz_icmp_le 179 175 dX2_weigh_172 rfl rfl ?_ ?_
    · exact rz_return rfl rfl dX2_weigh_179
    · refine rz_aload_n 176 0 dX2_weigh_175 rfl rfl ?_
      refine rz_callV 179 dX2_weigh_176 rfl (tX2_fillSets v (d + 0) l0) rfl rfl rfl rfl ml_X2_69 im_X2_fillSets se_X2_X2_fillSets in_X2 co_X2_fillSets rfl rfl (fun _ => ?_)
      exact rz_return rfl rfl dX2_weigh_179
def fX2_weigh_85 (r41 : Nat → Nat → Int32 → Int32 → mM Unit) (l0 : Nat) (l1 : Nat) (l2 : Int32) (l3 : Int32) (l4 : Nat) : mM Unit := bCallV 3 l4 (fX3_isThere l4) (fun x1 => bIf (x1 = 0) (r41 l0 l1 l2 (l3 + 1)) (bGI 3 l4 4 (fun x2 => bIf (x2 = 0) (bCallV 3 l4 (fX3_reach l4) (fun x3 => bIf (x3 ≤ (1 : Int32)) (r41 l0 l1 l2 (l3 + 1)) (bGR 2 l0 4 (fun x4 => bGI 2 l0 2 (fun x5 => bCallV 3 l4 (fX3_reach l4) (fun x6 => bSI x4 x5 (x6 - (1 : Int32)) (bGI 2 l0 2 (fun x7 => bPI 2 l0 2 (x7 + (1 : Int32)) (r41 l0 l1 l2 (l3 + 1)))))))))) (r41 l0 l1 l2 (l3 + 1)))))
set_option maxRecDepth 20000 in
theorem rX2_weigh_85 (v : mE) (d : Nat) (r41 : Nat → Nat → Int32 → Int32 → mM Unit) (h41 : ∀ (y0 : Nat) (y1 : Nat) (y2 : Int32) (y3 : Int32), Rz v RX2 cX2_weigh 5 none false emU (d + 2) 41 [(0, vR y0), (1, vR y1), (2, vI y2), (3, vI y3)] [] (r41 y0 y1 y2 y3)) (l0 : Nat) (l1 : Nat) (l2 : Int32) (l3 : Int32) (l4 : Nat) : Rz v RX2 cX2_weigh 5 none false emU (d + 2) 85 [(0, vR l0), (1, vR l1), (2, vI l2), (3, vI l3), (4, vR l4)] [] (fX2_weigh_85 r41 l0 l1 l2 l3 l4) := by
  unfold fX2_weigh_85
  refine rz_aload 87 4 dX2_weigh_85 rfl rfl ?_
  refine rz_callV 90 dX2_weigh_87 rfl (tX3_isThere v (d + 1) l4) rfl rfl rfl rfl ml_X2_48 im_X3_isThere se_X3_X3_isThere in_X3 co_X3_isThere rfl rfl (fun x1 => ?_)
  refine rz_if_eq 136 93 dX2_weigh_90 rfl rfl ?_ ?_
  · refine rz_iinc (lv' := [(3, vI (l3 + 1)), (0, vR l0), (1, vR l1), (2, vI l2), (4, vR l4)]) 139 3 dX2_weigh_136 rfl rfl (cn_1 _) rfl rfl ?_
    refine rz_goto 41 dX2_weigh_139 rfl ?_
    exact rz_sub [1, 2, 3, 0] rfl (h41 l0 l1 l2 (l3 + 1))
  · refine rz_aload 95 4 dX2_weigh_93 rfl rfl ?_
    refine rz_gI 98 dX2_weigh_95 rfl rfl fl_X2_57 (fun x2 => ?_)
    refine rz_if_ne 136 101 dX2_weigh_98 rfl rfl ?_ ?_
    · refine rz_iinc (lv' := [(3, vI (l3 + 1)), (0, vR l0), (1, vR l1), (2, vI l2), (4, vR l4)]) 139 3 dX2_weigh_136 rfl rfl (cn_1 _) rfl rfl ?_
      refine rz_goto 41 dX2_weigh_139 rfl ?_
      exact rz_sub [1, 2, 3, 0] rfl (h41 l0 l1 l2 (l3 + 1))
    · refine rz_aload 103 4 dX2_weigh_101 rfl rfl ?_
      refine rz_callV 106 dX2_weigh_103 rfl (tX3_reach v (d + 0) l4) rfl rfl rfl rfl ml_X2_54 im_X3_reach se_X3_X3_reach in_X3 co_X3_reach rfl rfl (fun x3 => ?_)
      refine rz_iconst 107 dX2_weigh_106 rfl ci_1 ?_
      refine rz_icmp_le 136 110 dX2_weigh_107 rfl rfl ?_ ?_
      · refine rz_iinc (lv' := [(3, vI (l3 + 1)), (0, vR l0), (1, vR l1), (2, vI l2), (4, vR l4)]) 139 3 dX2_weigh_136 rfl rfl (cn_1 _) rfl rfl ?_
        refine rz_goto 41 dX2_weigh_139 rfl ?_
        exact rz_sub [1, 2, 3, 0] rfl (h41 l0 l1 l2 (l3 + 1))
      · refine rz_aload_n 111 0 dX2_weigh_110 rfl rfl ?_
        refine rz_gR 114 dX2_weigh_111 rfl rfl fl_X2_25 (fun x4 => ?_)
        refine rz_aload_n 115 0 dX2_weigh_114 rfl rfl ?_
        refine rz_gI 118 dX2_weigh_115 rfl rfl fl_X2_19 (fun x5 => ?_)
        refine rz_aload 120 4 dX2_weigh_118 rfl rfl ?_
        refine rz_callV 123 dX2_weigh_120 rfl (tX3_reach v (d + 0) l4) rfl rfl rfl rfl ml_X2_54 im_X3_reach se_X3_X3_reach in_X3 co_X3_reach rfl rfl (fun x6 => ?_)
        refine rz_iconst 124 dX2_weigh_123 rfl ci_1 ?_
        refine rz_isub 125 dX2_weigh_124 rfl ?_
        refine rz_iast 126 dX2_weigh_125 rfl ?_
        refine rz_aload_n 127 0 dX2_weigh_126 rfl rfl ?_
        refine rz_dup 128 dX2_weigh_127 rfl rfl ?_
        refine rz_gI 131 dX2_weigh_128 rfl rfl fl_X2_19 (fun x7 => ?_)
        refine rz_iconst 132 dX2_weigh_131 rfl ci_1 ?_
        refine rz_iadd 133 dX2_weigh_132 rfl ?_
        refine rz_pI 136 dX2_weigh_133 rfl rfl rfl rfl fl_X2_19 ?_
        refine rz_iinc (lv' := [(3, vI (l3 + 1)), (0, vR l0), (1, vR l1), (2, vI l2), (4, vR l4)]) 139 3 dX2_weigh_136 rfl rfl (cn_1 _) rfl rfl ?_
        refine rz_goto 41 dX2_weigh_139 rfl ?_
        exact rz_sub [1, 2, 3, 0] rfl (h41 l0 l1 l2 (l3 + 1))
def fX2_weigh_41 : Nat → Nat → Nat → Int32 → Int32 → mM Unit
  | 0 => fun _ _ _ _ => fun _ => none
  | n + 1 => fun l0 l1 l2 l3 => let r41 := fX2_weigh_41 n; bIf ((12 : Int32) ≤ l3) (fX2_weigh_142 l0 l1) (bGR 7 l1 10 (fun x1 => bAR 14 x1 l3 (fun x2 => bCallV 3 x2 (fX3_isThere x2) (fun x3 => bIf (x3 = 0) (fX2_weigh_85 r41 l0 l1 l2 l3 x2) (bCallV 3 x2 (fX3_reach x2) (fun x4 => bIf (x4 < l2) (fX2_weigh_85 r41 l0 l1 l2 l3 x2) (bGI 2 l0 1 (fun x5 => bPI 2 l0 1 (x5 + (1 : Int32)) (r41 l0 l1 l2 (l3 + 1))))))))))
theorem qX2_weigh_41  (n : Nat) (l0 : Nat) (l1 : Nat) (l2 : Int32) (l3 : Int32) : fX2_weigh_41 (n + 1) l0 l1 l2 l3 = bIf ((12 : Int32) ≤ l3) (fX2_weigh_142 l0 l1) (bGR 7 l1 10 (fun x1 => bAR 14 x1 l3 (fun x2 => bCallV 3 x2 (fX3_isThere x2) (fun x3 => bIf (x3 = 0) (fX2_weigh_85 (fX2_weigh_41 n) l0 l1 l2 l3 x2) (bCallV 3 x2 (fX3_reach x2) (fun x4 => bIf (x4 < l2) (fX2_weigh_85 (fX2_weigh_41 n) l0 l1 l2 l3 x2) (bGI 2 l0 1 (fun x5 => bPI 2 l0 1 (x5 + (1 : Int32)) ((fX2_weigh_41 n) l0 l1 l2 (l3 + 1)))))))))) := rfl
set_option maxRecDepth 20000 in
theorem rX2_weigh_41 (v : mE) (d : Nat) : ∀ (n : Nat) (l0 : Nat) (l1 : Nat) (l2 : Int32) (l3 : Int32), Rz v RX2 cX2_weigh 5 none false emU (d + 2) 41 [(0, vR l0), (1, vR l1), (2, vI l2), (3, vI l3)] [] (fX2_weigh_41 n l0 l1 l2 l3)
  | 0, _, _, _, _ => fun _ _ _ hm => by cases hm
  | n + 1, l0, l1, l2, l3 => by
    have h41 := rX2_weigh_41 v d n
    unfold fX2_weigh_41
    generalize fX2_weigh_41 n = r41 at h41 ⊢
    refine rz_iload_n 42 3 dX2_weigh_41 rfl rfl ?_
    refine rz_bipush 44 dX2_weigh_42 rfl cb_12 ?_
    refine rz_icmp_ge 142 47 dX2_weigh_44 rfl rfl ?_ ?_
    · exact rz_sub [0, 1] rfl (rX2_weigh_142 v d l0 l1)
    · refine rz_aload_n 48 1 dX2_weigh_47 rfl rfl ?_
      refine rz_gR 51 dX2_weigh_48 rfl rfl fl_X2_44 (fun x1 => ?_)
      refine rz_iload_n 52 3 dX2_weigh_51 rfl rfl ?_
      refine rz_aald 53 dX2_weigh_52 rfl (by decide) (fun x2 => ?_)
      refine rz_astore (lv' := [(4, vR x2), (0, vR l0), (1, vR l1), (2, vI l2), (3, vI l3)]) 55 dX2_weigh_53 rfl rfl rfl ?_
      refine rz_aload 57 0 dX2_weigh_55 rfl rfl ?_
      refine rz_callV 60 dX2_weigh_57 rfl (tX3_isThere v (d + 1) x2) rfl rfl rfl rfl ml_X2_48 im_X3_isThere se_X3_X3_isThere in_X3 co_X3_isThere rfl rfl (fun x3 => ?_)
      refine rz_if_eq 85 63 dX2_weigh_60 rfl rfl ?_ ?_
      · exact rz_sub [1, 2, 3, 4, 0] rfl (rX2_weigh_85 v d r41 h41 l0 l1 l2 l3 x2)
      · refine rz_aload 65 0 dX2_weigh_63 rfl rfl ?_
        refine rz_callV 68 dX2_weigh_65 rfl (tX3_reach v (d + 0) x2) rfl rfl rfl rfl ml_X2_54 im_X3_reach se_X3_X3_reach in_X3 co_X3_reach rfl rfl (fun x4 => ?_)
        refine rz_iload_n 69 3 dX2_weigh_68 rfl rfl ?_
        refine rz_icmp_lt 85 72 dX2_weigh_69 rfl rfl ?_ ?_
        · exact rz_sub [1, 2, 3, 4, 0] rfl (rX2_weigh_85 v d r41 h41 l0 l1 l2 l3 x2)
        · refine rz_aload_n 73 1 dX2_weigh_72 rfl rfl ?_
          refine rz_dup 74 dX2_weigh_73 rfl rfl ?_
          refine rz_gI 77 dX2_weigh_74 rfl rfl fl_X2_15 (fun x5 => ?_)
          refine rz_iconst 78 dX2_weigh_77 rfl ci_1 ?_
          refine rz_iadd 79 dX2_weigh_78 rfl ?_
          refine rz_pI 82 dX2_weigh_79 rfl rfl rfl rfl fl_X2_15 ?_
          refine rz_goto 136 dX2_weigh_82 rfl ?_
          refine rz_iinc (lv' := [(3, vI (l3 + 1)), (4, vR x2), (0, vR l0), (1, vR l1), (2, vI l2)]) 139 4 dX2_weigh_136 rfl rfl (cn_1 _) rfl rfl ?_
          refine rz_goto 41 dX2_weigh_139 rfl ?_
          exact rz_sub [2, 3, 4, 0] rfl (h41 l0 l1 l2 (l3 + 1))
def fX2_weigh_19 (l0 : Nat) (l1 : Nat) (l2 : Int32) (s0 : Int32) (s1 : Nat) : mM Unit := bPZ 2 s1 0 s0 (bPI 2 l0 3 (l2 - (1 : Int32)) (bPI 2 l0 1 (0 : Int32) (bPI 2 l0 2 (0 : Int32) (fX2_weigh_41 fu l0 l1 l2 (0 : Int32)))))
set_option maxRecDepth 20000 in
theorem rX2_weigh_19 (v : mE) (d : Nat) (l0 : Nat) (l1 : Nat) (l2 : Int32) (s0 : Int32) (s1 : Nat) : Rz v RX2 cX2_weigh 5 none false emU (d + 2) 19 [(0, vR l0), (1, vR l1), (2, vI l2)] [vI s0, vR s1] (fX2_weigh_19 l0 l1 l2 s0 s1) := by
  unfold fX2_weigh_19
  refine rz_pZ 22 dX2_weigh_19 rfl rfl rfl rfl fl_X2_9 ?_
  refine rz_aload_n 23 0 dX2_weigh_22 rfl rfl ?_
  refine rz_iload_n 24 2 dX2_weigh_23 rfl rfl ?_
  refine rz_iconst 25 dX2_weigh_24 rfl ci_1 ?_
  refine rz_isub 26 dX2_weigh_25 rfl ?_
  refine rz_pI 29 dX2_weigh_26 rfl rfl rfl rfl fl_X2_22 ?_
  refine rz_aload_n 30 0 dX2_weigh_29 rfl rfl ?_
  refine rz_iconst 31 dX2_weigh_30 rfl ci_0 ?_
  refine rz_pI 34 dX2_weigh_31 rfl rfl rfl rfl fl_X2_15 ?_
  refine rz_aload_n 35 0 dX2_weigh_34 rfl rfl ?_
  refine rz_iconst 36 dX2_weigh_35 rfl ci_0 ?_
  refine rz_pI 39 dX2_weigh_36 rfl rfl rfl rfl fl_X2_19 ?_
  refine rz_iconst 40 dX2_weigh_39 rfl ci_0 ?_
  refine rz_istore_n (lv' := [(3, vI (0 : Int32)), (0, vR l0), (1, vR l1), (2, vI l2)]) 41 dX2_weigh_40 rfl rfl rfl ?_
  exact rz_sub [1, 2, 3, 0] rfl (rX2_weigh_41 v d fu l0 l1 l2 (0 : Int32))
def fX2_weigh (l0 : Nat) (l1 : Nat) : mM Unit := bCallV 7 l1 (fX7_depthNow l1) (fun x1 => bGI 7 l1 2 (fun x2 => bIf (x1 ≤ x2) (fX2_weigh_19 l0 l1 x1 (0 : Int32) l0) (fX2_weigh_19 l0 l1 x1 (1 : Int32) l0)))
set_option maxRecDepth 20000 in
theorem rX2_weigh (v : mE) (d : Nat) (l0 : Nat) (l1 : Nat) : Rz v RX2 cX2_weigh 5 none false emU (d + 2) 0 [(0, vR l0), (1, vR l1)] [] (fX2_weigh l0 l1) := by
  unfold fX2_weigh
  refine rz_aload_n 1 1 dX2_weigh_0 rfl rfl ?_
  refine rz_callV 4 dX2_weigh_1 rfl (tX7_depthNow v (d + 0) l1) rfl rfl rfl rfl ml_X2_35 im_X7_depthNow se_X7_X7_depthNow in_X7 co_X7_depthNow rfl rfl (fun x1 => ?_)
  refine rz_istore_n (lv' := [(2, vI x1), (0, vR l0), (1, vR l1)]) 5 dX2_weigh_4 rfl rfl rfl ?_
  refine rz_aload_n 6 1 dX2_weigh_5 rfl rfl ?_
  refine rz_iload_n 7 0 dX2_weigh_6 rfl rfl ?_
  refine rz_aload_n 8 2 dX2_weigh_7 rfl rfl ?_
  refine rz_gI 11 dX2_weigh_8 rfl rfl fl_X2_41 (fun x2 => ?_)
  refine rz_icmp_le 18 14 dX2_weigh_11 rfl rfl ?_ ?_
  · refine rz_iconst 19 dX2_weigh_18 rfl ci_0 ?_
    exact rz_sub [1, 2, 0] rfl (rX2_weigh_19 v d l0 l1 x1 (0 : Int32) l0)
  · refine rz_iconst 15 dX2_weigh_14 rfl ci_1 ?_
    refine rz_goto 19 dX2_weigh_15 rfl ?_
    exact rz_sub [1, 2, 0] rfl (rX2_weigh_19 v d l0 l1 x1 (1 : Int32) l0)
theorem tX2_weigh (v : mE) (d : Nat) (l0 : Nat) (l1 : Nat) : Mt v yX2_weigh cX2_weigh 5 none emU (d + 2) [vR l0, vR l1] (fX2_weigh l0 l1) := mt_of rfl rfl (fun h => by cases h) rfl rfl (rX2_weigh v d l0 l1)
theorem dX2_knotsFor_0 : decode cX2_knotsFor 0 = .ok (.aload_n 0, 1) := by decide +kernel
theorem dX2_knotsFor_1 : decode cX2_knotsFor 1 = .ok (.getfield 9, 3) := by decide +kernel
theorem dX2_knotsFor_4 : decode cX2_knotsFor 4 = .ok (.ifCond .eq 5, 3) := by decide +kernel
theorem dX2_knotsFor_7 : decode cX2_knotsFor 7 = .ok (.iconst (-1), 1) := by decide +kernel
theorem dX2_knotsFor_8 : decode cX2_knotsFor 8 = .ok (.ireturn, 1) := by decide +kernel
theorem dX2_knotsFor_9 : decode cX2_knotsFor 9 = .ok (.iconst 0, 1) := by decide +kernel
theorem dX2_knotsFor_10 : decode cX2_knotsFor 10 = .ok (.iload_n 1, 1) := by decide +kernel
theorem dX2_knotsFor_11 : decode cX2_knotsFor 11 = .ok (.aload_n 0, 1) := by decide +kernel
theorem dX2_knotsFor_12 : decode cX2_knotsFor 12 = .ok (.getfield 15, 3) := by decide +kernel
theorem dX2_knotsFor_15 : decode cX2_knotsFor 15 = .ok (.isub, 1) := by decide +kernel
theorem dX2_knotsFor_16 : decode cX2_knotsFor 16 = .ok (.invokestatic 76, 3) := by decide +kernel
theorem dX2_knotsFor_19 : decode cX2_knotsFor 19 = .ok (.istore_n 2, 1) := by decide +kernel
theorem dX2_knotsFor_20 : decode cX2_knotsFor 20 = .ok (.iload_n 2, 1) := by decide +kernel
theorem dX2_knotsFor_21 : decode cX2_knotsFor 21 = .ok (.bipush 12, 2) := by decide +kernel
theorem dX2_knotsFor_23 : decode cX2_knotsFor 23 = .ok (.if_icmp .gt 13, 3) := by decide +kernel
theorem dX2_knotsFor_26 : decode cX2_knotsFor 26 = .ok (.aload_n 0, 1) := by decide +kernel
theorem dX2_knotsFor_27 : decode cX2_knotsFor 27 = .ok (.getfield 32, 3) := by decide +kernel
theorem dX2_knotsFor_30 : decode cX2_knotsFor 30 = .ok (.iload_n 2, 1) := by decide +kernel
theorem dX2_knotsFor_31 : decode cX2_knotsFor 31 = .ok (.iaload, 1) := by decide +kernel
theorem dX2_knotsFor_32 : decode cX2_knotsFor 32 = .ok (.iconst (-1), 1) := by decide +kernel
theorem dX2_knotsFor_33 : decode cX2_knotsFor 33 = .ok (.if_icmp .ne 5, 3) := by decide +kernel
theorem dX2_knotsFor_36 : decode cX2_knotsFor 36 = .ok (.iconst (-1), 1) := by decide +kernel
theorem dX2_knotsFor_37 : decode cX2_knotsFor 37 = .ok (.ireturn, 1) := by decide +kernel
theorem dX2_knotsFor_38 : decode cX2_knotsFor 38 = .ok (.aload_n 0, 1) := by decide +kernel
theorem dX2_knotsFor_39 : decode cX2_knotsFor 39 = .ok (.getfield 32, 3) := by decide +kernel
theorem dX2_knotsFor_42 : decode cX2_knotsFor 42 = .ok (.iload_n 2, 1) := by decide +kernel
theorem dX2_knotsFor_43 : decode cX2_knotsFor 43 = .ok (.iaload, 1) := by decide +kernel
theorem dX2_knotsFor_44 : decode cX2_knotsFor 44 = .ok (.iload_n 2, 1) := by decide +kernel
theorem dX2_knotsFor_45 : decode cX2_knotsFor 45 = .ok (.isub, 1) := by decide +kernel
theorem dX2_knotsFor_46 : decode cX2_knotsFor 46 = .ok (.ireturn, 1) := by decide +kernel
def fX2_knotsFor (l0 : Nat) (l1 : Int32) : mM Int32 := bGI 2 l0 0 (fun x1 => bIf (x1 = 0) (bGI 2 l0 1 (fun x2 => bIf ((12 : Int32) < (jMax (0 : Int32) (l1 - x2))) (bRet (-1 : Int32)) (bGR 2 l0 6 (fun x3 => bAI 11 x3 (jMax (0 : Int32) (l1 - x2)) (fun x4 => bIf (x4 = (-1 : Int32)) (bRet (-1 : Int32)) (bGR 2 l0 6 (fun x5 => bAI 11 x5 (jMax (0 : Int32) (l1 - x2)) (fun x6 => bRet (x6 - (jMax (0 : Int32) (l1 - x2))))))))))) (bRet (-1 : Int32)))
set_option maxRecDepth 20000 in
theorem rX2_knotsFor (v : mE) (d : Nat) (l0 : Nat) (l1 : Int32) : Rz v RX2 cX2_knotsFor 3 (some .int) false emI (d + 1) 0 [(0, vR l0), (1, vI l1)] [] (fX2_knotsFor l0 l1) := by
  unfold fX2_knotsFor
  refine rz_aload_n 1 0 dX2_knotsFor_0 rfl rfl ?_
  refine rz_gI 4 dX2_knotsFor_1 rfl rfl fl_X2_9 (fun x1 => ?_)
  refine rz_if_eq 9 7 dX2_knotsFor_4 rfl rfl ?_ ?_
  · refine rz_iconst 10 dX2_knotsFor_9 rfl ci_0 ?_
    refine rz_iload_n 11 1 dX2_knotsFor_10 rfl rfl ?_
    refine rz_aload_n 12 0 dX2_knotsFor_11 rfl rfl ?_
    refine rz_gI 15 dX2_knotsFor_12 rfl rfl fl_X2_15 (fun x2 => ?_)
    refine rz_isub 16 dX2_knotsFor_15 rfl ?_
    refine rz_mmax 19 dX2_knotsFor_16 rfl ml_X2_76 rfl rfl ?_
    refine rz_istore_n (lv' := [(2, vI (jMax (0 : Int32) (l1 - x2))), (0, vR l0), (1, vI l1)]) 20 dX2_knotsFor_19 rfl rfl rfl ?_
    refine rz_iload_n 21 0 dX2_knotsFor_20 rfl rfl ?_
    refine rz_bipush 23 dX2_knotsFor_21 rfl cb_12 ?_
    refine rz_icmp_gt 36 26 dX2_knotsFor_23 rfl rfl ?_ ?_
    · refine rz_iconst 37 dX2_knotsFor_36 rfl ci_m1 ?_
      exact rz_ireturn rfl rfl dX2_knotsFor_37
    · refine rz_aload_n 27 1 dX2_knotsFor_26 rfl rfl ?_
      refine rz_gR 30 dX2_knotsFor_27 rfl rfl fl_X2_32 (fun x3 => ?_)
      refine rz_iload_n 31 0 dX2_knotsFor_30 rfl rfl ?_
      refine rz_iald 32 dX2_knotsFor_31 rfl (fun x4 => ?_)
      refine rz_iconst 33 dX2_knotsFor_32 rfl ci_m1 ?_
      refine rz_icmp_ne 38 36 dX2_knotsFor_33 rfl rfl ?_ ?_
      · refine rz_aload_n 39 1 dX2_knotsFor_38 rfl rfl ?_
        refine rz_gR 42 dX2_knotsFor_39 rfl rfl fl_X2_32 (fun x5 => ?_)
        refine rz_iload_n 43 0 dX2_knotsFor_42 rfl rfl ?_
        refine rz_iald 44 dX2_knotsFor_43 rfl (fun x6 => ?_)
        refine rz_iload_n 45 0 dX2_knotsFor_44 rfl rfl ?_
        refine rz_isub 46 dX2_knotsFor_45 rfl ?_
        exact rz_ireturn rfl rfl dX2_knotsFor_46
      · refine rz_iconst 37 dX2_knotsFor_36 rfl ci_m1 ?_
        exact rz_ireturn rfl rfl dX2_knotsFor_37
  · refine rz_iconst 8 dX2_knotsFor_7 rfl ci_m1 ?_
    exact rz_ireturn rfl rfl dX2_knotsFor_8
theorem tX2_knotsFor (v : mE) (d : Nat) (l0 : Nat) (l1 : Int32) : Mt v yX2_knotsFor cX2_knotsFor 3 (some .int) emI (d + 1) [vR l0, vI l1] (fX2_knotsFor l0 l1) := mt_of rfl rfl (fun h => by cases h) rfl rfl (rX2_knotsFor v d l0 l1)

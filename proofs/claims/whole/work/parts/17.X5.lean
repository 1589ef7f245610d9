theorem dX5_init_0 : decode cX5_init 0 = .ok (.aload_n 0, 1) := by decide +kernel
theorem dX5_init_1 : decode cX5_init 1 = .ok (.invokespecial 3, 3) := by decide +kernel
theorem dX5_init_4 : decode cX5_init 4 = .ok (.aload_n 0, 1) := by decide +kernel
theorem dX5_init_5 : decode cX5_init 5 = .ok (.bipush 60, 2) := by decide +kernel
theorem dX5_init_7 : decode cX5_init 7 = .ok (.newarray .long, 2) := by decide +kernel
theorem dX5_init_9 : decode cX5_init 9 = .ok (.putfield 9, 3) := by decide +kernel
theorem dX5_init_12 : decode cX5_init 12 = .ok (.aload_n 0, 1) := by decide +kernel
theorem dX5_init_13 : decode cX5_init 13 = .ok (.iconst 0, 1) := by decide +kernel
theorem dX5_init_14 : decode cX5_init 14 = .ok (.putfield 15, 3) := by decide +kernel
theorem dX5_init_17 : decode cX5_init 17 = .ok (.aload_n 0, 1) := by decide +kernel
theorem dX5_init_18 : decode cX5_init 18 = .ok (.iconst (-1), 1) := by decide +kernel
theorem dX5_init_19 : decode cX5_init 19 = .ok (.putfield 19, 3) := by decide +kernel
theorem dX5_init_22 : decode cX5_init 22 = .ok (.return_, 1) := by decide +kernel
def fX5_init (l0 : Nat) : mM Unit := bObj l0 (bNa 12 (60 : Int32) (fun x1 => bPR 5 l0 0 x1 (bPI 5 l0 1 (0 : Int32) (bPI 5 l0 2 (-1 : Int32) (bRet ())))))
set_option maxRecDepth 20000 in
theorem rX5_init (v : mE) (d : Nat) (l0 : Nat) : Rz v RX5 cX5_init 1 none true emU (d + 1) 0 [(0, vR l0)] [] (fX5_init l0) := by
  unfold fX5_init
  refine rz_aload_n 1 0 dX5_init_0 rfl rfl ?_
  refine rz_obj 4 dX5_init_1 rfl ml_X5_3 im_java_lang_Object__init____V co_java_lang_Object__init____V rfl rfl ?_
  refine rz_aload_n 5 0 dX5_init_4 rfl rfl ?_
  refine rz_bipush 7 dX5_init_5 rfl cb_60 ?_
  refine rz_newa 9 dX5_init_7 rfl (by decide) ac_long (fun x1 => ?_)
  refine rz_pR 12 dX5_init_9 rfl rfl rfl fl_X5_9 ?_
  refine rz_aload_n 13 0 dX5_init_12 rfl rfl ?_
  refine rz_iconst 14 dX5_init_13 rfl ci_0 ?_
  refine rz_pI 17 dX5_init_14 rfl rfl rfl rfl fl_X5_15 ?_
  refine rz_aload_n 18 0 dX5_init_17 rfl rfl ?_
  refine rz_iconst 19 dX5_init_18 rfl ci_m1 ?_
  refine rz_pI 22 dX5_init_19 rfl rfl rfl rfl fl_X5_19 ?_
  exact rz_return rfl rfl dX5_init_22
theorem tX5_init (v : mE) (d : Nat) (l0 : Nat) : Mt v yX5_init cX5_init 1 none emU (d + 1) [vR l0] (fX5_init l0) := mt_of rfl rfl (fun _ => rfl) rfl rfl (rX5_init v d l0)
theorem dX5_isMissing_0 : decode cX5_isMissing 0 = .ok (.aload_n 0, 1) := by decide +kernel
theorem dX5_isMissing_1 : decode cX5_isMissing 1 = .ok (.getfield 19, 3) := by decide +kernel
theorem dX5_isMissing_4 : decode cX5_isMissing 4 = .ok (.iconst (-1), 1) := by decide +kernel
theorem dX5_isMissing_5 : decode cX5_isMissing 5 = .ok (.if_icmp .ne 7, 3) := by decide +kernel
theorem dX5_isMissing_8 : decode cX5_isMissing 8 = .ok (.iconst 1, 1) := by decide +kernel
theorem dX5_isMissing_9 : decode cX5_isMissing 9 = .ok (.goto 4, 3) := by decide +kernel
theorem dX5_isMissing_12 : decode cX5_isMissing 12 = .ok (.iconst 0, 1) := by decide +kernel
theorem dX5_isMissing_13 : decode cX5_isMissing 13 = .ok (.ireturn, 1) := by decide +kernel
def fX5_isMissing (l0 : Nat) : mM Int32 := bGI 5 l0 2 (fun x1 => bIf (x1 = (-1 : Int32)) (bRetZ (1 : Int32)) (bRetZ (0 : Int32)))
set_option maxRecDepth 20000 in
theorem rX5_isMissing (v : mE) (d : Nat) (l0 : Nat) : Rz v RX5 cX5_isMissing 1 (some .boolean) false emI (d + 0) 0 [(0, vR l0)] [] (fX5_isMissing l0) := by
  unfold fX5_isMissing
  refine rz_aload_n 1 0 dX5_isMissing_0 rfl rfl ?_
  refine rz_gI 4 dX5_isMissing_1 rfl rfl fl_X5_19 (fun x1 => ?_)
  refine rz_iconst 5 dX5_isMissing_4 rfl ci_m1 ?_
  refine rz_icmp_ne 12 8 dX5_isMissing_5 rfl rfl ?_ ?_
  · refine rz_iconst 13 dX5_isMissing_12 rfl ci_0 ?_
    exact rz_zreturn rfl rfl dX5_isMissing_13
  · refine rz_iconst 9 dX5_isMissing_8 rfl ci_1 ?_
    refine rz_goto 13 dX5_isMissing_9 rfl ?_
    exact rz_zreturn rfl rfl dX5_isMissing_13
theorem tX5_isMissing (v : mE) (d : Nat) (l0 : Nat) : Mt v yX5_isMissing cX5_isMissing 1 (some .boolean) emI (d + 0) [vR l0] (fX5_isMissing l0) := mt_of rfl rfl (fun h => by cases h) rfl rfl (rX5_isMissing v d l0)
theorem dX5_has_0 : decode cX5_has 0 = .ok (.iload_n 1, 1) := by decide +kernel
theorem dX5_has_1 : decode cX5_has 1 = .ok (.ifCond .lt 17, 3) := by decide +kernel
theorem dX5_has_4 : decode cX5_has 4 = .ok (.iload_n 1, 1) := by decide +kernel
theorem dX5_has_5 : decode cX5_has 5 = .ok (.aload_n 0, 1) := by decide +kernel
theorem dX5_has_6 : decode cX5_has 6 = .ok (.getfield 19, 3) := by decide +kernel
theorem dX5_has_9 : decode cX5_has 9 = .ok (.iload_n 2, 1) := by decide +kernel
theorem dX5_has_10 : decode cX5_has 10 = .ok (.isub, 1) := by decide +kernel
theorem dX5_has_11 : decode cX5_has 11 = .ok (.if_icmp .gt 7, 3) := by decide +kernel
theorem dX5_has_14 : decode cX5_has 14 = .ok (.iconst 1, 1) := by decide +kernel
theorem dX5_has_15 : decode cX5_has 15 = .ok (.goto 4, 3) := by decide +kernel
theorem dX5_has_18 : decode cX5_has 18 = .ok (.iconst 0, 1) := by decide +kernel
theorem dX5_has_19 : decode cX5_has 19 = .ok (.ireturn, 1) := by decide +kernel
def fX5_has (l0 : Nat) (l1 : Int32) (l2 : Int32) : mM Int32 := bIf (l1 < 0) (bRetZ (0 : Int32)) (bGI 5 l0 2 (fun x1 => bIf ((x1 - l2) < l1) (bRetZ (0 : Int32)) (bRetZ (1 : Int32))))
set_option maxRecDepth 20000 in
theorem rX5_has (v : mE) (d : Nat) (l0 : Nat) (l1 : Int32) (l2 : Int32) : Rz v RX5 cX5_has 3 (some .boolean) false emI (d + 0) 0 [(0, vR l0), (1, vI l1), (2, vI l2)] [] (fX5_has l0 l1 l2) := by
  unfold fX5_has
  refine rz_iload_n 1 1 dX5_has_0 rfl rfl ?_
  refine rz_if_lt 18 4 dX5_has_1 rfl rfl ?_ ?_
  · refine rz_iconst 19 dX5_has_18 rfl ci_0 ?_
    exact rz_zreturn rfl rfl dX5_has_19
  · refine rz_iload_n 5 1 dX5_has_4 rfl rfl ?_
    refine rz_aload_n 6 0 dX5_has_5 rfl rfl ?_
    refine rz_gI 9 dX5_has_6 rfl rfl fl_X5_19 (fun x1 => ?_)
    refine rz_iload_n 10 2 dX5_has_9 rfl rfl ?_
    refine rz_isub 11 dX5_has_10 rfl ?_
    refine rz_icmp_gt 18 14 dX5_has_11 rfl rfl ?_ ?_
    · refine rz_iconst 19 dX5_has_18 rfl ci_0 ?_
      exact rz_zreturn rfl rfl dX5_has_19
    · refine rz_iconst 15 dX5_has_14 rfl ci_1 ?_
      refine rz_goto 19 dX5_has_15 rfl ?_
      exact rz_zreturn rfl rfl dX5_has_19
theorem tX5_has (v : mE) (d : Nat) (l0 : Nat) (l1 : Int32) (l2 : Int32) : Mt v yX5_has cX5_has 3 (some .boolean) emI (d + 0) [vR l0, vI l1, vI l2] (fX5_has l0 l1 l2) := mt_of rfl rfl (fun h => by cases h) rfl rfl (rX5_has v d l0 l1 l2)
theorem dX5_lay_0 : decode cX5_lay 0 = .ok (.aload_n 0, 1) := by decide +kernel
theorem dX5_lay_1 : decode cX5_lay 1 = .ok (.iload_n 1, 1) := by decide +kernel
theorem dX5_lay_2 : decode cX5_lay 2 = .ok (.putfield 15, 3) := by decide +kernel
theorem dX5_lay_5 : decode cX5_lay 5 = .ok (.aload_n 0, 1) := by decide +kernel
theorem dX5_lay_6 : decode cX5_lay 6 = .ok (.iload_n 2, 1) := by decide +kernel
theorem dX5_lay_7 : decode cX5_lay 7 = .ok (.putfield 19, 3) := by decide +kernel
theorem dX5_lay_10 : decode cX5_lay 10 = .ok (.aload_n 0, 1) := by decide +kernel
theorem dX5_lay_11 : decode cX5_lay 11 = .ok (.getfield 9, 3) := by decide +kernel
theorem dX5_lay_14 : decode cX5_lay 14 = .ok (.lconst 0, 1) := by decide +kernel
theorem dX5_lay_15 : decode cX5_lay 15 = .ok (.invokestatic 22, 3) := by decide +kernel
theorem dX5_lay_18 : decode cX5_lay 18 = .ok (.return_, 1) := by decide +kernel
def fX5_lay (l0 : Nat) (l1 : Int32) (l2 : Int32) : mM Unit := bPI 5 l0 1 l1 (bPI 5 l0 2 l2 (bGR 5 l0 0 (fun x1 => bCall (fJ7_fill_d0a16 x1 (0 : Int64)) (fun _ => bRet ()))))
set_option maxRecDepth 20000 in
theorem rX5_lay (v : mE) (d : Nat) (l0 : Nat) (l1 : Int32) (l2 : Int32) : Rz v RX5 cX5_lay 3 none false emU (d + 1) 0 [(0, vR l0), (1, vI l1), (2, vI l2)] [] (fX5_lay l0 l1 l2) := by
  unfold fX5_lay
  refine rz_aload_n 1 0 dX5_lay_0 rfl rfl ?_
  refine rz_iload_n 2 1 dX5_lay_1 rfl rfl ?_
  refine rz_pI 5 dX5_lay_2 rfl rfl rfl rfl fl_X5_15 ?_
  refine rz_aload_n 6 0 dX5_lay_5 rfl rfl ?_
  refine rz_iload_n 7 2 dX5_lay_6 rfl rfl ?_
  refine rz_pI 10 dX5_lay_7 rfl rfl rfl rfl fl_X5_19 ?_
  refine rz_aload_n 11 0 dX5_lay_10 rfl rfl ?_
  refine rz_gR 14 dX5_lay_11 rfl rfl fl_X5_9 (fun x1 => ?_)
  refine rz_lconst 15 dX5_lay_14 rfl cl_0 ?_
  refine rz_callS 18 dX5_lay_15 rfl (tJ7_fill_d0a16 v (d + 0) x1 (0 : Int64)) rfl rfl ml_X5_22 sm_J7_fill_d0a16 in_J7 co_J7_fill_d0a16 rfl rfl (fun _ => ?_)
  exact rz_return rfl rfl dX5_lay_18
theorem tX5_lay (v : mE) (d : Nat) (l0 : Nat) (l1 : Int32) (l2 : Int32) : Mt v yX5_lay cX5_lay 3 none emU (d + 1) [vR l0, vI l1, vI l2] (fX5_lay l0 l1 l2) := mt_of rfl rfl (fun h => by cases h) rfl rfl (rX5_lay v d l0 l1 l2)
theorem dX5_put_0 : decode cX5_put 0 = .ok (.aload_n 0, 1) := by decide +kernel
theorem dX5_put_1 : decode cX5_put 1 = .ok (.getfield 15, 3) := by decide +kernel
theorem dX5_put_4 : decode cX5_put 4 = .ok (.tableswitch 66 0 2 #[28, 41, 54], 28) := by decide +kernel
theorem dX5_put_32 : decode cX5_put 32 = .ok (.aload_n 0, 1) := by decide +kernel
theorem dX5_put_33 : decode cX5_put 33 = .ok (.getfield 9, 3) := by decide +kernel
theorem dX5_put_36 : decode cX5_put 36 = .ok (.iload_n 1, 1) := by decide +kernel
theorem dX5_put_37 : decode cX5_put 37 = .ok (.lload_n 2, 1) := by decide +kernel
theorem dX5_put_38 : decode cX5_put 38 = .ok (.l2i, 1) := by decide +kernel
theorem dX5_put_39 : decode cX5_put 39 = .ok (.i2b, 1) := by decide +kernel
theorem dX5_put_40 : decode cX5_put 40 = .ok (.i2l, 1) := by decide +kernel
theorem dX5_put_41 : decode cX5_put 41 = .ok (.lastore, 1) := by decide +kernel
theorem dX5_put_42 : decode cX5_put 42 = .ok (.goto 35, 3) := by decide +kernel
theorem dX5_put_45 : decode cX5_put 45 = .ok (.aload_n 0, 1) := by decide +kernel
theorem dX5_put_46 : decode cX5_put 46 = .ok (.getfield 9, 3) := by decide +kernel
theorem dX5_put_49 : decode cX5_put 49 = .ok (.iload_n 1, 1) := by decide +kernel
theorem dX5_put_50 : decode cX5_put 50 = .ok (.lload_n 2, 1) := by decide +kernel
theorem dX5_put_51 : decode cX5_put 51 = .ok (.l2i, 1) := by decide +kernel
theorem dX5_put_52 : decode cX5_put 52 = .ok (.i2s, 1) := by decide +kernel
theorem dX5_put_53 : decode cX5_put 53 = .ok (.i2l, 1) := by decide +kernel
theorem dX5_put_54 : decode cX5_put 54 = .ok (.lastore, 1) := by decide +kernel
theorem dX5_put_55 : decode cX5_put 55 = .ok (.goto 22, 3) := by decide +kernel
theorem dX5_put_58 : decode cX5_put 58 = .ok (.aload_n 0, 1) := by decide +kernel
theorem dX5_put_59 : decode cX5_put 59 = .ok (.getfield 9, 3) := by decide +kernel
theorem dX5_put_62 : decode cX5_put 62 = .ok (.iload_n 1, 1) := by decide +kernel
theorem dX5_put_63 : decode cX5_put 63 = .ok (.lload_n 2, 1) := by decide +kernel
theorem dX5_put_64 : decode cX5_put 64 = .ok (.l2i, 1) := by decide +kernel
theorem dX5_put_65 : decode cX5_put 65 = .ok (.i2l, 1) := by decide +kernel
theorem dX5_put_66 : decode cX5_put 66 = .ok (.lastore, 1) := by decide +kernel
theorem dX5_put_67 : decode cX5_put 67 = .ok (.goto 10, 3) := by decide +kernel
theorem dX5_put_70 : decode cX5_put 70 = .ok (.aload_n 0, 1) := by decide +kernel
theorem dX5_put_71 : decode cX5_put 71 = .ok (.getfield 9, 3) := by decide +kernel
theorem dX5_put_74 : decode cX5_put 74 = .ok (.iload_n 1, 1) := by decide +kernel
theorem dX5_put_75 : decode cX5_put 75 = .ok (.lload_n 2, 1) := by decide +kernel
theorem dX5_put_76 : decode cX5_put 76 = .ok (.lastore, 1) := by decide +kernel
theorem dX5_put_77 : decode cX5_put 77 = .ok (.return_, 1) := by decide +kernel
def fX5_put (l0 : Nat) (l1 : Int32) (l2 : Int64) : mM Unit := bGI 5 l0 1 (fun x1 => bSw x1 0 [(32, bGR 5 l0 0 (fun x3 => bSL x3 l1 (Int32.toInt64 ((Int32.toInt8 (Int64.toInt32 l2)).toInt32)) (bRet ()))), (45, bGR 5 l0 0 (fun x4 => bSL x4 l1 (Int32.toInt64 ((Int32.toInt16 (Int64.toInt32 l2)).toInt32)) (bRet ()))), (58, bGR 5 l0 0 (fun x5 => bSL x5 l1 (Int32.toInt64 (Int64.toInt32 l2)) (bRet ())))] (bGR 5 l0 0 (fun x2 => bSL x2 l1 l2 (bRet ()))))
set_option maxRecDepth 20000 in
theorem rX5_put (v : mE) (d : Nat) (l0 : Nat) (l1 : Int32) (l2 : Int64) : Rz v RX5 cX5_put 4 none false emU (d + 0) 0 [(0, vR l0), (1, vI l1), (2, vL l2)] [] (fX5_put l0 l1 l2) := by
  unfold fX5_put
  refine rz_aload_n 1 0 dX5_put_0 rfl rfl ?_
  refine rz_gI 4 dX5_put_1 rfl rfl fl_X5_15 (fun x1 => ?_)
  refine rz_table 70 dX5_put_4 rfl rfl rfl rfl ?_ ?_
  · refine rz_aload_n 71 0 dX5_put_70 rfl rfl ?_
    refine rz_gR 74 dX5_put_71 rfl rfl fl_X5_9 (fun x2 => ?_)
    refine rz_iload_n 75 1 dX5_put_74 rfl rfl ?_
    refine rz_lload_n 76 2 dX5_put_75 rfl rfl ?_
    refine rz_last 77 dX5_put_76 rfl ?_
    exact rz_return rfl rfl dX5_put_77
  · refine List.forall_mem_cons.mpr ⟨?_, List.forall_mem_cons.mpr ⟨?_, List.forall_mem_cons.mpr ⟨?_, fun _ h => absurd h List.not_mem_nil⟩⟩⟩
    · refine rz_pr ?_
      refine rz_aload_n 33 0 dX5_put_32 rfl rfl ?_
      refine rz_gR 36 dX5_put_33 rfl rfl fl_X5_9 (fun x3 => ?_)
      refine rz_iload_n 37 1 dX5_put_36 rfl rfl ?_
      refine rz_lload_n 38 2 dX5_put_37 rfl rfl ?_
      refine rz_l2i 39 dX5_put_38 rfl ?_
      refine rz_i2b 40 dX5_put_39 rfl ?_
      refine rz_i2l 41 dX5_put_40 rfl ?_
      refine rz_last 42 dX5_put_41 rfl ?_
      refine rz_goto 77 dX5_put_42 rfl ?_
      exact rz_return rfl rfl dX5_put_77
    · refine rz_pr ?_
      refine rz_aload_n 46 0 dX5_put_45 rfl rfl ?_
      refine rz_gR 49 dX5_put_46 rfl rfl fl_X5_9 (fun x4 => ?_)
      refine rz_iload_n 50 1 dX5_put_49 rfl rfl ?_
      refine rz_lload_n 51 2 dX5_put_50 rfl rfl ?_
      refine rz_l2i 52 dX5_put_51 rfl ?_
      refine rz_i2s 53 dX5_put_52 rfl ?_
      refine rz_i2l 54 dX5_put_53 rfl ?_
      refine rz_last 55 dX5_put_54 rfl ?_
      refine rz_goto 77 dX5_put_55 rfl ?_
      exact rz_return rfl rfl dX5_put_77
    · refine rz_pr ?_
      refine rz_aload_n 59 0 dX5_put_58 rfl rfl ?_
      refine rz_gR 62 dX5_put_59 rfl rfl fl_X5_9 (fun x5 => ?_)
      refine rz_iload_n 63 1 dX5_put_62 rfl rfl ?_
      refine rz_lload_n 64 2 dX5_put_63 rfl rfl ?_
      refine rz_l2i 65 dX5_put_64 rfl ?_
      refine rz_i2l 66 dX5_put_65 rfl ?_
      refine rz_last 67 dX5_put_66 rfl ?_
      refine rz_goto 77 dX5_put_67 rfl ?_
      exact rz_return rfl rfl dX5_put_77
theorem tX5_put (v : mE) (d : Nat) (l0 : Nat) (l1 : Int32) (l2 : Int64) : Mt v yX5_put cX5_put 4 none emU (d + 0) [vR l0, vI l1, vL l2] (fX5_put l0 l1 l2) := mt_of rfl rfl (fun h => by cases h) rfl rfl (rX5_put v d l0 l1 l2)

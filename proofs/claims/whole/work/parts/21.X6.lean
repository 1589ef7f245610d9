theorem dX6_init_0 : decode cX6_init 0 = .ok (.aload_n 0, 1) := by decide +kernel
theorem dX6_init_1 : decode cX6_init 1 = .ok (.invokespecial 5, 3) := by decide +kernel
theorem dX6_init_4 : decode cX6_init 4 = .ok (.aload_n 0, 1) := by decide +kernel
theorem dX6_init_5 : decode cX6_init 5 = .ok (.iconst 0, 1) := by decide +kernel
theorem dX6_init_6 : decode cX6_init 6 = .ok (.putfield 11, 3) := by decide +kernel
theorem dX6_init_9 : decode cX6_init 9 = .ok (.aload_n 0, 1) := by decide +kernel
theorem dX6_init_10 : decode cX6_init 10 = .ok (.iconst 0, 1) := by decide +kernel
theorem dX6_init_11 : decode cX6_init 11 = .ok (.putfield 15, 3) := by decide +kernel
theorem dX6_init_14 : decode cX6_init 14 = .ok (.aload_n 0, 1) := by decide +kernel
theorem dX6_init_15 : decode cX6_init 15 = .ok (.iconst 0, 1) := by decide +kernel
theorem dX6_init_16 : decode cX6_init 16 = .ok (.putfield 19, 3) := by decide +kernel
theorem dX6_init_19 : decode cX6_init 19 = .ok (.aload_n 0, 1) := by decide +kernel
theorem dX6_init_20 : decode cX6_init 20 = .ok (.bipush 14, 2) := by decide +kernel
theorem dX6_init_22 : decode cX6_init 22 = .ok (.newarray .int, 2) := by decide +kernel
theorem dX6_init_24 : decode cX6_init 24 = .ok (.putfield 22, 3) := by decide +kernel
theorem dX6_init_27 : decode cX6_init 27 = .ok (.aload_n 0, 1) := by decide +kernel
theorem dX6_init_28 : decode cX6_init 28 = .ok (.bipush 14, 2) := by decide +kernel
theorem dX6_init_30 : decode cX6_init 30 = .ok (.newarray .int, 2) := by decide +kernel
theorem dX6_init_32 : decode cX6_init 32 = .ok (.putfield 26, 3) := by decide +kernel
theorem dX6_init_35 : decode cX6_init 35 = .ok (.aload_n 0, 1) := by decide +kernel
theorem dX6_init_36 : decode cX6_init 36 = .ok (.bipush 14, 2) := by decide +kernel
theorem dX6_init_38 : decode cX6_init 38 = .ok (.newarray .int, 2) := by decide +kernel
theorem dX6_init_40 : decode cX6_init 40 = .ok (.putfield 29, 3) := by decide +kernel
theorem dX6_init_43 : decode cX6_init 43 = .ok (.aload_n 0, 1) := by decide +kernel
theorem dX6_init_44 : decode cX6_init 44 = .ok (.iconst 0, 1) := by decide +kernel
theorem dX6_init_45 : decode cX6_init 45 = .ok (.putfield 32, 3) := by decide +kernel
theorem dX6_init_48 : decode cX6_init 48 = .ok (.aload_n 0, 1) := by decide +kernel
theorem dX6_init_49 : decode cX6_init 49 = .ok (.iconst 0, 1) := by decide +kernel
theorem dX6_init_50 : decode cX6_init 50 = .ok (.putfield 35, 3) := by decide +kernel
theorem dX6_init_53 : decode cX6_init 53 = .ok (.aload_n 0, 1) := by decide +kernel
theorem dX6_init_54 : decode cX6_init 54 = .ok (.aload_n 1, 1) := by decide +kernel
theorem dX6_init_55 : decode cX6_init 55 = .ok (.putfield 38, 3) := by decide +kernel
theorem dX6_init_58 : decode cX6_init 58 = .ok (.aload_n 0, 1) := by decide +kernel
theorem dX6_init_59 : decode cX6_init 59 = .ok (.aload_n 2, 1) := by decide +kernel
theorem dX6_init_60 : decode cX6_init 60 = .ok (.putfield 42, 3) := by decide +kernel
theorem dX6_init_63 : decode cX6_init 63 = .ok (.return_, 1) := by decide +kernel
def fX6_init (l0 : Nat) (l1 : Nat) (l2 : Nat) : mM Unit := bObj l0 (bPZ 6 l0 2 (0 : Int32) (bPI 6 l0 3 (0 : Int32) (bPI 6 l0 4 (0 : Int32) (bNa 11 (14 : Int32) (fun x1 => bPR 6 l0 5 x1 (bNa 11 (14 : Int32) (fun x2 => bPR 6 l0 6 x2 (bNa 11 (14 : Int32) (fun x3 => bPR 6 l0 7 x3 (bPI 6 l0 8 (0 : Int32) (bPI 6 l0 9 (0 : Int32) (bPR 6 l0 0 l1 (bPR 6 l0 1 l2 (bRet ()))))))))))))))
set_option maxRecDepth 20000 in
theorem rX6_init (v : mE) (d : Nat) (l0 : Nat) (l1 : Nat) (l2 : Nat) : Rz v RX6 cX6_init 3 none true emU (d + 1) 0 [(0, vR l0), (1, vR l1), (2, vR l2)] [] (fX6_init l0 l1 l2) := by
  unfold fX6_init
  refine rz_aload_n 1 0 dX6_init_0 rfl rfl ?_
  refine rz_obj 4 dX6_init_1 rfl ml_X6_5 im_java_lang_Object__init____V co_java_lang_Object__init____V rfl rfl ?_
  refine rz_aload_n 5 0 dX6_init_4 rfl rfl ?_
  refine rz_iconst 6 dX6_init_5 rfl ci_0 ?_
  refine rz_pZ 9 dX6_init_6 rfl rfl rfl rfl fl_X6_11 ?_
  refine rz_aload_n 10 0 dX6_init_9 rfl rfl ?_
  refine rz_iconst 11 dX6_init_10 rfl ci_0 ?_
  refine rz_pI 14 dX6_init_11 rfl rfl rfl rfl fl_X6_15 ?_
  refine rz_aload_n 15 0 dX6_init_14 rfl rfl ?_
  refine rz_iconst 16 dX6_init_15 rfl ci_0 ?_
  refine rz_pI 19 dX6_init_16 rfl rfl rfl rfl fl_X6_19 ?_
  refine rz_aload_n 20 0 dX6_init_19 rfl rfl ?_
  refine rz_bipush 22 dX6_init_20 rfl cb_14 ?_
  refine rz_newa 24 dX6_init_22 rfl (by decide) ac_int (fun x1 => ?_)
  refine rz_pR 27 dX6_init_24 rfl rfl rfl fl_X6_22 ?_
  refine rz_aload_n 28 0 dX6_init_27 rfl rfl ?_
  refine rz_bipush 30 dX6_init_28 rfl cb_14 ?_
  refine rz_newa 32 dX6_init_30 rfl (by decide) ac_int (fun x2 => ?_)
  refine rz_pR 35 dX6_init_32 rfl rfl rfl fl_X6_26 ?_
  refine rz_aload_n 36 0 dX6_init_35 rfl rfl ?_
  refine rz_bipush 38 dX6_init_36 rfl cb_14 ?_
  refine rz_newa 40 dX6_init_38 rfl (by decide) ac_int (fun x3 => ?_)
  refine rz_pR 43 dX6_init_40 rfl rfl rfl fl_X6_29 ?_
  refine rz_aload_n 44 0 dX6_init_43 rfl rfl ?_
  refine rz_iconst 45 dX6_init_44 rfl ci_0 ?_
  refine rz_pI 48 dX6_init_45 rfl rfl rfl rfl fl_X6_32 ?_
  refine rz_aload_n 49 0 dX6_init_48 rfl rfl ?_
  refine rz_iconst 50 dX6_init_49 rfl ci_0 ?_
  refine rz_pI 53 dX6_init_50 rfl rfl rfl rfl fl_X6_35 ?_
  refine rz_aload_n 54 0 dX6_init_53 rfl rfl ?_
  refine rz_aload_n 55 1 dX6_init_54 rfl rfl ?_
  refine rz_pR 58 dX6_init_55 rfl rfl rfl fl_X6_38 ?_
  refine rz_aload_n 59 0 dX6_init_58 rfl rfl ?_
  refine rz_aload_n 60 2 dX6_init_59 rfl rfl ?_
  refine rz_pR 63 dX6_init_60 rfl rfl rfl fl_X6_42 ?_
  exact rz_return rfl rfl dX6_init_63
theorem tX6_init (v : mE) (d : Nat) (l0 : Nat) (l1 : Nat) (l2 : Nat) : Mt v yX6_init cX6_init 3 none emU (d + 1) [vR l0, vR l1, vR l2] (fX6_init l0 l1 l2) := mt_of rfl rfl (fun _ => rfl) rfl rfl (rX6_init v d l0 l1 l2)
theorem dX6_readRain_0 : decode cX6_readRain 0 = .ok (.aload_n 0, 1) := by decide +kernel
theorem dX6_readRain_1 : decode cX6_readRain 1 = .ok (.getfield 38, 3) := by decide +kernel
theorem dX6_readRain_4 : decode cX6_readRain 4 = .ok (.invokevirtual 98, 3) := by decide +kernel
theorem dX6_readRain_7 : decode cX6_readRain 7 = .ok (.aload_n 0, 1) := by decide +kernel
theorem dX6_readRain_8 : decode cX6_readRain 8 = .ok (.getfield 38, 3) := by decide +kernel
theorem dX6_readRain_11 : decode cX6_readRain 11 = .ok (.iconst 0, 1) := by decide +kernel
theorem dX6_readRain_12 : decode cX6_readRain 12 = .ok (.bipush 16, 2) := by decide +kernel
theorem dX6_readRain_14 : decode cX6_readRain 14 = .ok (.invokevirtual 101, 3) := by decide +kernel
theorem dX6_readRain_17 : decode cX6_readRain 17 = .ok (.ifCond .ne 5, 3) := by decide +kernel
theorem dX6_readRain_20 : decode cX6_readRain 20 = .ok (.iconst 0, 1) := by decide +kernel
theorem dX6_readRain_21 : decode cX6_readRain 21 = .ok (.ireturn, 1) := by decide +kernel
theorem dX6_readRain_22 : decode cX6_readRain 22 = .ok (.aload_n 0, 1) := by decide +kernel
theorem dX6_readRain_23 : decode cX6_readRain 23 = .ok (.getfield 42, 3) := by decide +kernel
theorem dX6_readRain_26 : decode cX6_readRain 26 = .ok (.aload_n 0, 1) := by decide +kernel
theorem dX6_readRain_27 : decode cX6_readRain 27 = .ok (.getfield 38, 3) := by decide +kernel
theorem dX6_readRain_30 : decode cX6_readRain 30 = .ok (.getfield 105, 3) := by decide +kernel
theorem dX6_readRain_33 : decode cX6_readRain 33 = .ok (.putfield 131, 3) := by decide +kernel
theorem dX6_readRain_36 : decode cX6_readRain 36 = .ok (.aload_n 0, 1) := by decide +kernel
theorem dX6_readRain_37 : decode cX6_readRain 37 = .ok (.getfield 38, 3) := by decide +kernel
theorem dX6_readRain_40 : decode cX6_readRain 40 = .ok (.ldc 133, 2) := by decide +kernel
theorem dX6_readRain_42 : decode cX6_readRain 42 = .ok (.invokevirtual 112, 3) := by decide +kernel
theorem dX6_readRain_45 : decode cX6_readRain 45 = .ok (.ifCond .eq 16, 3) := by decide +kernel
theorem dX6_readRain_48 : decode cX6_readRain 48 = .ok (.aload_n 0, 1) := by decide +kernel
theorem dX6_readRain_49 : decode cX6_readRain 49 = .ok (.getfield 38, 3) := by decide +kernel
theorem dX6_readRain_52 : decode cX6_readRain 52 = .ok (.iconst 0, 1) := by decide +kernel
theorem dX6_readRain_53 : decode cX6_readRain 53 = .ok (.bipush 99, 2) := by decide +kernel
theorem dX6_readRain_55 : decode cX6_readRain 55 = .ok (.invokevirtual 101, 3) := by decide +kernel
theorem dX6_readRain_58 : decode cX6_readRain 58 = .ok (.ifCond .ne 5, 3) := by decide +kernel
theorem dX6_readRain_61 : decode cX6_readRain 61 = .ok (.iconst 0, 1) := by decide +kernel
theorem dX6_readRain_62 : decode cX6_readRain 62 = .ok (.ireturn, 1) := by decide +kernel
theorem dX6_readRain_63 : decode cX6_readRain 63 = .ok (.aload_n 0, 1) := by decide +kernel
theorem dX6_readRain_64 : decode cX6_readRain 64 = .ok (.getfield 42, 3) := by decide +kernel
theorem dX6_readRain_67 : decode cX6_readRain 67 = .ok (.aload_n 0, 1) := by decide +kernel
theorem dX6_readRain_68 : decode cX6_readRain 68 = .ok (.getfield 38, 3) := by decide +kernel
theorem dX6_readRain_71 : decode cX6_readRain 71 = .ok (.getfield 105, 3) := by decide +kernel
theorem dX6_readRain_74 : decode cX6_readRain 74 = .ok (.putfield 135, 3) := by decide +kernel
theorem dX6_readRain_77 : decode cX6_readRain 77 = .ok (.iconst 1, 1) := by decide +kernel
theorem dX6_readRain_78 : decode cX6_readRain 78 = .ok (.ireturn, 1) := by decide +kernel
def fX6_readRain (l0 : Nat) : mM Int32 := bGR 6 l0 0 (fun x1 => bCallV 4 x1 (fX4_next x1) (fun _ => bGR 6 l0 0 (fun x2 => bCallV 4 x2 (fX4_takeNumber x2 (0 : Int32) (16 : Int32)) (fun x3 => bIf (x3 = 0) (bRetZ (0 : Int32)) (bGR 6 l0 1 (fun x4 => bGR 6 l0 0 (fun x5 => bGI 4 x5 6 (fun x6 => bPI 7 x4 4 x6 (bGR 6 l0 0 (fun x7 => bCallV 4 x7 (fX4_takeWord x7 26) (fun x8 => bIf (x8 = 0) (bRetZ (0 : Int32)) (bGR 6 l0 0 (fun x9 => bCallV 4 x9 (fX4_takeNumber x9 (0 : Int32) (99 : Int32)) (fun x10 => bIf (x10 = 0) (bRetZ (0 : Int32)) (bGR 6 l0 1 (fun x11 => bGR 6 l0 0 (fun x12 => bGI 4 x12 6 (fun x13 => bPI 7 x11 5 x13 (bRetZ (1 : Int32))))))))))))))))))))
set_option maxRecDepth 20000 in
theorem rX6_readRain (v : mE) (d : Nat) (l0 : Nat) : Rz v RX6 cX6_readRain 1 (some .boolean) false emI (d + 6) 0 [(0, vR l0)] [] (fX6_readRain l0) := by
  unfold fX6_readRain
  refine rz_aload_n 1 0 dX6_readRain_0 rfl rfl ?_
  refine rz_gR 4 dX6_readRain_1 rfl rfl fl_X6_38 (fun x1 => ?_)
  refine rz_callV 7 dX6_readRain_4 rfl (tX4_next v (d + 1) x1) rfl rfl rfl rfl ml_X6_98 im_X4_next se_X4_X4_next in_X4 co_X4_next rfl rfl (fun _ => ?_)
  refine rz_aload_n 8 0 dX6_readRain_7 rfl rfl ?_
  refine rz_gR 11 dX6_readRain_8 rfl rfl fl_X6_38 (fun x2 => ?_)
  refine rz_iconst 12 dX6_readRain_11 rfl ci_0 ?_
  refine rz_bipush 14 dX6_readRain_12 rfl cb_16 ?_
  refine rz_callV 17 dX6_readRain_14 rfl (tX4_takeNumber v (d + 0) x2 (0 : Int32) (16 : Int32)) rfl rfl rfl rfl ml_X6_101 im_X4_takeNumber se_X4_X4_takeNumber in_X4 co_X4_takeNumber rfl rfl (fun x3 => ?_)
  refine rz_if_ne 22 20 dX6_readRain_17 rfl rfl ?_ ?_
  · refine rz_aload_n 23 0 dX6_readRain_22 rfl rfl ?_
    refine rz_gR 26 dX6_readRain_23 rfl rfl fl_X6_42 (fun x4 => ?_)
    refine rz_aload_n 27 0 dX6_readRain_26 rfl rfl ?_
    refine rz_gR 30 dX6_readRain_27 rfl rfl fl_X6_38 (fun x5 => ?_)
    refine rz_gI 33 dX6_readRain_30 rfl rfl fl_X6_105 (fun x6 => ?_)
    refine rz_pI 36 dX6_readRain_33 rfl rfl rfl rfl fl_X6_131 ?_
    refine rz_aload_n 37 0 dX6_readRain_36 rfl rfl ?_
    refine rz_gR 40 dX6_readRain_37 rfl rfl fl_X6_38 (fun x7 => ?_)
    refine rz_ldcS 42 26 dX6_readRain_40 rfl (by decide) rfl rfl ?_
    refine rz_callV 45 dX6_readRain_42 rfl (tX4_takeWord v (d + 0) x7 26) rfl rfl rfl rfl ml_X6_112 im_X4_takeWord se_X4_X4_takeWord in_X4 co_X4_takeWord rfl rfl (fun x8 => ?_)
    refine rz_if_eq 61 48 dX6_readRain_45 rfl rfl ?_ ?_
    · refine rz_iconst 62 dX6_readRain_61 rfl ci_0 ?_
      exact rz_zreturn rfl rfl dX6_readRain_62
    · refine rz_aload_n 49 0 dX6_readRain_48 rfl rfl ?_
      refine rz_gR 52 dX6_readRain_49 rfl rfl fl_X6_38 (fun x9 => ?_)
      refine rz_iconst 53 dX6_readRain_52 rfl ci_0 ?_
      refine rz_bipush 55 dX6_readRain_53 rfl cb_99 ?_
      refine rz_callV 58 dX6_readRain_55 rfl (tX4_takeNumber v (d + 0) x9 (0 : Int32) (99 : Int32)) rfl rfl rfl rfl ml_X6_101 im_X4_takeNumber se_X4_X4_takeNumber in_X4 co_X4_takeNumber rfl rfl (fun x10 => ?_)
      refine rz_if_ne 63 61 dX6_readRain_58 rfl rfl ?_ ?_
      · refine rz_aload_n 64 0 dX6_readRain_63 rfl rfl ?_
        refine rz_gR 67 dX6_readRain_64 rfl rfl fl_X6_42 (fun x11 => ?_)
        refine rz_aload_n 68 0 dX6_readRain_67 rfl rfl ?_
        refine rz_gR 71 dX6_readRain_68 rfl rfl fl_X6_38 (fun x12 => ?_)
        refine rz_gI 74 dX6_readRain_71 rfl rfl fl_X6_105 (fun x13 => ?_)
        refine rz_pI 77 dX6_readRain_74 rfl rfl rfl rfl fl_X6_135 ?_
        refine rz_iconst 78 dX6_readRain_77 rfl ci_1 ?_
        exact rz_zreturn rfl rfl dX6_readRain_78
      · refine rz_iconst 62 dX6_readRain_61 rfl ci_0 ?_
        exact rz_zreturn rfl rfl dX6_readRain_62
  · refine rz_iconst 21 dX6_readRain_20 rfl ci_0 ?_
    exact rz_zreturn rfl rfl dX6_readRain_21
theorem tX6_readRain (v : mE) (d : Nat) (l0 : Nat) : Mt v yX6_readRain cX6_readRain 1 (some .boolean) emI (d + 6) [vR l0] (fX6_readRain l0) := mt_of rfl rfl (fun h => by cases h) rfl rfl (rX6_readRain v d l0)
theorem dX6_readWater_0 : decode cX6_readWater 0 = .ok (.aload_n 0, 1) := by decide +kernel
theorem dX6_readWater_1 : decode cX6_readWater 1 = .ok (.iconst 1, 1) := by decide +kernel
theorem dX6_readWater_2 : decode cX6_readWater 2 = .ok (.putfield 11, 3) := by decide +kernel
theorem dX6_readWater_5 : decode cX6_readWater 5 = .ok (.aload_n 0, 1) := by decide +kernel
theorem dX6_readWater_6 : decode cX6_readWater 6 = .ok (.getfield 38, 3) := by decide +kernel
theorem dX6_readWater_9 : decode cX6_readWater 9 = .ok (.invokevirtual 98, 3) := by decide +kernel
theorem dX6_readWater_12 : decode cX6_readWater 12 = .ok (.aload_n 0, 1) := by decide +kernel
theorem dX6_readWater_13 : decode cX6_readWater 13 = .ok (.getfield 38, 3) := by decide +kernel
theorem dX6_readWater_16 : decode cX6_readWater 16 = .ok (.iconst 0, 1) := by decide +kernel
theorem dX6_readWater_17 : decode cX6_readWater 17 = .ok (.sipush 999, 3) := by decide +kernel
theorem dX6_readWater_20 : decode cX6_readWater 20 = .ok (.invokevirtual 101, 3) := by decide +kernel
theorem dX6_readWater_23 : decode cX6_readWater 23 = .ok (.ifCond .ne 5, 3) := by decide +kernel
theorem dX6_readWater_26 : decode cX6_readWater 26 = .ok (.iconst 0, 1) := by decide +kernel
theorem dX6_readWater_27 : decode cX6_readWater 27 = .ok (.ireturn, 1) := by decide +kernel
theorem dX6_readWater_28 : decode cX6_readWater 28 = .ok (.aload_n 0, 1) := by decide +kernel
theorem dX6_readWater_29 : decode cX6_readWater 29 = .ok (.getfield 42, 3) := by decide +kernel
theorem dX6_readWater_32 : decode cX6_readWater 32 = .ok (.aload_n 0, 1) := by decide +kernel
theorem dX6_readWater_33 : decode cX6_readWater 33 = .ok (.getfield 38, 3) := by decide +kernel
theorem dX6_readWater_36 : decode cX6_readWater 36 = .ok (.getfield 105, 3) := by decide +kernel
theorem dX6_readWater_39 : decode cX6_readWater 39 = .ok (.putfield 108, 3) := by decide +kernel
theorem dX6_readWater_42 : decode cX6_readWater 42 = .ok (.aload_n 0, 1) := by decide +kernel
theorem dX6_readWater_43 : decode cX6_readWater 43 = .ok (.getfield 38, 3) := by decide +kernel
theorem dX6_readWater_46 : decode cX6_readWater 46 = .ok (.ldc 110, 2) := by decide +kernel
theorem dX6_readWater_48 : decode cX6_readWater 48 = .ok (.invokevirtual 112, 3) := by decide +kernel
theorem dX6_readWater_51 : decode cX6_readWater 51 = .ok (.ifCond .eq 17, 3) := by decide +kernel
theorem dX6_readWater_54 : decode cX6_readWater 54 = .ok (.aload_n 0, 1) := by decide +kernel
theorem dX6_readWater_55 : decode cX6_readWater 55 = .ok (.getfield 38, 3) := by decide +kernel
theorem dX6_readWater_58 : decode cX6_readWater 58 = .ok (.iconst 0, 1) := by decide +kernel
theorem dX6_readWater_59 : decode cX6_readWater 59 = .ok (.sipush 999, 3) := by decide +kernel
theorem dX6_readWater_62 : decode cX6_readWater 62 = .ok (.invokevirtual 101, 3) := by decide +kernel
theorem dX6_readWater_65 : decode cX6_readWater 65 = .ok (.ifCond .ne 5, 3) := by decide +kernel
theorem dX6_readWater_68 : decode cX6_readWater 68 = .ok (.iconst 0, 1) := by decide +kernel
theorem dX6_readWater_69 : decode cX6_readWater 69 = .ok (.ireturn, 1) := by decide +kernel
theorem dX6_readWater_70 : decode cX6_readWater 70 = .ok (.aload_n 0, 1) := by decide +kernel
theorem dX6_readWater_71 : decode cX6_readWater 71 = .ok (.getfield 42, 3) := by decide +kernel
theorem dX6_readWater_74 : decode cX6_readWater 74 = .ok (.aload_n 0, 1) := by decide +kernel
theorem dX6_readWater_75 : decode cX6_readWater 75 = .ok (.getfield 38, 3) := by decide +kernel
theorem dX6_readWater_78 : decode cX6_readWater 78 = .ok (.getfield 105, 3) := by decide +kernel
theorem dX6_readWater_81 : decode cX6_readWater 81 = .ok (.putfield 115, 3) := by decide +kernel
theorem dX6_readWater_84 : decode cX6_readWater 84 = .ok (.aload_n 0, 1) := by decide +kernel
theorem dX6_readWater_85 : decode cX6_readWater 85 = .ok (.getfield 38, 3) := by decide +kernel
theorem dX6_readWater_88 : decode cX6_readWater 88 = .ok (.ldc 118, 2) := by decide +kernel
theorem dX6_readWater_90 : decode cX6_readWater 90 = .ok (.invokevirtual 66, 3) := by decide +kernel
theorem dX6_readWater_93 : decode cX6_readWater 93 = .ok (.ifCond .eq 39, 3) := by decide +kernel
theorem dX6_readWater_96 : decode cX6_readWater 96 = .ok (.aload_n 0, 1) := by decide +kernel
theorem dX6_readWater_97 : decode cX6_readWater 97 = .ok (.getfield 38, 3) := by decide +kernel
theorem dX6_readWater_100 : decode cX6_readWater 100 = .ok (.invokevirtual 98, 3) := by decide +kernel
theorem dX6_readWater_103 : decode cX6_readWater 103 = .ok (.aload_n 0, 1) := by decide +kernel
theorem dX6_readWater_104 : decode cX6_readWater 104 = .ok (.getfield 38, 3) := by decide +kernel
theorem dX6_readWater_107 : decode cX6_readWater 107 = .ok (.iconst 0, 1) := by decide +kernel
theorem dX6_readWater_108 : decode cX6_readWater 108 = .ok (.bipush 99, 2) := by decide +kernel
theorem dX6_readWater_110 : decode cX6_readWater 110 = .ok (.invokevirtual 101, 3) := by decide +kernel
theorem dX6_readWater_113 : decode cX6_readWater 113 = .ok (.ifCond .ne 5, 3) := by decide +kernel
theorem dX6_readWater_116 : decode cX6_readWater 116 = .ok (.iconst 0, 1) := by decide +kernel
theorem dX6_readWater_117 : decode cX6_readWater 117 = .ok (.ireturn, 1) := by decide +kernel
theorem dX6_readWater_118 : decode cX6_readWater 118 = .ok (.aload_n 0, 1) := by decide +kernel
theorem dX6_readWater_119 : decode cX6_readWater 119 = .ok (.getfield 42, 3) := by decide +kernel
theorem dX6_readWater_122 : decode cX6_readWater 122 = .ok (.aload_n 0, 1) := by decide +kernel
theorem dX6_readWater_123 : decode cX6_readWater 123 = .ok (.getfield 38, 3) := by decide +kernel
theorem dX6_readWater_126 : decode cX6_readWater 126 = .ok (.getfield 105, 3) := by decide +kernel
theorem dX6_readWater_129 : decode cX6_readWater 129 = .ok (.putfield 120, 3) := by decide +kernel
theorem dX6_readWater_132 : decode cX6_readWater 132 = .ok (.aload_n 0, 1) := by decide +kernel
theorem dX6_readWater_133 : decode cX6_readWater 133 = .ok (.getfield 38, 3) := by decide +kernel
theorem dX6_readWater_136 : decode cX6_readWater 136 = .ok (.ldc 122, 2) := by decide +kernel
theorem dX6_readWater_138 : decode cX6_readWater 138 = .ok (.invokevirtual 66, 3) := by decide +kernel
theorem dX6_readWater_141 : decode cX6_readWater 141 = .ok (.ifCond .eq 12, 3) := by decide +kernel
theorem dX6_readWater_144 : decode cX6_readWater 144 = .ok (.aload_n 0, 1) := by decide +kernel
theorem dX6_readWater_145 : decode cX6_readWater 145 = .ok (.invokevirtual 124, 3) := by decide +kernel
theorem dX6_readWater_148 : decode cX6_readWater 148 = .ok (.ifCond .ne 5, 3) := by decide +kernel
theorem dX6_readWater_151 : decode cX6_readWater 151 = .ok (.iconst 0, 1) := by decide +kernel
theorem dX6_readWater_152 : decode cX6_readWater 152 = .ok (.ireturn, 1) := by decide +kernel
theorem dX6_readWater_153 : decode cX6_readWater 153 = .ok (.aload_n 0, 1) := by decide +kernel
theorem dX6_readWater_154 : decode cX6_readWater 154 = .ok (.getfield 38, 3) := by decide +kernel
theorem dX6_readWater_157 : decode cX6_readWater 157 = .ok (.bipush 59, 2) := by decide +kernel
theorem dX6_readWater_159 : decode cX6_readWater 159 = .ok (.invokevirtual 127, 3) := by decide +kernel
theorem dX6_readWater_162 : decode cX6_readWater 162 = .ok (.ireturn, 1) := by decide +kernel
def fX6_readWater_153 (l0 : Nat) : mM Int32 := bGR 6 l0 0 (fun x1 => bCallV 4 x1 (fX4_takeSign x1 (59 : Int32)) (fun x2 => bRetZ x2))
set_option maxRecDepth 20000 in
theorem rX6_readWater_153 (v : mE) (d : Nat) (l0 : Nat) : Rz v RX6 cX6_readWater 1 (some .boolean) false emI (d + 7) 153 [(0, vR l0)] [] (fX6_readWater_153 l0) := by
  unfold fX6_readWater_153
  refine rz_aload_n 154 0 dX6_readWater_153 rfl rfl ?_
  refine rz_gR 157 dX6_readWater_154 rfl rfl fl_X6_38 (fun x1 => ?_)
  refine rz_bipush 159 dX6_readWater_157 rfl cb_59 ?_
  refine rz_callV 162 dX6_readWater_159 rfl (tX4_takeSign v (d + 1) x1 (59 : Int32)) rfl rfl rfl rfl ml_X6_127 im_X4_takeSign se_X4_X4_takeSign in_X4 co_X4_takeSign rfl rfl (fun x2 => ?_)
  exact rz_zreturn rfl rfl dX6_readWater_162
def fX6_readWater_132 (l0 : Nat) : mM Int32 := bGR 6 l0 0 (fun x1 => bCallV 4 x1 (fX4_isWord x1 25) (fun x2 => bIf (x2 = 0) (fX6_readWater_153 l0) (bCallV 6 l0 (fX6_readRain l0) (fun x3 => bIf (x3 = 0) (bRetZ (0 : Int32)) (fX6_readWater_153 l0)))))
set_option maxRecDepth 20000 in
theorem rX6_readWater_132 (v : mE) (d : Nat) (l0 : Nat) : Rz v RX6 cX6_readWater 1 (some .boolean) false emI (d + 7) 132 [(0, vR l0)] [] (fX6_readWater_132 l0) := by
  unfold fX6_readWater_132
  refine rz_aload_n 133 0 dX6_readWater_132 rfl rfl ?_
  refine rz_gR 136 dX6_readWater_133 rfl rfl fl_X6_38 (fun x1 => ?_)
  refine rz_ldcS 138 25 dX6_readWater_136 rfl (by decide) rfl rfl ?_
  refine rz_callV 141 dX6_readWater_138 rfl (tX4_isWord v (d + 2) x1 25) rfl rfl rfl rfl ml_X6_66 im_X4_isWord se_X4_X4_isWord in_X4 co_X4_isWord rfl rfl (fun x2 => ?_)
  refine rz_if_eq 153 144 dX6_readWater_141 rfl rfl ?_ ?_
  · exact rz_sub [0] rfl (rX6_readWater_153 v d l0)
  · refine rz_aload_n 145 0 dX6_readWater_144 rfl rfl ?_
    refine rz_callV 148 dX6_readWater_145 rfl (tX6_readRain v (d + 0) l0) rfl rfl rfl rfl ml_X6_124 im_X6_readRain se_X6_X6_readRain in_X6 co_X6_readRain rfl rfl (fun x3 => ?_)
    refine rz_if_ne 153 151 dX6_readWater_148 rfl rfl ?_ ?_
    · exact rz_sub [0] rfl (rX6_readWater_153 v d l0)
    · refine rz_iconst 152 dX6_readWater_151 rfl ci_0 ?_
      exact rz_zreturn rfl rfl dX6_readWater_152
def fX6_readWater (l0 : Nat) : mM Int32 := bPZ 6 l0 2 (1 : Int32) (bGR 6 l0 0 (fun x1 => bCallV 4 x1 (fX4_next x1) (fun _ => bGR 6 l0 0 (fun x2 => bCallV 4 x2 (fX4_takeNumber x2 (0 : Int32) (999 : Int32)) (fun x3 => bIf (x3 = 0) (bRetZ (0 : Int32)) (bGR 6 l0 1 (fun x4 => bGR 6 l0 0 (fun x5 => bGI 4 x5 6 (fun x6 => bPI 7 x4 1 x6 (bGR 6 l0 0 (fun x7 => bCallV 4 x7 (fX4_takeWord x7 23) (fun x8 => bIf (x8 = 0) (bRetZ (0 : Int32)) (bGR 6 l0 0 (fun x9 => bCallV 4 x9 (fX4_takeNumber x9 (0 : Int32) (999 : Int32)) (fun x10 => bIf (x10 = 0) (bRetZ (0 : Int32)) (bGR 6 l0 1 (fun x11 => bGR 6 l0 0 (fun x12 => bGI 4 x12 6 (fun x13 => bPI 7 x11 2 x13 (bGR 6 l0 0 (fun x14 => bCallV 4 x14 (fX4_isWord x14 24) (fun x15 => bIf (x15 = 0) (fX6_readWater_132 l0) (bGR 6 l0 0 (fun x16 => bCallV 4 x16 (fX4_next x16) (fun _ => bGR 6 l0 0 (fun x17 => bCallV 4 x17 (fX4_takeNumber x17 (0 : Int32) (99 : Int32)) (fun x18 => bIf (x18 = 0) (bRetZ (0 : Int32)) (bGR 6 l0 1 (fun x19 => bGR 6 l0 0 (fun x20 => bGI 4 x20 6 (fun x21 => bPI 7 x19 3 x21 (fX6_readWater_132 l0))))))))))))))))))))))))))))))))
set_option maxRecDepth 20000 in
theorem rX6_readWater (v : mE) (d : Nat) (l0 : Nat) : Rz v RX6 cX6_readWater 1 (some .boolean) false emI (d + 7) 0 [(0, vR l0)] [] (fX6_readWater l0) := by
  unfold fX6_readWater
  refine rz_aload_n 1 0 dX6_readWater_0 rfl rfl ?_
  refine rz_iconst 2 dX6_readWater_1 rfl ci_1 ?_
  refine rz_pZ 5 dX6_readWater_2 rfl rfl rfl rfl fl_X6_11 ?_
  refine rz_aload_n 6 0 dX6_readWater_5 rfl rfl ?_
  refine rz_gR 9 dX6_readWater_6 rfl rfl fl_X6_38 (fun x1 => ?_)
  refine rz_callV 12 dX6_readWater_9 rfl (tX4_next v (d + 2) x1) rfl rfl rfl rfl ml_X6_98 im_X4_next se_X4_X4_next in_X4 co_X4_next rfl rfl (fun _ => ?_)
  refine rz_aload_n 13 0 dX6_readWater_12 rfl rfl ?_
  refine rz_gR 16 dX6_readWater_13 rfl rfl fl_X6_38 (fun x2 => ?_)
  refine rz_iconst 17 dX6_readWater_16 rfl ci_0 ?_
  refine rz_sipush 20 dX6_readWater_17 rfl cs_999 ?_
  refine rz_callV 23 dX6_readWater_20 rfl (tX4_takeNumber v (d + 1) x2 (0 : Int32) (999 : Int32)) rfl rfl rfl rfl ml_X6_101 im_X4_takeNumber se_X4_X4_takeNumber in_X4 co_X4_takeNumber rfl rfl (fun x3 => ?_)
  refine rz_if_ne 28 26 dX6_readWater_23 rfl rfl ?_ ?_
  · refine rz_aload_n 29 0 dX6_readWater_28 rfl rfl ?_
    refine rz_gR 32 dX6_readWater_29 rfl rfl fl_X6_42 (fun x4 => ?_)
    refine rz_aload_n 33 0 dX6_readWater_32 rfl rfl ?_
    refine rz_gR 36 dX6_readWater_33 rfl rfl fl_X6_38 (fun x5 => ?_)
    refine rz_gI 39 dX6_readWater_36 rfl rfl fl_X6_105 (fun x6 => ?_)
    refine rz_pI 42 dX6_readWater_39 rfl rfl rfl rfl fl_X6_108 ?_
    refine rz_aload_n 43 0 dX6_readWater_42 rfl rfl ?_
    refine rz_gR 46 dX6_readWater_43 rfl rfl fl_X6_38 (fun x7 => ?_)
    refine rz_ldcS 48 23 dX6_readWater_46 rfl (by decide) rfl rfl ?_
    refine rz_callV 51 dX6_readWater_48 rfl (tX4_takeWord v (d + 1) x7 23) rfl rfl rfl rfl ml_X6_112 im_X4_takeWord se_X4_X4_takeWord in_X4 co_X4_takeWord rfl rfl (fun x8 => ?_)
    refine rz_if_eq 68 54 dX6_readWater_51 rfl rfl ?_ ?_
    · refine rz_iconst 69 dX6_readWater_68 rfl ci_0 ?_
      exact rz_zreturn rfl rfl dX6_readWater_69
    · refine rz_aload_n 55 0 dX6_readWater_54 rfl rfl ?_
      refine rz_gR 58 dX6_readWater_55 rfl rfl fl_X6_38 (fun x9 => ?_)
      refine rz_iconst 59 dX6_readWater_58 rfl ci_0 ?_
      refine rz_sipush 62 dX6_readWater_59 rfl cs_999 ?_
      refine rz_callV 65 dX6_readWater_62 rfl (tX4_takeNumber v (d + 1) x9 (0 : Int32) (999 : Int32)) rfl rfl rfl rfl ml_X6_101 im_X4_takeNumber se_X4_X4_takeNumber in_X4 co_X4_takeNumber rfl rfl (fun x10 => ?_)
      refine rz_if_ne 70 68 dX6_readWater_65 rfl rfl ?_ ?_
      · refine rz_aload_n 71 0 dX6_readWater_70 rfl rfl ?_
        refine rz_gR 74 dX6_readWater_71 rfl rfl fl_X6_42 (fun x11 => ?_)
        refine rz_aload_n 75 0 dX6_readWater_74 rfl rfl ?_
        refine rz_gR 78 dX6_readWater_75 rfl rfl fl_X6_38 (fun x12 => ?_)
        refine rz_gI 81 dX6_readWater_78 rfl rfl fl_X6_105 (fun x13 => ?_)
        refine rz_pI 84 dX6_readWater_81 rfl rfl rfl rfl fl_X6_115 ?_
        refine rz_aload_n 85 0 dX6_readWater_84 rfl rfl ?_
        refine rz_gR 88 dX6_readWater_85 rfl rfl fl_X6_38 (fun x14 => ?_)
        refine rz_ldcS 90 24 dX6_readWater_88 rfl (by decide) rfl rfl ?_
        refine rz_callV 93 dX6_readWater_90 rfl (tX4_isWord v (d + 2) x14 24) rfl rfl rfl rfl ml_X6_66 im_X4_isWord se_X4_X4_isWord in_X4 co_X4_isWord rfl rfl (fun x15 => ?_)
        refine rz_if_eq 132 96 dX6_readWater_93 rfl rfl ?_ ?_
        · exact rz_sub [0] rfl (rX6_readWater_132 v d l0)
        · refine rz_aload_n 97 0 dX6_readWater_96 rfl rfl ?_
          refine rz_gR 100 dX6_readWater_97 rfl rfl fl_X6_38 (fun x16 => ?_)
          refine rz_callV 103 dX6_readWater_100 rfl (tX4_next v (d + 2) x16) rfl rfl rfl rfl ml_X6_98 im_X4_next se_X4_X4_next in_X4 co_X4_next rfl rfl (fun _ => ?_)
          refine rz_aload_n 104 0 dX6_readWater_103 rfl rfl ?_
          refine rz_gR 107 dX6_readWater_104 rfl rfl fl_X6_38 (fun x17 => ?_)
          refine rz_iconst 108 dX6_readWater_107 rfl ci_0 ?_
          refine rz_bipush 110 dX6_readWater_108 rfl cb_99 ?_
          refine rz_callV 113 dX6_readWater_110 rfl (tX4_takeNumber v (d + 1) x17 (0 : Int32) (99 : Int32)) rfl rfl rfl rfl ml_X6_101 im_X4_takeNumber se_X4_X4_takeNumber in_X4 co_X4_takeNumber rfl rfl (fun x18 => ?_)
          refine rz_if_ne 118 116 dX6_readWater_113 rfl rfl ?_ ?_
          · refine rz_aload_n 119 0 dX6_readWater_118 rfl rfl ?_
            refine rz_gR 122 dX6_readWater_119 rfl rfl fl_X6_42 (fun x19 => ?_)
            refine rz_aload_n 123 0 dX6_readWater_122 rfl rfl ?_
            refine rz_gR 126 dX6_readWater_123 rfl rfl fl_X6_38 (fun x20 => ?_)
            refine rz_gI 129 dX6_readWater_126 rfl rfl fl_X6_105 (fun x21 => ?_)
            refine rz_pI 132 dX6_readWater_129 rfl rfl rfl rfl fl_X6_120 ?_
            exact rz_sub [0] rfl (rX6_readWater_132 v d l0)
          · refine rz_iconst 117 dX6_readWater_116 rfl ci_0 ?_
            exact rz_zreturn rfl rfl dX6_readWater_117
      · refine rz_iconst 69 dX6_readWater_68 rfl ci_0 ?_
        exact rz_zreturn rfl rfl dX6_readWater_69
  · refine rz_iconst 27 dX6_readWater_26 rfl ci_0 ?_
    exact rz_zreturn rfl rfl dX6_readWater_27
theorem tX6_readWater (v : mE) (d : Nat) (l0 : Nat) : Mt v yX6_readWater cX6_readWater 1 (some .boolean) emI (d + 7) [vR l0] (fX6_readWater l0) := mt_of rfl rfl (fun h => by cases h) rfl rfl (rX6_readWater v d l0)
theorem dX6_isReservedAt_0 : decode cX6_isReservedAt 0 = .ok (.iload_n 2, 1) := by decide +kernel
theorem dX6_isReservedAt_1 : decode cX6_isReservedAt 1 = .ok (.iload_n 1, 1) := by decide +kernel
theorem dX6_isReservedAt_2 : decode cX6_isReservedAt 2 = .ok (.isub, 1) := by decide +kernel
theorem dX6_isReservedAt_3 : decode cX6_isReservedAt 3 = .ok (.aload_n 0, 1) := by decide +kernel
theorem dX6_isReservedAt_4 : decode cX6_isReservedAt 4 = .ok (.getfield 38, 3) := by decide +kernel
theorem dX6_isReservedAt_7 : decode cX6_isReservedAt 7 = .ok (.getfield 196, 3) := by decide +kernel
theorem dX6_isReservedAt_10 : decode cX6_isReservedAt 10 = .ok (.aload_n 0, 1) := by decide +kernel
theorem dX6_isReservedAt_11 : decode cX6_isReservedAt 11 = .ok (.getfield 38, 3) := by decide +kernel
theorem dX6_isReservedAt_14 : decode cX6_isReservedAt 14 = .ok (.getfield 199, 3) := by decide +kernel
theorem dX6_isReservedAt_17 : decode cX6_isReservedAt 17 = .ok (.isub, 1) := by decide +kernel
theorem dX6_isReservedAt_18 : decode cX6_isReservedAt 18 = .ok (.if_icmp .ne 7, 3) := by decide +kernel
theorem dX6_isReservedAt_21 : decode cX6_isReservedAt 21 = .ok (.iconst 1, 1) := by decide +kernel
theorem dX6_isReservedAt_22 : decode cX6_isReservedAt 22 = .ok (.goto 4, 3) := by decide +kernel
theorem dX6_isReservedAt_25 : decode cX6_isReservedAt 25 = .ok (.iconst 0, 1) := by decide +kernel
theorem dX6_isReservedAt_26 : decode cX6_isReservedAt 26 = .ok (.istore_n 3, 1) := by decide +kernel
theorem dX6_isReservedAt_27 : decode cX6_isReservedAt 27 = .ok (.iload_n 1, 1) := by decide +kernel
theorem dX6_isReservedAt_28 : decode cX6_isReservedAt 28 = .ok (.istore 4, 2) := by decide +kernel
theorem dX6_isReservedAt_30 : decode cX6_isReservedAt 30 = .ok (.iload 4, 2) := by decide +kernel
theorem dX6_isReservedAt_32 : decode cX6_isReservedAt 32 = .ok (.iload_n 2, 1) := by decide +kernel
theorem dX6_isReservedAt_33 : decode cX6_isReservedAt 33 = .ok (.if_icmp .ge 49, 3) := by decide +kernel
theorem dX6_isReservedAt_36 : decode cX6_isReservedAt 36 = .ok (.iload_n 3, 1) := by decide +kernel
theorem dX6_isReservedAt_37 : decode cX6_isReservedAt 37 = .ok (.ifCond .eq 45, 3) := by decide +kernel
theorem dX6_isReservedAt_40 : decode cX6_isReservedAt 40 = .ok (.aload_n 0, 1) := by decide +kernel
theorem dX6_isReservedAt_41 : decode cX6_isReservedAt 41 = .ok (.getfield 38, 3) := by decide +kernel
theorem dX6_isReservedAt_44 : decode cX6_isReservedAt 44 = .ok (.getfield 220, 3) := by decide +kernel
theorem dX6_isReservedAt_47 : decode cX6_isReservedAt 47 = .ok (.aload_n 0, 1) := by decide +kernel
theorem dX6_isReservedAt_48 : decode cX6_isReservedAt 48 = .ok (.getfield 38, 3) := by decide +kernel
theorem dX6_isReservedAt_51 : decode cX6_isReservedAt 51 = .ok (.getfield 199, 3) := by decide +kernel
theorem dX6_isReservedAt_54 : decode cX6_isReservedAt 54 = .ok (.iload 4, 2) := by decide +kernel
theorem dX6_isReservedAt_56 : decode cX6_isReservedAt 56 = .ok (.iadd, 1) := by decide +kernel
theorem dX6_isReservedAt_57 : decode cX6_isReservedAt 57 = .ok (.iload_n 1, 1) := by decide +kernel
theorem dX6_isReservedAt_58 : decode cX6_isReservedAt 58 = .ok (.isub, 1) := by decide +kernel
theorem dX6_isReservedAt_59 : decode cX6_isReservedAt 59 = .ok (.baload, 1) := by decide +kernel
theorem dX6_isReservedAt_60 : decode cX6_isReservedAt 60 = .ok (.ldc 205, 2) := by decide +kernel
theorem dX6_isReservedAt_62 : decode cX6_isReservedAt 62 = .ok (.iload 4, 2) := by decide +kernel
theorem dX6_isReservedAt_64 : decode cX6_isReservedAt 64 = .ok (.invokevirtual 213, 3) := by decide +kernel
theorem dX6_isReservedAt_67 : decode cX6_isReservedAt 67 = .ok (.if_icmp .ne 7, 3) := by decide +kernel
theorem dX6_isReservedAt_70 : decode cX6_isReservedAt 70 = .ok (.iconst 1, 1) := by decide +kernel
theorem dX6_isReservedAt_71 : decode cX6_isReservedAt 71 = .ok (.goto 4, 3) := by decide +kernel
theorem dX6_isReservedAt_74 : decode cX6_isReservedAt 74 = .ok (.iconst 0, 1) := by decide +kernel
theorem dX6_isReservedAt_75 : decode cX6_isReservedAt 75 = .ok (.istore_n 3, 1) := by decide +kernel
theorem dX6_isReservedAt_76 : decode cX6_isReservedAt 76 = .ok (.iinc 4 1, 3) := by decide +kernel
theorem dX6_isReservedAt_79 : decode cX6_isReservedAt 79 = .ok (.goto (-49), 3) := by decide +kernel
theorem dX6_isReservedAt_82 : decode cX6_isReservedAt 82 = .ok (.iload_n 3, 1) := by decide +kernel
theorem dX6_isReservedAt_83 : decode cX6_isReservedAt 83 = .ok (.ireturn, 1) := by decide +kernel
def fX6_isReservedAt_75 (r30 : Nat → Int32 → Int32 → Int32 → Int32 → mM Int32) (l0 : Nat) (l1 : Int32) (l2 : Int32) (l4 : Int32) (s0 : Int32) : mM Int32 := r30 l0 l1 l2 s0 (l4 + 1)
set_option maxRecDepth 20000 in
theorem rX6_isReservedAt_75 (v : mE) (d : Nat) (r30 : Nat → Int32 → Int32 → Int32 → Int32 → mM Int32) (h30 : ∀ (y0 : Nat) (y1 : Int32) (y2 : Int32) (y3 : Int32) (y4 : Int32), Rz v RX6 cX6_isReservedAt 5 (some .boolean) false emI (d + 4) 30 [(0, vR y0), (1, vI y1), (2, vI y2), (3, vI y3), (4, vI y4)] [] (r30 y0 y1 y2 y3 y4)) (l0 : Nat) (l1 : Int32) (l2 : Int32) (l4 : Int32) (s0 : Int32) : Rz v RX6 cX6_isReservedAt 5 (some .boolean) false emI (d + 4) 75 [(0, vR l0), (1, vI l1), (2, vI l2), (4, vI l4)] [vI s0] (fX6_isReservedAt_75 r30 l0 l1 l2 l4 s0) := by
  unfold fX6_isReservedAt_75
  refine rz_istore_n (lv' := [(3, vI s0), (0, vR l0), (1, vI l1), (2, vI l2), (4, vI l4)]) 76 dX6_isReservedAt_75 rfl rfl rfl ?_
  refine rz_iinc (lv' := [(4, vI (l4 + 1)), (3, vI s0), (0, vR l0), (1, vI l1), (2, vI l2)]) 79 4 dX6_isReservedAt_76 rfl rfl (cn_1 _) rfl rfl ?_
  refine rz_goto 30 dX6_isReservedAt_79 rfl ?_
  exact rz_sub [2, 3, 4, 1, 0] rfl (h30 l0 l1 l2 s0 (l4 + 1))
def fX6_isReservedAt_30 : Nat → Nat → Int32 → Int32 → Int32 → Int32 → mM Int32
  | 0 => fun _ _ _ _ _ => fun _ => none
  | n + 1 => fun l0 l1 l2 l3 l4 => let r30 := fX6_isReservedAt_30 n; bIf (l2 ≤ l4) (bRetZ l3) (bIf (l3 = 0) (bRetZ l3) (bGR 6 l0 0 (fun x1 => bGR 4 x1 0 (fun x2 => bGR 6 l0 0 (fun x3 => bGI 4 x3 3 (fun x4 => bAI 10 x2 ((x4 + l4) - l1) (fun x5 => bCallX 34 (fJ0_charAt_5068e 34 l4) (fun x6 => bIf (x5 = x6) (fX6_isReservedAt_75 r30 l0 l1 l2 l4 (1 : Int32)) (fX6_isReservedAt_75 r30 l0 l1 l2 l4 (0 : Int32))))))))))
theorem qX6_isReservedAt_30  (n : Nat) (l0 : Nat) (l1 : Int32) (l2 : Int32) (l3 : Int32) (l4 : Int32) : fX6_isReservedAt_30 (n + 1) l0 l1 l2 l3 l4 = bIf (l2 ≤ l4) (bRetZ l3) (bIf (l3 = 0) (bRetZ l3) (bGR 6 l0 0 (fun x1 => bGR 4 x1 0 (fun x2 => bGR 6 l0 0 (fun x3 => bGI 4 x3 3 (fun x4 => bAI 10 x2 ((x4 + l4) - l1) (fun x5 => bCallX 34 (fJ0_charAt_5068e 34 l4) (fun x6 => bIf (x5 = x6) (fX6_isReservedAt_75 (fX6_isReservedAt_30 n) l0 l1 l2 l4 (1 : Int32)) (fX6_isReservedAt_75 (fX6_isReservedAt_30 n) l0 l1 l2 l4 (0 : Int32)))))))))) := rfl
set_option maxRecDepth 20000 in
theorem rX6_isReservedAt_30 (v : mE) (d : Nat) : ∀ (n : Nat) (l0 : Nat) (l1 : Int32) (l2 : Int32) (l3 : Int32) (l4 : Int32), Rz v RX6 cX6_isReservedAt 5 (some .boolean) false emI (d + 4) 30 [(0, vR l0), (1, vI l1), (2, vI l2), (3, vI l3), (4, vI l4)] [] (fX6_isReservedAt_30 n l0 l1 l2 l3 l4)
  | 0, _, _, _, _, _ => fun _ _ _ hm => by cases hm
  | n + 1, l0, l1, l2, l3, l4 => by
    have h30 := rX6_isReservedAt_30 v d n
    unfold fX6_isReservedAt_30
    generalize fX6_isReservedAt_30 n = r30 at h30 ⊢
    refine rz_iload 32 4 dX6_isReservedAt_30 rfl rfl ?_
    refine rz_iload_n 33 2 dX6_isReservedAt_32 rfl rfl ?_
    refine rz_icmp_ge 82 36 dX6_isReservedAt_33 rfl rfl ?_ ?_
    · refine rz_iload_n 83 3 dX6_isReservedAt_82 rfl rfl ?_
      exact rz_zreturn rfl rfl dX6_isReservedAt_83
    · refine rz_iload_n 37 3 dX6_isReservedAt_36 rfl rfl ?_
      refine rz_if_eq 82 40 dX6_isReservedAt_37 rfl rfl ?_ ?_
      · refine rz_iload_n 83 3 dX6_isReservedAt_82 rfl rfl ?_
        exact rz_zreturn rfl rfl dX6_isReservedAt_83
      · refine rz_aload_n 41 0 dX6_isReservedAt_40 rfl rfl ?_
        refine rz_gR 44 dX6_isReservedAt_41 rfl rfl fl_X6_38 (fun x1 => ?_)
        refine rz_gR 47 dX6_isReservedAt_44 rfl rfl fl_X6_220 (fun x2 => ?_)
        refine rz_aload_n 48 0 dX6_isReservedAt_47 rfl rfl ?_
        refine rz_gR 51 dX6_isReservedAt_48 rfl rfl fl_X6_38 (fun x3 => ?_)
        refine rz_gI 54 dX6_isReservedAt_51 rfl rfl fl_X6_199 (fun x4 => ?_)
        refine rz_iload 56 4 dX6_isReservedAt_54 rfl rfl ?_
        refine rz_iadd 57 dX6_isReservedAt_56 rfl ?_
        refine rz_iload_n 58 1 dX6_isReservedAt_57 rfl rfl ?_
        refine rz_isub 59 dX6_isReservedAt_58 rfl ?_
        refine rz_bald 60 dX6_isReservedAt_59 rfl (fun x5 => ?_)
        refine rz_ldcS 62 34 dX6_isReservedAt_60 rfl (by decide) rfl rfl ?_
        refine rz_iload 64 4 dX6_isReservedAt_62 rfl rfl ?_
        refine rz_callX 67 dX6_isReservedAt_64 rfl (tJ0_charAt_5068e v (d + 0) 34 l4) rfl rfl rfl ml_X6_213 im_J0_charAt_5068e se_J0_J0_charAt_5068e in_J0 co_J0_charAt_5068e rfl rfl (fun x6 => ?_)
        refine rz_icmp_ne 74 70 dX6_isReservedAt_67 rfl rfl ?_ ?_
        · refine rz_iconst 75 dX6_isReservedAt_74 rfl ci_0 ?_
          exact rz_sub [0, 1, 2, 4] rfl (rX6_isReservedAt_75 v d r30 h30 l0 l1 l2 l4 (0 : Int32))
        · refine rz_iconst 71 dX6_isReservedAt_70 rfl ci_1 ?_
          refine rz_goto 75 dX6_isReservedAt_71 rfl ?_
          exact rz_sub [0, 1, 2, 4] rfl (rX6_isReservedAt_75 v d r30 h30 l0 l1 l2 l4 (1 : Int32))
def fX6_isReservedAt_26 (l0 : Nat) (l1 : Int32) (l2 : Int32) (s0 : Int32) : mM Int32 := fX6_isReservedAt_30 fu l0 l1 l2 s0 l1
set_option maxRecDepth 20000 in
theorem rX6_isReservedAt_26 (v : mE) (d : Nat) (l0 : Nat) (l1 : Int32) (l2 : Int32) (s0 : Int32) : Rz v RX6 cX6_isReservedAt 5 (some .boolean) false emI (d + 4) 26 [(0, vR l0), (1, vI l1), (2, vI l2)] [vI s0] (fX6_isReservedAt_26 l0 l1 l2 s0) := by
  unfold fX6_isReservedAt_26
  refine rz_istore_n (lv' := [(3, vI s0), (0, vR l0), (1, vI l1), (2, vI l2)]) 27 dX6_isReservedAt_26 rfl rfl rfl ?_
  refine rz_iload_n 28 2 dX6_isReservedAt_27 rfl rfl ?_
  refine rz_istore (lv' := [(4, vI l1), (3, vI s0), (0, vR l0), (1, vI l1), (2, vI l2)]) 30 dX6_isReservedAt_28 rfl rfl rfl ?_
  exact rz_sub [2, 3, 4, 1, 0] rfl (rX6_isReservedAt_30 v d fu l0 l1 l2 s0 l1)
def fX6_isReservedAt (l0 : Nat) (l1 : Int32) (l2 : Int32) : mM Int32 := bGR 6 l0 0 (fun x1 => bGI 4 x1 4 (fun x2 => bGR 6 l0 0 (fun x3 => bGI 4 x3 3 (fun x4 => bIf ((l2 - l1) = (x2 - x4)) (fX6_isReservedAt_26 l0 l1 l2 (1 : Int32)) (fX6_isReservedAt_26 l0 l1 l2 (0 : Int32))))))
set_option maxRecDepth 20000 in
theorem rX6_isReservedAt (v : mE) (d : Nat) (l0 : Nat) (l1 : Int32) (l2 : Int32) : Rz v RX6 cX6_isReservedAt 5 (some .boolean) false emI (d + 4) 0 [(0, vR l0), (1, vI l1), (2, vI l2)] [] (fX6_isReservedAt l0 l1 l2) := by
  unfold fX6_isReservedAt
  refine rz_iload_n 1 2 dX6_isReservedAt_0 rfl rfl ?_
  refine rz_iload_n 2 1 dX6_isReservedAt_1 rfl rfl ?_
  refine rz_isub 3 dX6_isReservedAt_2 rfl ?_
  refine rz_aload_n 4 0 dX6_isReservedAt_3 rfl rfl ?_
  refine rz_gR 7 dX6_isReservedAt_4 rfl rfl fl_X6_38 (fun x1 => ?_)
  refine rz_gI 10 dX6_isReservedAt_7 rfl rfl fl_X6_196 (fun x2 => ?_)
  refine rz_aload_n 11 0 dX6_isReservedAt_10 rfl rfl ?_
  refine rz_gR 14 dX6_isReservedAt_11 rfl rfl fl_X6_38 (fun x3 => ?_)
  refine rz_gI 17 dX6_isReservedAt_14 rfl rfl fl_X6_199 (fun x4 => ?_)
  refine rz_isub 18 dX6_isReservedAt_17 rfl ?_
  refine rz_icmp_ne 25 21 dX6_isReservedAt_18 rfl rfl ?_ ?_
  · refine rz_iconst 26 dX6_isReservedAt_25 rfl ci_0 ?_
    exact rz_sub [0, 1, 2] rfl (rX6_isReservedAt_26 v d l0 l1 l2 (0 : Int32))
  · refine rz_iconst 22 dX6_isReservedAt_21 rfl ci_1 ?_
    refine rz_goto 26 dX6_isReservedAt_22 rfl ?_
    exact rz_sub [0, 1, 2] rfl (rX6_isReservedAt_26 v d l0 l1 l2 (1 : Int32))
theorem tX6_isReservedAt (v : mE) (d : Nat) (l0 : Nat) (l1 : Int32) (l2 : Int32) : Mt v yX6_isReservedAt cX6_isReservedAt 5 (some .boolean) emI (d + 4) [vR l0, vI l1, vI l2] (fX6_isReservedAt l0 l1 l2) := mt_of rfl rfl (fun h => by cases h) rfl rfl (rX6_isReservedAt v d l0 l1 l2)
theorem dX6_isReserved_0 : decode cX6_isReserved 0 = .ok (.iconst 0, 1) := by decide +kernel
theorem dX6_isReserved_1 : decode cX6_isReserved 1 = .ok (.istore_n 1, 1) := by decide +kernel
theorem dX6_isReserved_2 : decode cX6_isReserved 2 = .ok (.iconst 0, 1) := by decide +kernel
theorem dX6_isReserved_3 : decode cX6_isReserved 3 = .ok (.istore_n 2, 1) := by decide +kernel
theorem dX6_isReserved_4 : decode cX6_isReserved 4 = .ok (.iload_n 2, 1) := by decide +kernel
theorem dX6_isReserved_5 : decode cX6_isReserved 5 = .ok (.ldc 205, 2) := by decide +kernel
theorem dX6_isReserved_7 : decode cX6_isReserved 7 = .ok (.invokevirtual 207, 3) := by decide +kernel
theorem dX6_isReserved_10 : decode cX6_isReserved 10 = .ok (.if_icmp .ge 35, 3) := by decide +kernel
theorem dX6_isReserved_13 : decode cX6_isReserved 13 = .ok (.ldc 205, 2) := by decide +kernel
theorem dX6_isReserved_15 : decode cX6_isReserved 15 = .ok (.iload_n 2, 1) := by decide +kernel
theorem dX6_isReserved_16 : decode cX6_isReserved 16 = .ok (.invokevirtual 213, 3) := by decide +kernel
theorem dX6_isReserved_19 : decode cX6_isReserved 19 = .ok (.bipush 32, 2) := by decide +kernel
theorem dX6_isReserved_21 : decode cX6_isReserved 21 = .ok (.if_icmp .ne 18, 3) := by decide +kernel
theorem dX6_isReserved_24 : decode cX6_isReserved 24 = .ok (.aload_n 0, 1) := by decide +kernel
theorem dX6_isReserved_25 : decode cX6_isReserved 25 = .ok (.iload_n 1, 1) := by decide +kernel
theorem dX6_isReserved_26 : decode cX6_isReserved 26 = .ok (.iload_n 2, 1) := by decide +kernel
theorem dX6_isReserved_27 : decode cX6_isReserved 27 = .ok (.invokevirtual 217, 3) := by decide +kernel
theorem dX6_isReserved_30 : decode cX6_isReserved 30 = .ok (.ifCond .eq 5, 3) := by decide +kernel
theorem dX6_isReserved_33 : decode cX6_isReserved 33 = .ok (.iconst 1, 1) := by decide +kernel
theorem dX6_isReserved_34 : decode cX6_isReserved 34 = .ok (.ireturn, 1) := by decide +kernel
theorem dX6_isReserved_35 : decode cX6_isReserved 35 = .ok (.iload_n 2, 1) := by decide +kernel
theorem dX6_isReserved_36 : decode cX6_isReserved 36 = .ok (.iconst 1, 1) := by decide +kernel
theorem dX6_isReserved_37 : decode cX6_isReserved 37 = .ok (.iadd, 1) := by decide +kernel
theorem dX6_isReserved_38 : decode cX6_isReserved 38 = .ok (.istore_n 1, 1) := by decide +kernel
theorem dX6_isReserved_39 : decode cX6_isReserved 39 = .ok (.iinc 2 1, 3) := by decide +kernel
theorem dX6_isReserved_42 : decode cX6_isReserved 42 = .ok (.goto (-38), 3) := by decide +kernel
theorem dX6_isReserved_45 : decode cX6_isReserved 45 = .ok (.iconst 0, 1) := by decide +kernel
theorem dX6_isReserved_46 : decode cX6_isReserved 46 = .ok (.ireturn, 1) := by decide +kernel
def fX6_isReserved_4 : Nat → Nat → Int32 → Int32 → mM Int32
  | 0 => fun _ _ _ => fun _ => none
  | n + 1 => fun l0 l1 l2 => let r4 := fX6_isReserved_4 n; bCallX 34 (fJ0_length_8abf5 34) (fun x1 => bIf (x1 ≤ l2) (bRetZ (0 : Int32)) (bCallX 34 (fJ0_charAt_5068e 34 l2) (fun x2 => bIf (x2 = (32 : Int32)) (bCallV 6 l0 (fX6_isReservedAt l0 l1 l2) (fun x3 => bIf (x3 = 0) (r4 l0 (l2 + (1 : Int32)) (l2 + 1)) (bRetZ (1 : Int32)))) (r4 l0 l1 (l2 + 1)))))
theorem qX6_isReserved_4  (n : Nat) (l0 : Nat) (l1 : Int32) (l2 : Int32) : fX6_isReserved_4 (n + 1) l0 l1 l2 = bCallX 34 (fJ0_length_8abf5 34) (fun x1 => bIf (x1 ≤ l2) (bRetZ (0 : Int32)) (bCallX 34 (fJ0_charAt_5068e 34 l2) (fun x2 => bIf (x2 = (32 : Int32)) (bCallV 6 l0 (fX6_isReservedAt l0 l1 l2) (fun x3 => bIf (x3 = 0) ((fX6_isReserved_4 n) l0 (l2 + (1 : Int32)) (l2 + 1)) (bRetZ (1 : Int32)))) ((fX6_isReserved_4 n) l0 l1 (l2 + 1))))) := rfl
set_option maxRecDepth 20000 in
theorem rX6_isReserved_4 (v : mE) (d : Nat) : ∀ (n : Nat) (l0 : Nat) (l1 : Int32) (l2 : Int32), Rz v RX6 cX6_isReserved 3 (some .boolean) false emI (d + 5) 4 [(0, vR l0), (1, vI l1), (2, vI l2)] [] (fX6_isReserved_4 n l0 l1 l2)
  | 0, _, _, _ => fun _ _ _ hm => by cases hm
  | n + 1, l0, l1, l2 => by
    have h4 := rX6_isReserved_4 v d n
    unfold fX6_isReserved_4
    generalize fX6_isReserved_4 n = r4 at h4 ⊢
    refine rz_iload_n 5 2 dX6_isReserved_4 rfl rfl ?_
    refine rz_ldcS 7 34 dX6_isReserved_5 rfl (by decide) rfl rfl ?_
    refine rz_callX 10 dX6_isReserved_7 rfl (tJ0_length_8abf5 v (d + 3) 34) rfl rfl rfl ml_X6_207 im_J0_length_8abf5 se_J0_J0_length_8abf5 in_J0 co_J0_length_8abf5 rfl rfl (fun x1 => ?_)
    refine rz_icmp_ge 45 13 dX6_isReserved_10 rfl rfl ?_ ?_
    · refine rz_iconst 46 dX6_isReserved_45 rfl ci_0 ?_
      exact rz_zreturn rfl rfl dX6_isReserved_46
    · refine rz_ldcS 15 34 dX6_isReserved_13 rfl (by decide) rfl rfl ?_
      refine rz_iload_n 16 2 dX6_isReserved_15 rfl rfl ?_
      refine rz_callX 19 dX6_isReserved_16 rfl (tJ0_charAt_5068e v (d + 1) 34 l2) rfl rfl rfl ml_X6_213 im_J0_charAt_5068e se_J0_J0_charAt_5068e in_J0 co_J0_charAt_5068e rfl rfl (fun x2 => ?_)
      refine rz_bipush 21 dX6_isReserved_19 rfl cb_32 ?_
      refine rz_icmp_ne 39 24 dX6_isReserved_21 rfl rfl ?_ ?_
      · refine rz_iinc (lv' := [(2, vI (l2 + 1)), (0, vR l0), (1, vI l1)]) 42 2 dX6_isReserved_39 rfl rfl (cn_1 _) rfl rfl ?_
        refine rz_goto 4 dX6_isReserved_42 rfl ?_
        exact rz_sub [1, 2, 0] rfl (h4 l0 l1 (l2 + 1))
      · refine rz_aload_n 25 0 dX6_isReserved_24 rfl rfl ?_
        refine rz_iload_n 26 1 dX6_isReserved_25 rfl rfl ?_
        refine rz_iload_n 27 2 dX6_isReserved_26 rfl rfl ?_
        refine rz_callV 30 dX6_isReserved_27 rfl (tX6_isReservedAt v (d + 0) l0 l1 l2) rfl rfl rfl rfl ml_X6_217 im_X6_isReservedAt se_X6_X6_isReservedAt in_X6 co_X6_isReservedAt rfl rfl (fun x3 => ?_)
        refine rz_if_eq 35 33 dX6_isReserved_30 rfl rfl ?_ ?_
        · refine rz_iload_n 36 2 dX6_isReserved_35 rfl rfl ?_
          refine rz_iconst 37 dX6_isReserved_36 rfl ci_1 ?_
          refine rz_iadd 38 dX6_isReserved_37 rfl ?_
          refine rz_istore_n (lv' := [(1, vI (l2 + (1 : Int32))), (0, vR l0), (2, vI l2)]) 39 dX6_isReserved_38 rfl rfl rfl ?_
          refine rz_iinc (lv' := [(2, vI (l2 + 1)), (1, vI (l2 + (1 : Int32))), (0, vR l0)]) 42 2 dX6_isReserved_39 rfl rfl (cn_1 _) rfl rfl ?_
          refine rz_goto 4 dX6_isReserved_42 rfl ?_
          exact rz_sub [2, 1, 0] rfl (h4 l0 (l2 + (1 : Int32)) (l2 + 1))
        · refine rz_iconst 34 dX6_isReserved_33 rfl ci_1 ?_
          exact rz_zreturn rfl rfl dX6_isReserved_34
def fX6_isReserved (l0 : Nat) : mM Int32 := fX6_isReserved_4 fu l0 (0 : Int32) (0 : Int32)
set_option maxRecDepth 20000 in
theorem rX6_isReserved (v : mE) (d : Nat) (l0 : Nat) : Rz v RX6 cX6_isReserved 3 (some .boolean) false emI (d + 5) 0 [(0, vR l0)] [] (fX6_isReserved l0) := by
  unfold fX6_isReserved
  refine rz_iconst 1 dX6_isReserved_0 rfl ci_0 ?_
  refine rz_istore_n (lv' := [(1, vI (0 : Int32)), (0, vR l0)]) 2 dX6_isReserved_1 rfl rfl rfl ?_
  refine rz_iconst 3 dX6_isReserved_2 rfl ci_0 ?_
  refine rz_istore_n (lv' := [(2, vI (0 : Int32)), (1, vI (0 : Int32)), (0, vR l0)]) 4 dX6_isReserved_3 rfl rfl rfl ?_
  exact rz_sub [2, 1, 0] rfl (rX6_isReserved_4 v d fu l0 (0 : Int32) (0 : Int32))
theorem tX6_isReserved (v : mE) (d : Nat) (l0 : Nat) : Mt v yX6_isReserved cX6_isReserved 3 (some .boolean) emI (d + 5) [vR l0] (fX6_isReserved l0) := mt_of rfl rfl (fun h => by cases h) rfl rfl (rX6_isReserved v d l0)
theorem dX6_isName_0 : decode cX6_isName 0 = .ok (.aload_n 0, 1) := by decide +kernel
theorem dX6_isName_1 : decode cX6_isName 1 = .ok (.getfield 38, 3) := by decide +kernel
theorem dX6_isName_4 : decode cX6_isName 4 = .ok (.getfield 57, 3) := by decide +kernel
theorem dX6_isName_7 : decode cX6_isName 7 = .ok (.iconst 1, 1) := by decide +kernel
theorem dX6_isName_8 : decode cX6_isName 8 = .ok (.if_icmp .ne 34, 3) := by decide +kernel
theorem dX6_isName_11 : decode cX6_isName 11 = .ok (.aload_n 0, 1) := by decide +kernel
theorem dX6_isName_12 : decode cX6_isName 12 = .ok (.getfield 38, 3) := by decide +kernel
theorem dX6_isName_15 : decode cX6_isName 15 = .ok (.getfield 196, 3) := by decide +kernel
theorem dX6_isName_18 : decode cX6_isName 18 = .ok (.aload_n 0, 1) := by decide +kernel
theorem dX6_isName_19 : decode cX6_isName 19 = .ok (.getfield 38, 3) := by decide +kernel
theorem dX6_isName_22 : decode cX6_isName 22 = .ok (.getfield 199, 3) := by decide +kernel
theorem dX6_isName_25 : decode cX6_isName 25 = .ok (.isub, 1) := by decide +kernel
theorem dX6_isName_26 : decode cX6_isName 26 = .ok (.bipush 8, 2) := by decide +kernel
theorem dX6_isName_28 : decode cX6_isName 28 = .ok (.if_icmp .gt 14, 3) := by decide +kernel
theorem dX6_isName_31 : decode cX6_isName 31 = .ok (.aload_n 0, 1) := by decide +kernel
theorem dX6_isName_32 : decode cX6_isName 32 = .ok (.invokevirtual 202, 3) := by decide +kernel
theorem dX6_isName_35 : decode cX6_isName 35 = .ok (.ifCond .ne 7, 3) := by decide +kernel
theorem dX6_isName_38 : decode cX6_isName 38 = .ok (.iconst 1, 1) := by decide +kernel
theorem dX6_isName_39 : decode cX6_isName 39 = .ok (.goto 4, 3) := by decide +kernel
theorem dX6_isName_42 : decode cX6_isName 42 = .ok (.iconst 0, 1) := by decide +kernel
theorem dX6_isName_43 : decode cX6_isName 43 = .ok (.ireturn, 1) := by decide +kernel
def fX6_isName (l0 : Nat) : mM Int32 := bGR 6 l0 0 (fun x1 => bGI 4 x1 2 (fun x2 => bIf (x2 = (1 : Int32)) (bGR 6 l0 0 (fun x3 => bGI 4 x3 4 (fun x4 => bGR 6 l0 0 (fun x5 => bGI 4 x5 3 (fun x6 => bIf ((8 : Int32) < (x4 - x6)) (bRetZ (0 : Int32)) (bCallV 6 l0 (fX6_isReserved l0) (fun x7 => bIf (x7 = 0) (bRetZ (1 : Int32)) (bRetZ (0 : Int32))))))))) (bRetZ (0 : Int32))))
set_option maxRecDepth 20000 in
theorem rX6_isName (v : mE) (d : Nat) (l0 : Nat) : Rz v RX6 cX6_isName 1 (some .boolean) false emI (d + 6) 0 [(0, vR l0)] [] (fX6_isName l0) := by
  unfold fX6_isName
  refine rz_aload_n 1 0 dX6_isName_0 rfl rfl ?_
  refine rz_gR 4 dX6_isName_1 rfl rfl fl_X6_38 (fun x1 => ?_)
  refine rz_gI 7 dX6_isName_4 rfl rfl fl_X6_57 (fun x2 => ?_)
  refine rz_iconst 8 dX6_isName_7 rfl ci_1 ?_
  refine rz_icmp_ne 42 11 dX6_isName_8 rfl rfl ?_ ?_
  · refine rz_iconst 43 dX6_isName_42 rfl ci_0 ?_
    exact rz_zreturn rfl rfl dX6_isName_43
  · refine rz_aload_n 12 0 dX6_isName_11 rfl rfl ?_
    refine rz_gR 15 dX6_isName_12 rfl rfl fl_X6_38 (fun x3 => ?_)
    refine rz_gI 18 dX6_isName_15 rfl rfl fl_X6_196 (fun x4 => ?_)
    refine rz_aload_n 19 0 dX6_isName_18 rfl rfl ?_
    refine rz_gR 22 dX6_isName_19 rfl rfl fl_X6_38 (fun x5 => ?_)
    refine rz_gI 25 dX6_isName_22 rfl rfl fl_X6_199 (fun x6 => ?_)
    refine rz_isub 26 dX6_isName_25 rfl ?_
    refine rz_bipush 28 dX6_isName_26 rfl cb_8 ?_
    refine rz_icmp_gt 42 31 dX6_isName_28 rfl rfl ?_ ?_
    · refine rz_iconst 43 dX6_isName_42 rfl ci_0 ?_
      exact rz_zreturn rfl rfl dX6_isName_43
    · refine rz_aload_n 32 0 dX6_isName_31 rfl rfl ?_
      refine rz_callV 35 dX6_isName_32 rfl (tX6_isReserved v (d + 0) l0) rfl rfl rfl rfl ml_X6_202 im_X6_isReserved se_X6_X6_isReserved in_X6 co_X6_isReserved rfl rfl (fun x7 => ?_)
      refine rz_if_ne 42 38 dX6_isName_35 rfl rfl ?_ ?_
      · refine rz_iconst 43 dX6_isName_42 rfl ci_0 ?_
        exact rz_zreturn rfl rfl dX6_isName_43
      · refine rz_iconst 39 dX6_isName_38 rfl ci_1 ?_
        refine rz_goto 43 dX6_isName_39 rfl ?_
        exact rz_zreturn rfl rfl dX6_isName_43
theorem tX6_isName (v : mE) (d : Nat) (l0 : Nat) : Mt v yX6_isName cX6_isName 1 (some .boolean) emI (d + 6) [vR l0] (fX6_isName l0) := mt_of rfl rfl (fun h => by cases h) rfl rfl (rX6_isName v d l0)
theorem dX6_findName_0 : decode cX6_findName 0 = .ok (.iconst 0, 1) := by decide +kernel
theorem dX6_findName_1 : decode cX6_findName 1 = .ok (.istore_n 1, 1) := by decide +kernel
theorem dX6_findName_2 : decode cX6_findName 2 = .ok (.iload_n 1, 1) := by decide +kernel
theorem dX6_findName_3 : decode cX6_findName 3 = .ok (.aload_n 0, 1) := by decide +kernel
theorem dX6_findName_4 : decode cX6_findName 4 = .ok (.getfield 19, 3) := by decide +kernel
theorem dX6_findName_7 : decode cX6_findName 7 = .ok (.if_icmp .ge 123, 3) := by decide +kernel
theorem dX6_findName_10 : decode cX6_findName 10 = .ok (.aload_n 0, 1) := by decide +kernel
theorem dX6_findName_11 : decode cX6_findName 11 = .ok (.getfield 26, 3) := by decide +kernel
theorem dX6_findName_14 : decode cX6_findName 14 = .ok (.iload_n 1, 1) := by decide +kernel
theorem dX6_findName_15 : decode cX6_findName 15 = .ok (.iaload, 1) := by decide +kernel
theorem dX6_findName_16 : decode cX6_findName 16 = .ok (.aload_n 0, 1) := by decide +kernel
theorem dX6_findName_17 : decode cX6_findName 17 = .ok (.getfield 22, 3) := by decide +kernel
theorem dX6_findName_20 : decode cX6_findName 20 = .ok (.iload_n 1, 1) := by decide +kernel
theorem dX6_findName_21 : decode cX6_findName 21 = .ok (.iaload, 1) := by decide +kernel
theorem dX6_findName_22 : decode cX6_findName 22 = .ok (.isub, 1) := by decide +kernel
theorem dX6_findName_23 : decode cX6_findName 23 = .ok (.aload_n 0, 1) := by decide +kernel
theorem dX6_findName_24 : decode cX6_findName 24 = .ok (.getfield 38, 3) := by decide +kernel
theorem dX6_findName_27 : decode cX6_findName 27 = .ok (.getfield 196, 3) := by decide +kernel
theorem dX6_findName_30 : decode cX6_findName 30 = .ok (.aload_n 0, 1) := by decide +kernel
theorem dX6_findName_31 : decode cX6_findName 31 = .ok (.getfield 38, 3) := by decide +kernel
theorem dX6_findName_34 : decode cX6_findName 34 = .ok (.getfield 199, 3) := by decide +kernel
theorem dX6_findName_37 : decode cX6_findName 37 = .ok (.isub, 1) := by decide +kernel
theorem dX6_findName_38 : decode cX6_findName 38 = .ok (.if_icmp .ne 7, 3) := by decide +kernel
theorem dX6_findName_41 : decode cX6_findName 41 = .ok (.iconst 1, 1) := by decide +kernel
theorem dX6_findName_42 : decode cX6_findName 42 = .ok (.goto 4, 3) := by decide +kernel
theorem dX6_findName_45 : decode cX6_findName 45 = .ok (.iconst 0, 1) := by decide +kernel
theorem dX6_findName_46 : decode cX6_findName 46 = .ok (.istore_n 2, 1) := by decide +kernel
theorem dX6_findName_47 : decode cX6_findName 47 = .ok (.aload_n 0, 1) := by decide +kernel
theorem dX6_findName_48 : decode cX6_findName 48 = .ok (.getfield 38, 3) := by decide +kernel
theorem dX6_findName_51 : decode cX6_findName 51 = .ok (.getfield 199, 3) := by decide +kernel
theorem dX6_findName_54 : decode cX6_findName 54 = .ok (.istore_n 3, 1) := by decide +kernel
theorem dX6_findName_55 : decode cX6_findName 55 = .ok (.iload_n 3, 1) := by decide +kernel
theorem dX6_findName_56 : decode cX6_findName 56 = .ok (.aload_n 0, 1) := by decide +kernel
theorem dX6_findName_57 : decode cX6_findName 57 = .ok (.getfield 38, 3) := by decide +kernel
theorem dX6_findName_60 : decode cX6_findName 60 = .ok (.getfield 196, 3) := by decide +kernel
theorem dX6_findName_63 : decode cX6_findName 63 = .ok (.if_icmp .ge 55, 3) := by decide +kernel
theorem dX6_findName_66 : decode cX6_findName 66 = .ok (.iload_n 2, 1) := by decide +kernel
theorem dX6_findName_67 : decode cX6_findName 67 = .ok (.ifCond .eq 51, 3) := by decide +kernel
theorem dX6_findName_70 : decode cX6_findName 70 = .ok (.aload_n 0, 1) := by decide +kernel
theorem dX6_findName_71 : decode cX6_findName 71 = .ok (.getfield 38, 3) := by decide +kernel
theorem dX6_findName_74 : decode cX6_findName 74 = .ok (.getfield 220, 3) := by decide +kernel
theorem dX6_findName_77 : decode cX6_findName 77 = .ok (.iload_n 3, 1) := by decide +kernel
theorem dX6_findName_78 : decode cX6_findName 78 = .ok (.baload, 1) := by decide +kernel
theorem dX6_findName_79 : decode cX6_findName 79 = .ok (.aload_n 0, 1) := by decide +kernel
theorem dX6_findName_80 : decode cX6_findName 80 = .ok (.getfield 38, 3) := by decide +kernel
theorem dX6_findName_83 : decode cX6_findName 83 = .ok (.getfield 220, 3) := by decide +kernel
theorem dX6_findName_86 : decode cX6_findName 86 = .ok (.aload_n 0, 1) := by decide +kernel
theorem dX6_findName_87 : decode cX6_findName 87 = .ok (.getfield 22, 3) := by decide +kernel
theorem dX6_findName_90 : decode cX6_findName 90 = .ok (.iload_n 1, 1) := by decide +kernel
theorem dX6_findName_91 : decode cX6_findName 91 = .ok (.iaload, 1) := by decide +kernel
theorem dX6_findName_92 : decode cX6_findName 92 = .ok (.iload_n 3, 1) := by decide +kernel
theorem dX6_findName_93 : decode cX6_findName 93 = .ok (.iadd, 1) := by decide +kernel
theorem dX6_findName_94 : decode cX6_findName 94 = .ok (.aload_n 0, 1) := by decide +kernel
theorem dX6_findName_95 : decode cX6_findName 95 = .ok (.getfield 38, 3) := by decide +kernel
theorem dX6_findName_98 : decode cX6_findName 98 = .ok (.getfield 199, 3) := by decide +kernel
theorem dX6_findName_101 : decode cX6_findName 101 = .ok (.isub, 1) := by decide +kernel
theorem dX6_findName_102 : decode cX6_findName 102 = .ok (.baload, 1) := by decide +kernel
theorem dX6_findName_103 : decode cX6_findName 103 = .ok (.if_icmp .ne 7, 3) := by decide +kernel
theorem dX6_findName_106 : decode cX6_findName 106 = .ok (.iconst 1, 1) := by decide +kernel
theorem dX6_findName_107 : decode cX6_findName 107 = .ok (.goto 4, 3) := by decide +kernel
theorem dX6_findName_110 : decode cX6_findName 110 = .ok (.iconst 0, 1) := by decide +kernel
theorem dX6_findName_111 : decode cX6_findName 111 = .ok (.istore_n 2, 1) := by decide +kernel
theorem dX6_findName_112 : decode cX6_findName 112 = .ok (.iinc 3 1, 3) := by decide +kernel
theorem dX6_findName_115 : decode cX6_findName 115 = .ok (.goto (-60), 3) := by decide +kernel
theorem dX6_findName_118 : decode cX6_findName 118 = .ok (.iload_n 2, 1) := by decide +kernel
theorem dX6_findName_119 : decode cX6_findName 119 = .ok (.ifCond .eq 5, 3) := by decide +kernel
theorem dX6_findName_122 : decode cX6_findName 122 = .ok (.iload_n 1, 1) := by decide +kernel
theorem dX6_findName_123 : decode cX6_findName 123 = .ok (.ireturn, 1) := by decide +kernel
theorem dX6_findName_124 : decode cX6_findName 124 = .ok (.iinc 1 1, 3) := by decide +kernel
theorem dX6_findName_127 : decode cX6_findName 127 = .ok (.goto (-125), 3) := by decide +kernel
theorem dX6_findName_130 : decode cX6_findName 130 = .ok (.iconst (-1), 1) := by decide +kernel
theorem dX6_findName_131 : decode cX6_findName 131 = .ok (.ireturn, 1) := by decide +kernel
def fX6_findName_118 (r2 : Nat → Int32 → mM Int32) (l0 : Nat) (l1 : Int32) (l2 : Int32) : mM Int32 := bIf (l2 = 0) (r2 l0 (l1 + 1)) (bRet l1)
set_option maxRecDepth 20000 in
theorem rX6_findName_118 (v : mE) (d : Nat) (r2 : Nat → Int32 → mM Int32) (h2 : ∀ (y0 : Nat) (y1 : Int32), Rz v RX6 cX6_findName 4 (some .int) false emI (d + 0) 2 [(0, vR y0), (1, vI y1)] [] (r2 y0 y1)) (l0 : Nat) (l1 : Int32) (l2 : Int32) : Rz v RX6 cX6_findName 4 (some .int) false emI (d + 0) 118 [(0, vR l0), (1, vI l1), (2, vI l2)] [] (fX6_findName_118 r2 l0 l1 l2) := by
  unfold fX6_findName_118
  refine rz_iload_n 119 2 dX6_findName_118 rfl rfl ?_
  refine rz_if_eq 124 122 dX6_findName_119 rfl rfl ?_ ?_
  · refine rz_iinc (lv' := [(1, vI (l1 + 1)), (0, vR l0), (2, vI l2)]) 127 1 dX6_findName_124 rfl rfl (cn_1 _) rfl rfl ?_
    refine rz_goto 2 dX6_findName_127 rfl ?_
    exact rz_sub [1, 0] rfl (h2 l0 (l1 + 1))
  · refine rz_iload_n 123 1 dX6_findName_122 rfl rfl ?_
    exact rz_ireturn rfl rfl dX6_findName_123
def fX6_findName_111 (r2 : Nat → Int32 → mM Int32) (r55 : Nat → Int32 → Int32 → Int32 → mM Int32) (l0 : Nat) (l1 : Int32) (l3 : Int32) (s0 : Int32) : mM Int32 := r55 l0 l1 s0 (l3 + 1)
set_option maxRecDepth 20000 in
theorem rX6_findName_111 (v : mE) (d : Nat) (r2 : Nat → Int32 → mM Int32) (h2 : ∀ (y0 : Nat) (y1 : Int32), Rz v RX6 cX6_findName 4 (some .int) false emI (d + 0) 2 [(0, vR y0), (1, vI y1)] [] (r2 y0 y1)) (r55 : Nat → Int32 → Int32 → Int32 → mM Int32) (h55 : ∀ (y0 : Nat) (y1 : Int32) (y2 : Int32) (y3 : Int32), Rz v RX6 cX6_findName 4 (some .int) false emI (d + 0) 55 [(0, vR y0), (1, vI y1), (2, vI y2), (3, vI y3)] [] (r55 y0 y1 y2 y3)) (l0 : Nat) (l1 : Int32) (l3 : Int32) (s0 : Int32) : Rz v RX6 cX6_findName 4 (some .int) false emI (d + 0) 111 [(0, vR l0), (1, vI l1), (3, vI l3)] [vI s0] (fX6_findName_111 r2 r55 l0 l1 l3 s0) := by
  unfold fX6_findName_111
  refine rz_istore_n (lv' := [(2, vI s0), (0, vR l0), (1, vI l1), (3, vI l3)]) 112 dX6_findName_111 rfl rfl rfl ?_
  refine rz_iinc (lv' := [(3, vI (l3 + 1)), (2, vI s0), (0, vR l0), (1, vI l1)]) 115 3 dX6_findName_112 rfl rfl (cn_1 _) rfl rfl ?_
  refine rz_goto 55 dX6_findName_115 rfl ?_
  exact rz_sub [2, 3, 1, 0] rfl (h55 l0 l1 s0 (l3 + 1))
def fX6_findName_55 (r2 : Nat → Int32 → mM Int32) : Nat → Nat → Int32 → Int32 → Int32 → mM Int32
  | 0 => fun _ _ _ _ => fun _ => none
  | n + 1 => fun l0 l1 l2 l3 => let r55 := fX6_findName_55 r2 n; bGR 6 l0 0 (fun x1 => bGI 4 x1 4 (fun x2 => bIf (x2 ≤ l3) (fX6_findName_118 r2 l0 l1 l2) (bIf (l2 = 0) (fX6_findName_118 r2 l0 l1 l2) (bGR 6 l0 0 (fun x3 => bGR 4 x3 0 (fun x4 => bAI 10 x4 l3 (fun x5 => bGR 6 l0 0 (fun x6 => bGR 4 x6 0 (fun x7 => bGR 6 l0 5 (fun x8 => bAI 11 x8 l1 (fun x9 => bGR 6 l0 0 (fun x10 => bGI 4 x10 3 (fun x11 => bAI 10 x7 ((x9 + l3) - x11) (fun x12 => bIf (x5 = x12) (fX6_findName_111 r2 r55 l0 l1 l3 (1 : Int32)) (fX6_findName_111 r2 r55 l0 l1 l3 (0 : Int32))))))))))))))))
theorem qX6_findName_55 (r2 : Nat → Int32 → mM Int32) (n : Nat) (l0 : Nat) (l1 : Int32) (l2 : Int32) (l3 : Int32) : fX6_findName_55 r2 (n + 1) l0 l1 l2 l3 = bGR 6 l0 0 (fun x1 => bGI 4 x1 4 (fun x2 => bIf (x2 ≤ l3) (fX6_findName_118 r2 l0 l1 l2) (bIf (l2 = 0) (fX6_findName_118 r2 l0 l1 l2) (bGR 6 l0 0 (fun x3 => bGR 4 x3 0 (fun x4 => bAI 10 x4 l3 (fun x5 => bGR 6 l0 0 (fun x6 => bGR 4 x6 0 (fun x7 => bGR 6 l0 5 (fun x8 => bAI 11 x8 l1 (fun x9 => bGR 6 l0 0 (fun x10 => bGI 4 x10 3 (fun x11 => bAI 10 x7 ((x9 + l3) - x11) (fun x12 => bIf (x5 = x12) (fX6_findName_111 r2 (fX6_findName_55 r2 n) l0 l1 l3 (1 : Int32)) (fX6_findName_111 r2 (fX6_findName_55 r2 n) l0 l1 l3 (0 : Int32)))))))))))))))) := rfl
set_option maxRecDepth 20000 in
theorem rX6_findName_55 (v : mE) (d : Nat) (r2 : Nat → Int32 → mM Int32) (h2 : ∀ (y0 : Nat) (y1 : Int32), Rz v RX6 cX6_findName 4 (some .int) false emI (d + 0) 2 [(0, vR y0), (1, vI y1)] [] (r2 y0 y1)) : ∀ (n : Nat) (l0 : Nat) (l1 : Int32) (l2 : Int32) (l3 : Int32), Rz v RX6 cX6_findName 4 (some .int) false emI (d + 0) 55 [(0, vR l0), (1, vI l1), (2, vI l2), (3, vI l3)] [] (fX6_findName_55 r2 n l0 l1 l2 l3)
  | 0, _, _, _, _ => fun _ _ _ hm => by cases hm
  | n + 1, l0, l1, l2, l3 => by
    have h55 := rX6_findName_55 v d r2 h2 n
    unfold fX6_findName_55
    generalize fX6_findName_55 r2 n = r55 at h55 ⊢
    refine rz_iload_n 56 3 dX6_findName_55 rfl rfl ?_
    refine rz_aload_n 57 0 dX6_findName_56 rfl rfl ?_
    refine rz_gR 60 dX6_findName_57 rfl rfl fl_X6_38 (fun x1 => ?_)
    refine rz_gI 63 dX6_findName_60 rfl rfl fl_X6_196 (fun x2 => ?_)
    refine rz_icmp_ge 118 66 dX6_findName_63 rfl rfl ?_ ?_
    · exact rz_sub [0, 1, 2] rfl (rX6_findName_118 v d r2 h2 l0 l1 l2)
    · refine rz_iload_n 67 2 dX6_findName_66 rfl rfl ?_
      refine rz_if_eq 118 70 dX6_findName_67 rfl rfl ?_ ?_
      · exact rz_sub [0, 1, 2] rfl (rX6_findName_118 v d r2 h2 l0 l1 l2)
      · refine rz_aload_n 71 0 dX6_findName_70 rfl rfl ?_
        refine rz_gR 74 dX6_findName_71 rfl rfl fl_X6_38 (fun x3 => ?_)
        refine rz_gR 77 dX6_findName_74 rfl rfl fl_X6_220 (fun x4 => ?_)
        refine rz_iload_n 78 3 dX6_findName_77 rfl rfl ?_
        refine rz_bald 79 dX6_findName_78 rfl (fun x5 => ?_)
        refine rz_aload_n 80 0 dX6_findName_79 rfl rfl ?_
        refine rz_gR 83 dX6_findName_80 rfl rfl fl_X6_38 (fun x6 => ?_)
        refine rz_gR 86 dX6_findName_83 rfl rfl fl_X6_220 (fun x7 => ?_)
        refine rz_aload_n 87 0 dX6_findName_86 rfl rfl ?_
        refine rz_gR 90 dX6_findName_87 rfl rfl fl_X6_22 (fun x8 => ?_)
        refine rz_iload_n 91 1 dX6_findName_90 rfl rfl ?_
        refine rz_iald 92 dX6_findName_91 rfl (fun x9 => ?_)
        refine rz_iload_n 93 3 dX6_findName_92 rfl rfl ?_
        refine rz_iadd 94 dX6_findName_93 rfl ?_
        refine rz_aload_n 95 0 dX6_findName_94 rfl rfl ?_
        refine rz_gR 98 dX6_findName_95 rfl rfl fl_X6_38 (fun x10 => ?_)
        refine rz_gI 101 dX6_findName_98 rfl rfl fl_X6_199 (fun x11 => ?_)
        refine rz_isub 102 dX6_findName_101 rfl ?_
        refine rz_bald 103 dX6_findName_102 rfl (fun x12 => ?_)
        refine rz_icmp_ne 110 106 dX6_findName_103 rfl rfl ?_ ?_
        · refine rz_iconst 111 dX6_findName_110 rfl ci_0 ?_
          exact rz_sub [0, 1, 3] rfl (rX6_findName_111 v d r2 h2 r55 h55 l0 l1 l3 (0 : Int32))
        · refine rz_iconst 107 dX6_findName_106 rfl ci_1 ?_
          refine rz_goto 111 dX6_findName_107 rfl ?_
          exact rz_sub [0, 1, 3] rfl (rX6_findName_111 v d r2 h2 r55 h55 l0 l1 l3 (1 : Int32))
def fX6_findName_46 (r2 : Nat → Int32 → mM Int32) (l0 : Nat) (l1 : Int32) (s0 : Int32) : mM Int32 := bGR 6 l0 0 (fun x1 => bGI 4 x1 3 (fun x2 => fX6_findName_55 r2 fu l0 l1 s0 x2))
set_option maxRecDepth 20000 in
theorem rX6_findName_46 (v : mE) (d : Nat) (r2 : Nat → Int32 → mM Int32) (h2 : ∀ (y0 : Nat) (y1 : Int32), Rz v RX6 cX6_findName 4 (some .int) false emI (d + 0) 2 [(0, vR y0), (1, vI y1)] [] (r2 y0 y1)) (l0 : Nat) (l1 : Int32) (s0 : Int32) : Rz v RX6 cX6_findName 4 (some .int) false emI (d + 0) 46 [(0, vR l0), (1, vI l1)] [vI s0] (fX6_findName_46 r2 l0 l1 s0) := by
  unfold fX6_findName_46
  refine rz_istore_n (lv' := [(2, vI s0), (0, vR l0), (1, vI l1)]) 47 dX6_findName_46 rfl rfl rfl ?_
  refine rz_aload_n 48 1 dX6_findName_47 rfl rfl ?_
  refine rz_gR 51 dX6_findName_48 rfl rfl fl_X6_38 (fun x1 => ?_)
  refine rz_gI 54 dX6_findName_51 rfl rfl fl_X6_199 (fun x2 => ?_)
  refine rz_istore_n (lv' := [(3, vI x2), (2, vI s0), (0, vR l0), (1, vI l1)]) 55 dX6_findName_54 rfl rfl rfl ?_
  exact rz_sub [2, 3, 1, 0] rfl (rX6_findName_55 v d r2 h2 fu l0 l1 s0 x2)
def fX6_findName_2 : Nat → Nat → Int32 → mM Int32
  | 0 => fun _ _ => fun _ => none
  | n + 1 => fun l0 l1 => let r2 := fX6_findName_2 n; bGI 6 l0 4 (fun x1 => bIf (x1 ≤ l1) (bRet (-1 : Int32)) (bGR 6 l0 6 (fun x2 => bAI 11 x2 l1 (fun x3 => bGR 6 l0 5 (fun x4 => bAI 11 x4 l1 (fun x5 => bGR 6 l0 0 (fun x6 => bGI 4 x6 4 (fun x7 => bGR 6 l0 0 (fun x8 => bGI 4 x8 3 (fun x9 => bIf ((x3 - x5) = (x7 - x9)) (fX6_findName_46 r2 l0 l1 (1 : Int32)) (fX6_findName_46 r2 l0 l1 (0 : Int32))))))))))))
theorem qX6_findName_2  (n : Nat) (l0 : Nat) (l1 : Int32) : fX6_findName_2 (n + 1) l0 l1 = bGI 6 l0 4 (fun x1 => bIf (x1 ≤ l1) (bRet (-1 : Int32)) (bGR 6 l0 6 (fun x2 => bAI 11 x2 l1 (fun x3 => bGR 6 l0 5 (fun x4 => bAI 11 x4 l1 (fun x5 => bGR 6 l0 0 (fun x6 => bGI 4 x6 4 (fun x7 => bGR 6 l0 0 (fun x8 => bGI 4 x8 3 (fun x9 => bIf ((x3 - x5) = (x7 - x9)) (fX6_findName_46 (fX6_findName_2 n) l0 l1 (1 : Int32)) (fX6_findName_46 (fX6_findName_2 n) l0 l1 (0 : Int32)))))))))))) := rfl
set_option maxRecDepth 20000 in
theorem rX6_findName_2 (v : mE) (d : Nat) : ∀ (n : Nat) (l0 : Nat) (l1 : Int32), Rz v RX6 cX6_findName 4 (some .int) false emI (d + 0) 2 [(0, vR l0), (1, vI l1)] [] (fX6_findName_2 n l0 l1)
  | 0, _, _ => fun _ _ _ hm => by cases hm
  | n + 1, l0, l1 => by
    have h2 := rX6_findName_2 v d n
    unfold fX6_findName_2
    generalize fX6_findName_2 n = r2 at h2 ⊢
    refine rz_iload_n 3 1 dX6_findName_2 rfl rfl ?_
    refine rz_aload_n 4 0 dX6_findName_3 rfl rfl ?_
    refine rz_gI 7 dX6_findName_4 rfl rfl fl_X6_19 (fun x1 => ?_)
    refine rz_icmp_ge 130 10 dX6_findName_7 rfl rfl ?_ ?_
    · refine rz_iconst 131 dX6_findName_130 rfl ci_m1 ?_
      exact rz_ireturn rfl rfl dX6_findName_131
    · refine rz_aload_n 11 0 dX6_findName_10 rfl rfl ?_
      refine rz_gR 14 dX6_findName_11 rfl rfl fl_X6_26 (fun x2 => ?_)
      refine rz_iload_n 15 1 dX6_findName_14 rfl rfl ?_
      refine rz_iald 16 dX6_findName_15 rfl (fun x3 => ?_)
      refine rz_aload_n 17 0 dX6_findName_16 rfl rfl ?_
      refine rz_gR 20 dX6_findName_17 rfl rfl fl_X6_22 (fun x4 => ?_)
      refine rz_iload_n 21 1 dX6_findName_20 rfl rfl ?_
      refine rz_iald 22 dX6_findName_21 rfl (fun x5 => ?_)
      refine rz_isub 23 dX6_findName_22 rfl ?_
      refine rz_aload_n 24 0 dX6_findName_23 rfl rfl ?_
      refine rz_gR 27 dX6_findName_24 rfl rfl fl_X6_38 (fun x6 => ?_)
      refine rz_gI 30 dX6_findName_27 rfl rfl fl_X6_196 (fun x7 => ?_)
      refine rz_aload_n 31 0 dX6_findName_30 rfl rfl ?_
      refine rz_gR 34 dX6_findName_31 rfl rfl fl_X6_38 (fun x8 => ?_)
      refine rz_gI 37 dX6_findName_34 rfl rfl fl_X6_199 (fun x9 => ?_)
      refine rz_isub 38 dX6_findName_37 rfl ?_
      refine rz_icmp_ne 45 41 dX6_findName_38 rfl rfl ?_ ?_
      · refine rz_iconst 46 dX6_findName_45 rfl ci_0 ?_
        exact rz_sub [0, 1] rfl (rX6_findName_46 v d r2 h2 l0 l1 (0 : Int32))
      · refine rz_iconst 42 dX6_findName_41 rfl ci_1 ?_
        refine rz_goto 46 dX6_findName_42 rfl ?_
        exact rz_sub [0, 1] rfl (rX6_findName_46 v d r2 h2 l0 l1 (1 : Int32))
def fX6_findName (l0 : Nat) : mM Int32 := fX6_findName_2 fu l0 (0 : Int32)
set_option maxRecDepth 20000 in
theorem rX6_findName (v : mE) (d : Nat) (l0 : Nat) : Rz v RX6 cX6_findName 4 (some .int) false emI (d + 0) 0 [(0, vR l0)] [] (fX6_findName l0) := by
  unfold fX6_findName
  refine rz_iconst 1 dX6_findName_0 rfl ci_0 ?_
  refine rz_istore_n (lv' := [(1, vI (0 : Int32)), (0, vR l0)]) 2 dX6_findName_1 rfl rfl rfl ?_
  exact rz_sub [1, 0] rfl (rX6_findName_2 v d fu l0 (0 : Int32))
theorem tX6_findName (v : mE) (d : Nat) (l0 : Nat) : Mt v yX6_findName cX6_findName 4 (some .int) emI (d + 0) [vR l0] (fX6_findName l0) := mt_of rfl rfl (fun h => by cases h) rfl rfl (rX6_findName v d l0)
theorem dX6_takeNewName_0 : decode cX6_takeNewName 0 = .ok (.aload_n 0, 1) := by decide +kernel
theorem dX6_takeNewName_1 : decode cX6_takeNewName 1 = .ok (.invokevirtual 224, 3) := by decide +kernel
theorem dX6_takeNewName_4 : decode cX6_takeNewName 4 = .ok (.ifCond .ne 12, 3) := by decide +kernel
theorem dX6_takeNewName_7 : decode cX6_takeNewName 7 = .ok (.aload_n 0, 1) := by decide +kernel
theorem dX6_takeNewName_8 : decode cX6_takeNewName 8 = .ok (.getfield 38, 3) := by decide +kernel
theorem dX6_takeNewName_11 : decode cX6_takeNewName 11 = .ok (.iconst 2, 1) := by decide +kernel
theorem dX6_takeNewName_12 : decode cX6_takeNewName 12 = .ok (.invokevirtual 70, 3) := by decide +kernel
theorem dX6_takeNewName_15 : decode cX6_takeNewName 15 = .ok (.ireturn, 1) := by decide +kernel
theorem dX6_takeNewName_16 : decode cX6_takeNewName 16 = .ok (.aload_n 0, 1) := by decide +kernel
theorem dX6_takeNewName_17 : decode cX6_takeNewName 17 = .ok (.invokevirtual 227, 3) := by decide +kernel
theorem dX6_takeNewName_20 : decode cX6_takeNewName 20 = .ok (.iconst (-1), 1) := by decide +kernel
theorem dX6_takeNewName_21 : decode cX6_takeNewName 21 = .ok (.if_icmp .eq 12, 3) := by decide +kernel
theorem dX6_takeNewName_24 : decode cX6_takeNewName 24 = .ok (.aload_n 0, 1) := by decide +kernel
theorem dX6_takeNewName_25 : decode cX6_takeNewName 25 = .ok (.getfield 38, 3) := by decide +kernel
theorem dX6_takeNewName_28 : decode cX6_takeNewName 28 = .ok (.iconst 3, 1) := by decide +kernel
theorem dX6_takeNewName_29 : decode cX6_takeNewName 29 = .ok (.invokevirtual 70, 3) := by decide +kernel
theorem dX6_takeNewName_32 : decode cX6_takeNewName 32 = .ok (.ireturn, 1) := by decide +kernel
theorem dX6_takeNewName_33 : decode cX6_takeNewName 33 = .ok (.aload_n 0, 1) := by decide +kernel
theorem dX6_takeNewName_34 : decode cX6_takeNewName 34 = .ok (.aload_n 0, 1) := by decide +kernel
theorem dX6_takeNewName_35 : decode cX6_takeNewName 35 = .ok (.getfield 38, 3) := by decide +kernel
theorem dX6_takeNewName_38 : decode cX6_takeNewName 38 = .ok (.getfield 199, 3) := by decide +kernel
theorem dX6_takeNewName_41 : decode cX6_takeNewName 41 = .ok (.putfield 32, 3) := by decide +kernel
theorem dX6_takeNewName_44 : decode cX6_takeNewName 44 = .ok (.aload_n 0, 1) := by decide +kernel
theorem dX6_takeNewName_45 : decode cX6_takeNewName 45 = .ok (.aload_n 0, 1) := by decide +kernel
theorem dX6_takeNewName_46 : decode cX6_takeNewName 46 = .ok (.getfield 38, 3) := by decide +kernel
theorem dX6_takeNewName_49 : decode cX6_takeNewName 49 = .ok (.getfield 196, 3) := by decide +kernel
theorem dX6_takeNewName_52 : decode cX6_takeNewName 52 = .ok (.putfield 35, 3) := by decide +kernel
theorem dX6_takeNewName_55 : decode cX6_takeNewName 55 = .ok (.aload_n 0, 1) := by decide +kernel
theorem dX6_takeNewName_56 : decode cX6_takeNewName 56 = .ok (.getfield 38, 3) := by decide +kernel
theorem dX6_takeNewName_59 : decode cX6_takeNewName 59 = .ok (.invokevirtual 98, 3) := by decide +kernel
theorem dX6_takeNewName_62 : decode cX6_takeNewName 62 = .ok (.iconst 1, 1) := by decide +kernel
theorem dX6_takeNewName_63 : decode cX6_takeNewName 63 = .ok (.ireturn, 1) := by decide +kernel
def fX6_takeNewName (l0 : Nat) : mM Int32 := bCallV 6 l0 (fX6_isName l0) (fun x1 => bIf (x1 = 0) (bGR 6 l0 0 (fun x10 => bCallV 4 x10 (fX4_refuseToken x10 (2 : Int32)) (fun x11 => bRetZ x11))) (bCallV 6 l0 (fX6_findName l0) (fun x2 => bIf (x2 = (-1 : Int32)) (bGR 6 l0 0 (fun x3 => bGI 4 x3 3 (fun x4 => bPI 6 l0 8 x4 (bGR 6 l0 0 (fun x5 => bGI 4 x5 4 (fun x6 => bPI 6 l0 9 x6 (bGR 6 l0 0 (fun x7 => bCallV 4 x7 (fX4_next x7) (fun _ => bRetZ (1 : Int32)))))))))) (bGR 6 l0 0 (fun x8 => bCallV 4 x8 (fX4_refuseToken x8 (3 : Int32)) (fun x9 => bRetZ x9))))))
set_option maxRecDepth 20000 in
theorem rX6_takeNewName (v : mE) (d : Nat) (l0 : Nat) : Rz v RX6 cX6_takeNewName 1 (some .boolean) false emI (d + 7) 0 [(0, vR l0)] [] (fX6_takeNewName l0) := by
  unfold fX6_takeNewName
  refine rz_aload_n 1 0 dX6_takeNewName_0 rfl rfl ?_
  refine rz_callV 4 dX6_takeNewName_1 rfl (tX6_isName v (d + 0) l0) rfl rfl rfl rfl ml_X6_224 im_X6_isName se_X6_X6_isName in_X6 co_X6_isName rfl rfl (fun x1 => ?_)
  refine rz_if_ne 16 7 dX6_takeNewName_4 rfl rfl ?_ ?_
  · refine rz_aload_n 17 0 dX6_takeNewName_16 rfl rfl ?_
    refine rz_callV 20 dX6_takeNewName_17 rfl (tX6_findName v (d + 6) l0) rfl rfl rfl rfl ml_X6_227 im_X6_findName se_X6_X6_findName in_X6 co_X6_findName rfl rfl (fun x2 => ?_)
    refine rz_iconst 21 dX6_takeNewName_20 rfl ci_m1 ?_
    refine rz_icmp_eq 33 24 dX6_takeNewName_21 rfl rfl ?_ ?_
    · refine rz_aload_n 34 0 dX6_takeNewName_33 rfl rfl ?_
      refine rz_aload_n 35 0 dX6_takeNewName_34 rfl rfl ?_
      refine rz_gR 38 dX6_takeNewName_35 rfl rfl fl_X6_38 (fun x3 => ?_)
      refine rz_gI 41 dX6_takeNewName_38 rfl rfl fl_X6_199 (fun x4 => ?_)
      refine rz_pI 44 dX6_takeNewName_41 rfl rfl rfl rfl fl_X6_32 ?_
      refine rz_aload_n 45 0 dX6_takeNewName_44 rfl rfl ?_
      refine rz_aload_n 46 0 dX6_takeNewName_45 rfl rfl ?_
      refine rz_gR 49 dX6_takeNewName_46 rfl rfl fl_X6_38 (fun x5 => ?_)
      refine rz_gI 52 dX6_takeNewName_49 rfl rfl fl_X6_196 (fun x6 => ?_)
      refine rz_pI 55 dX6_takeNewName_52 rfl rfl rfl rfl fl_X6_35 ?_
      refine rz_aload_n 56 0 dX6_takeNewName_55 rfl rfl ?_
      refine rz_gR 59 dX6_takeNewName_56 rfl rfl fl_X6_38 (fun x7 => ?_)
      refine rz_callV 62 dX6_takeNewName_59 rfl (tX4_next v (d + 2) x7) rfl rfl rfl rfl ml_X6_98 im_X4_next se_X4_X4_next in_X4 co_X4_next rfl rfl (fun _ => ?_)
      refine rz_iconst 63 dX6_takeNewName_62 rfl ci_1 ?_
      exact rz_zreturn rfl rfl dX6_takeNewName_63
    · refine rz_aload_n 25 0 dX6_takeNewName_24 rfl rfl ?_
      refine rz_gR 28 dX6_takeNewName_25 rfl rfl fl_X6_38 (fun x8 => ?_)
      refine rz_iconst 29 dX6_takeNewName_28 rfl ci_3 ?_
      refine rz_callV 32 dX6_takeNewName_29 rfl (tX4_refuseToken v (d + 6) x8 (3 : Int32)) rfl rfl rfl rfl ml_X6_70 im_X4_refuseToken se_X4_X4_refuseToken in_X4 co_X4_refuseToken rfl rfl (fun x9 => ?_)
      exact rz_zreturn rfl rfl dX6_takeNewName_32
  · refine rz_aload_n 8 0 dX6_takeNewName_7 rfl rfl ?_
    refine rz_gR 11 dX6_takeNewName_8 rfl rfl fl_X6_38 (fun x10 => ?_)
    refine rz_iconst 12 dX6_takeNewName_11 rfl ci_2 ?_
    refine rz_callV 15 dX6_takeNewName_12 rfl (tX4_refuseToken v (d + 6) x10 (2 : Int32)) rfl rfl rfl rfl ml_X6_70 im_X4_refuseToken se_X4_X4_refuseToken in_X4 co_X4_refuseToken rfl rfl (fun x11 => ?_)
    exact rz_zreturn rfl rfl dX6_takeNewName_15
theorem tX6_takeNewName (v : mE) (d : Nat) (l0 : Nat) : Mt v yX6_takeNewName cX6_takeNewName 1 (some .boolean) emI (d + 7) [vR l0] (fX6_takeNewName l0) := mt_of rfl rfl (fun h => by cases h) rfl rfl (rX6_takeNewName v d l0)
theorem dX6_takePerson_0 : decode cX6_takePerson 0 = .ok (.aload_n 0, 1) := by decide +kernel
theorem dX6_takePerson_1 : decode cX6_takePerson 1 = .ok (.invokevirtual 224, 3) := by decide +kernel
theorem dX6_takePerson_4 : decode cX6_takePerson 4 = .ok (.ifCond .ne 12, 3) := by decide +kernel
theorem dX6_takePerson_7 : decode cX6_takePerson 7 = .ok (.aload_n 0, 1) := by decide +kernel
theorem dX6_takePerson_8 : decode cX6_takePerson 8 = .ok (.getfield 38, 3) := by decide +kernel
theorem dX6_takePerson_11 : decode cX6_takePerson 11 = .ok (.iconst 2, 1) := by decide +kernel
theorem dX6_takePerson_12 : decode cX6_takePerson 12 = .ok (.invokevirtual 70, 3) := by decide +kernel
theorem dX6_takePerson_15 : decode cX6_takePerson 15 = .ok (.ireturn, 1) := by decide +kernel
theorem dX6_takePerson_16 : decode cX6_takePerson 16 = .ok (.aload_n 0, 1) := by decide +kernel
theorem dX6_takePerson_17 : decode cX6_takePerson 17 = .ok (.invokevirtual 227, 3) := by decide +kernel
theorem dX6_takePerson_20 : decode cX6_takePerson 20 = .ok (.istore_n 1, 1) := by decide +kernel
theorem dX6_takePerson_21 : decode cX6_takePerson 21 = .ok (.iload_n 1, 1) := by decide +kernel
theorem dX6_takePerson_22 : decode cX6_takePerson 22 = .ok (.iconst (-1), 1) := by decide +kernel
theorem dX6_takePerson_23 : decode cX6_takePerson 23 = .ok (.if_icmp .eq 13, 3) := by decide +kernel
theorem dX6_takePerson_26 : decode cX6_takePerson 26 = .ok (.aload_n 0, 1) := by decide +kernel
theorem dX6_takePerson_27 : decode cX6_takePerson 27 = .ok (.getfield 29, 3) := by decide +kernel
theorem dX6_takePerson_30 : decode cX6_takePerson 30 = .ok (.iload_n 1, 1) := by decide +kernel
theorem dX6_takePerson_31 : decode cX6_takePerson 31 = .ok (.iaload, 1) := by decide +kernel
theorem dX6_takePerson_32 : decode cX6_takePerson 32 = .ok (.iconst (-1), 1) := by decide +kernel
theorem dX6_takePerson_33 : decode cX6_takePerson 33 = .ok (.if_icmp .ne 12, 3) := by decide +kernel
theorem dX6_takePerson_36 : decode cX6_takePerson 36 = .ok (.aload_n 0, 1) := by decide +kernel
theorem dX6_takePerson_37 : decode cX6_takePerson 37 = .ok (.getfield 38, 3) := by decide +kernel
theorem dX6_takePerson_40 : decode cX6_takePerson 40 = .ok (.iconst 3, 1) := by decide +kernel
theorem dX6_takePerson_41 : decode cX6_takePerson 41 = .ok (.invokevirtual 70, 3) := by decide +kernel
theorem dX6_takePerson_44 : decode cX6_takePerson 44 = .ok (.ireturn, 1) := by decide +kernel
theorem dX6_takePerson_45 : decode cX6_takePerson 45 = .ok (.aload_n 0, 1) := by decide +kernel
theorem dX6_takePerson_46 : decode cX6_takePerson 46 = .ok (.getfield 38, 3) := by decide +kernel
theorem dX6_takePerson_49 : decode cX6_takePerson 49 = .ok (.aload_n 0, 1) := by decide +kernel
theorem dX6_takePerson_50 : decode cX6_takePerson 50 = .ok (.getfield 29, 3) := by decide +kernel
theorem dX6_takePerson_53 : decode cX6_takePerson 53 = .ok (.iload_n 1, 1) := by decide +kernel
theorem dX6_takePerson_54 : decode cX6_takePerson 54 = .ok (.iaload, 1) := by decide +kernel
theorem dX6_takePerson_55 : decode cX6_takePerson 55 = .ok (.putfield 105, 3) := by decide +kernel
theorem dX6_takePerson_58 : decode cX6_takePerson 58 = .ok (.aload_n 0, 1) := by decide +kernel
theorem dX6_takePerson_59 : decode cX6_takePerson 59 = .ok (.getfield 38, 3) := by decide +kernel
theorem dX6_takePerson_62 : decode cX6_takePerson 62 = .ok (.invokevirtual 98, 3) := by decide +kernel
theorem dX6_takePerson_65 : decode cX6_takePerson 65 = .ok (.iconst 1, 1) := by decide +kernel
theorem dX6_takePerson_66 : decode cX6_takePerson 66 = .ok (.ireturn, 1) := by decide +kernel
def fX6_takePerson_36 (l0 : Nat) : mM Int32 := bGR 6 l0 0 (fun x1 => bCallV 4 x1 (fX4_refuseToken x1 (3 : Int32)) (fun x2 => bRetZ x2))
set_option maxRecDepth 20000 in
theorem rX6_takePerson_36 (v : mE) (d : Nat) (l0 : Nat) : Rz v RX6 cX6_takePerson 2 (some .boolean) false emI (d + 7) 36 [(0, vR l0)] [] (fX6_takePerson_36 l0) := by
  unfold fX6_takePerson_36
  refine rz_aload_n 37 0 dX6_takePerson_36 rfl rfl ?_
  refine rz_gR 40 dX6_takePerson_37 rfl rfl fl_X6_38 (fun x1 => ?_)
  refine rz_iconst 41 dX6_takePerson_40 rfl ci_3 ?_
  refine rz_callV 44 dX6_takePerson_41 rfl (tX4_refuseToken v (d + 6) x1 (3 : Int32)) rfl rfl rfl rfl ml_X6_70 im_X4_refuseToken se_X4_X4_refuseToken in_X4 co_X4_refuseToken rfl rfl (fun x2 => ?_)
  exact rz_zreturn rfl rfl dX6_takePerson_44
def fX6_takePerson (l0 : Nat) : mM Int32 := bCallV 6 l0 (fX6_isName l0) (fun x1 => bIf (x1 = 0) (bGR 6 l0 0 (fun x9 => bCallV 4 x9 (fX4_refuseToken x9 (2 : Int32)) (fun x10 => bRetZ x10))) (bCallV 6 l0 (fX6_findName l0) (fun x2 => bIf (x2 = (-1 : Int32)) (fX6_takePerson_36 l0) (bGR 6 l0 7 (fun x3 => bAI 11 x3 x2 (fun x4 => bIf (x4 = (-1 : Int32)) (fX6_takePerson_36 l0) (bGR 6 l0 0 (fun x5 => bGR 6 l0 7 (fun x6 => bAI 11 x6 x2 (fun x7 => bPI 4 x5 6 x7 (bGR 6 l0 0 (fun x8 => bCallV 4 x8 (fX4_next x8) (fun _ => bRetZ (1 : Int32))))))))))))))
set_option maxRecDepth 20000 in
theorem rX6_takePerson (v : mE) (d : Nat) (l0 : Nat) : Rz v RX6 cX6_takePerson 2 (some .boolean) false emI (d + 7) 0 [(0, vR l0)] [] (fX6_takePerson l0) := by
  unfold fX6_takePerson
  refine rz_aload_n 1 0 dX6_takePerson_0 rfl rfl ?_
  refine rz_callV 4 dX6_takePerson_1 rfl (tX6_isName v (d + 0) l0) rfl rfl rfl rfl ml_X6_224 im_X6_isName se_X6_X6_isName in_X6 co_X6_isName rfl rfl (fun x1 => ?_)
  refine rz_if_ne 16 7 dX6_takePerson_4 rfl rfl ?_ ?_
  · refine rz_aload_n 17 0 dX6_takePerson_16 rfl rfl ?_
    refine rz_callV 20 dX6_takePerson_17 rfl (tX6_findName v (d + 6) l0) rfl rfl rfl rfl ml_X6_227 im_X6_findName se_X6_X6_findName in_X6 co_X6_findName rfl rfl (fun x2 => ?_)
    refine rz_istore_n (lv' := [(1, vI x2), (0, vR l0)]) 21 dX6_takePerson_20 rfl rfl rfl ?_
    refine rz_iload_n 22 0 dX6_takePerson_21 rfl rfl ?_
    refine rz_iconst 23 dX6_takePerson_22 rfl ci_m1 ?_
    refine rz_icmp_eq 36 26 dX6_takePerson_23 rfl rfl ?_ ?_
    · exact rz_sub [1] rfl (rX6_takePerson_36 v d l0)
    · refine rz_aload_n 27 1 dX6_takePerson_26 rfl rfl ?_
      refine rz_gR 30 dX6_takePerson_27 rfl rfl fl_X6_29 (fun x3 => ?_)
      refine rz_iload_n 31 0 dX6_takePerson_30 rfl rfl ?_
      refine rz_iald 32 dX6_takePerson_31 rfl (fun x4 => ?_)
      refine rz_iconst 33 dX6_takePerson_32 rfl ci_m1 ?_
      refine rz_icmp_ne 45 36 dX6_takePerson_33 rfl rfl ?_ ?_
      · refine rz_aload_n 46 1 dX6_takePerson_45 rfl rfl ?_
        refine rz_gR 49 dX6_takePerson_46 rfl rfl fl_X6_38 (fun x5 => ?_)
        refine rz_aload_n 50 1 dX6_takePerson_49 rfl rfl ?_
        refine rz_gR 53 dX6_takePerson_50 rfl rfl fl_X6_29 (fun x6 => ?_)
        refine rz_iload_n 54 0 dX6_takePerson_53 rfl rfl ?_
        refine rz_iald 55 dX6_takePerson_54 rfl (fun x7 => ?_)
        refine rz_pI 58 dX6_takePerson_55 rfl rfl rfl rfl fl_X6_105 ?_
        refine rz_aload_n 59 1 dX6_takePerson_58 rfl rfl ?_
        refine rz_gR 62 dX6_takePerson_59 rfl rfl fl_X6_38 (fun x8 => ?_)
        refine rz_callV 65 dX6_takePerson_62 rfl (tX4_next v (d + 2) x8) rfl rfl rfl rfl ml_X6_98 im_X4_next se_X4_X4_next in_X4 co_X4_next rfl rfl (fun _ => ?_)
        refine rz_iconst 66 dX6_takePerson_65 rfl ci_1 ?_
        exact rz_zreturn rfl rfl dX6_takePerson_66
      · exact rz_sub [1] rfl (rX6_takePerson_36 v d l0)
  · refine rz_aload_n 8 0 dX6_takePerson_7 rfl rfl ?_
    refine rz_gR 11 dX6_takePerson_8 rfl rfl fl_X6_38 (fun x9 => ?_)
    refine rz_iconst 12 dX6_takePerson_11 rfl ci_2 ?_
    refine rz_callV 15 dX6_takePerson_12 rfl (tX4_refuseToken v (d + 6) x9 (2 : Int32)) rfl rfl rfl rfl ml_X6_70 im_X4_refuseToken se_X4_X4_refuseToken in_X4 co_X4_refuseToken rfl rfl (fun x10 => ?_)
    exact rz_zreturn rfl rfl dX6_takePerson_15
theorem tX6_takePerson (v : mE) (d : Nat) (l0 : Nat) : Mt v yX6_takePerson cX6_takePerson 2 (some .boolean) emI (d + 7) [vR l0] (fX6_takePerson l0) := mt_of rfl rfl (fun h => by cases h) rfl rfl (rX6_takePerson v d l0)
theorem dX6_keepName_0 : decode cX6_keepName 0 = .ok (.aload_n 0, 1) := by decide +kernel
theorem dX6_keepName_1 : decode cX6_keepName 1 = .ok (.getfield 19, 3) := by decide +kernel
theorem dX6_keepName_4 : decode cX6_keepName 4 = .ok (.bipush 14, 2) := by decide +kernel
theorem dX6_keepName_6 : decode cX6_keepName 6 = .ok (.if_icmp .ge 49, 3) := by decide +kernel
theorem dX6_keepName_9 : decode cX6_keepName 9 = .ok (.aload_n 0, 1) := by decide +kernel
theorem dX6_keepName_10 : decode cX6_keepName 10 = .ok (.getfield 22, 3) := by decide +kernel
theorem dX6_keepName_13 : decode cX6_keepName 13 = .ok (.aload_n 0, 1) := by decide +kernel
theorem dX6_keepName_14 : decode cX6_keepName 14 = .ok (.getfield 19, 3) := by decide +kernel
theorem dX6_keepName_17 : decode cX6_keepName 17 = .ok (.aload_n 0, 1) := by decide +kernel
theorem dX6_keepName_18 : decode cX6_keepName 18 = .ok (.getfield 32, 3) := by decide +kernel
theorem dX6_keepName_21 : decode cX6_keepName 21 = .ok (.iastore, 1) := by decide +kernel
theorem dX6_keepName_22 : decode cX6_keepName 22 = .ok (.aload_n 0, 1) := by decide +kernel
theorem dX6_keepName_23 : decode cX6_keepName 23 = .ok (.getfield 26, 3) := by decide +kernel
theorem dX6_keepName_26 : decode cX6_keepName 26 = .ok (.aload_n 0, 1) := by decide +kernel
theorem dX6_keepName_27 : decode cX6_keepName 27 = .ok (.getfield 19, 3) := by decide +kernel
theorem dX6_keepName_30 : decode cX6_keepName 30 = .ok (.aload_n 0, 1) := by decide +kernel
theorem dX6_keepName_31 : decode cX6_keepName 31 = .ok (.getfield 35, 3) := by decide +kernel
theorem dX6_keepName_34 : decode cX6_keepName 34 = .ok (.iastore, 1) := by decide +kernel
theorem dX6_keepName_35 : decode cX6_keepName 35 = .ok (.aload_n 0, 1) := by decide +kernel
theorem dX6_keepName_36 : decode cX6_keepName 36 = .ok (.getfield 29, 3) := by decide +kernel
theorem dX6_keepName_39 : decode cX6_keepName 39 = .ok (.aload_n 0, 1) := by decide +kernel
theorem dX6_keepName_40 : decode cX6_keepName 40 = .ok (.getfield 19, 3) := by decide +kernel
theorem dX6_keepName_43 : decode cX6_keepName 43 = .ok (.iload_n 1, 1) := by decide +kernel
theorem dX6_keepName_44 : decode cX6_keepName 44 = .ok (.iastore, 1) := by decide +kernel
theorem dX6_keepName_45 : decode cX6_keepName 45 = .ok (.aload_n 0, 1) := by decide +kernel
theorem dX6_keepName_46 : decode cX6_keepName 46 = .ok (.dup, 1) := by decide +kernel
theorem dX6_keepName_47 : decode cX6_keepName 47 = .ok (.getfield 19, 3) := by decide +kernel
theorem dX6_keepName_50 : decode cX6_keepName 50 = .ok (.iconst 1, 1) := by decide +kernel
theorem dX6_keepName_51 : decode cX6_keepName 51 = .ok (.iadd, 1) := by decide +kernel
theorem dX6_keepName_52 : decode cX6_keepName 52 = .ok (.putfield 19, 3) := by decide +kernel
theorem dX6_keepName_55 : decode cX6_keepName 55 = .ok (.return_, 1) := by decide +kernel
def fX6_keepName (l0 : Nat) (l1 : Int32) : mM Unit := bGI 6 l0 4 (fun x1 => bIf ((14 : Int32) ≤ x1) (bRet ()) (bGR 6 l0 5 (fun x2 => bGI 6 l0 4 (fun x3 => bGI 6 l0 8 (fun x4 => bSI x2 x3 x4 (bGR 6 l0 6 (fun x5 => bGI 6 l0 4 (fun x6 => bGI 6 l0 9 (fun x7 => bSI x5 x6 x7 (bGR 6 l0 7 (fun x8 => bGI 6 l0 4 (fun x9 => bSI x8 x9 l1 (bGI 6 l0 4 (fun x10 => bPI 6 l0 4 (x10 + (1 : Int32)) (bRet ())))))))))))))))
set_option maxRecDepth 20000 in
theorem rX6_keepName (v : mE) (d : Nat) (l0 : Nat) (l1 : Int32) : Rz v RX6 cX6_keepName 2 none false emU (d + 0) 0 [(0, vR l0), (1, vI l1)] [] (fX6_keepName l0 l1) := by
  unfold fX6_keepName
  refine rz_aload_n 1 0 dX6_keepName_0 rfl rfl ?_
  refine rz_gI 4 dX6_keepName_1 rfl rfl fl_X6_19 (fun x1 => ?_)
  refine rz_bipush 6 dX6_keepName_4 rfl cb_14 ?_
  refine rz_icmp_ge 55 9 dX6_keepName_6 rfl rfl ?_ ?_
  · exact rz_return rfl rfl dX6_keepName_55
  · refine rz_aload_n 10 0 dX6_keepName_9 rfl rfl ?_
    refine rz_gR 13 dX6_keepName_10 rfl rfl fl_X6_22 (fun x2 => ?_)
    refine rz_aload_n 14 0 dX6_keepName_13 rfl rfl ?_
    refine rz_gI 17 dX6_keepName_14 rfl rfl fl_X6_19 (fun x3 => ?_)
    refine rz_aload_n 18 0 dX6_keepName_17 rfl rfl ?_
    refine rz_gI 21 dX6_keepName_18 rfl rfl fl_X6_32 (fun x4 => ?_)
    refine rz_iast 22 dX6_keepName_21 rfl ?_
    refine rz_aload_n 23 0 dX6_keepName_22 rfl rfl ?_
    refine rz_gR 26 dX6_keepName_23 rfl rfl fl_X6_26 (fun x5 => ?_)
    refine rz_aload_n 27 0 dX6_keepName_26 rfl rfl ?_
    refine rz_gI 30 dX6_keepName_27 rfl rfl fl_X6_19 (fun x6 => ?_)
    refine rz_aload_n 31 0 dX6_keepName_30 rfl rfl ?_
    refine rz_gI 34 dX6_keepName_31 rfl rfl fl_X6_35 (fun x7 => ?_)
    refine rz_iast 35 dX6_keepName_34 rfl ?_
    refine rz_aload_n 36 0 dX6_keepName_35 rfl rfl ?_
    refine rz_gR 39 dX6_keepName_36 rfl rfl fl_X6_29 (fun x8 => ?_)
    refine rz_aload_n 40 0 dX6_keepName_39 rfl rfl ?_
    refine rz_gI 43 dX6_keepName_40 rfl rfl fl_X6_19 (fun x9 => ?_)
    refine rz_iload_n 44 1 dX6_keepName_43 rfl rfl ?_
    refine rz_iast 45 dX6_keepName_44 rfl ?_
    refine rz_aload_n 46 0 dX6_keepName_45 rfl rfl ?_
    refine rz_dup 47 dX6_keepName_46 rfl rfl ?_
    refine rz_gI 50 dX6_keepName_47 rfl rfl fl_X6_19 (fun x10 => ?_)
    refine rz_iconst 51 dX6_keepName_50 rfl ci_1 ?_
    refine rz_iadd 52 dX6_keepName_51 rfl ?_
    refine rz_pI 55 dX6_keepName_52 rfl rfl rfl rfl fl_X6_19 ?_
    exact rz_return rfl rfl dX6_keepName_55
theorem tX6_keepName (v : mE) (d : Nat) (l0 : Nat) (l1 : Int32) : Mt v yX6_keepName cX6_keepName 2 none emU (d + 0) [vR l0, vI l1] (fX6_keepName l0 l1) := mt_of rfl rfl (fun h => by cases h) rfl rfl (rX6_keepName v d l0 l1)
theorem dX6_readPerson_0 : decode cX6_readPerson 0 = .ok (.aload_n 0, 1) := by decide +kernel
theorem dX6_readPerson_1 : decode cX6_readPerson 1 = .ok (.getfield 42, 3) := by decide +kernel
theorem dX6_readPerson_4 : decode cX6_readPerson 4 = .ok (.getfield 79, 3) := by decide +kernel
theorem dX6_readPerson_7 : decode cX6_readPerson 7 = .ok (.istore_n 1, 1) := by decide +kernel
theorem dX6_readPerson_8 : decode cX6_readPerson 8 = .ok (.aload_n 0, 1) := by decide +kernel
theorem dX6_readPerson_9 : decode cX6_readPerson 9 = .ok (.getfield 38, 3) := by decide +kernel
theorem dX6_readPerson_12 : decode cX6_readPerson 12 = .ok (.invokevirtual 98, 3) := by decide +kernel
theorem dX6_readPerson_15 : decode cX6_readPerson 15 = .ok (.aload_n 0, 1) := by decide +kernel
theorem dX6_readPerson_16 : decode cX6_readPerson 16 = .ok (.invokevirtual 138, 3) := by decide +kernel
theorem dX6_readPerson_19 : decode cX6_readPerson 19 = .ok (.ifCond .ne 5, 3) := by decide +kernel
theorem dX6_readPerson_22 : decode cX6_readPerson 22 = .ok (.iconst 0, 1) := by decide +kernel
theorem dX6_readPerson_23 : decode cX6_readPerson 23 = .ok (.ireturn, 1) := by decide +kernel
theorem dX6_readPerson_24 : decode cX6_readPerson 24 = .ok (.aload_n 0, 1) := by decide +kernel
theorem dX6_readPerson_25 : decode cX6_readPerson 25 = .ok (.getfield 42, 3) := by decide +kernel
theorem dX6_readPerson_28 : decode cX6_readPerson 28 = .ok (.getfield 141, 3) := by decide +kernel
theorem dX6_readPerson_31 : decode cX6_readPerson 31 = .ok (.iload_n 1, 1) := by decide +kernel
theorem dX6_readPerson_32 : decode cX6_readPerson 32 = .ok (.iconst (-1), 1) := by decide +kernel
theorem dX6_readPerson_33 : decode cX6_readPerson 33 = .ok (.iastore, 1) := by decide +kernel
theorem dX6_readPerson_34 : decode cX6_readPerson 34 = .ok (.aload_n 0, 1) := by decide +kernel
theorem dX6_readPerson_35 : decode cX6_readPerson 35 = .ok (.getfield 42, 3) := by decide +kernel
theorem dX6_readPerson_38 : decode cX6_readPerson 38 = .ok (.getfield 144, 3) := by decide +kernel
theorem dX6_readPerson_41 : decode cX6_readPerson 41 = .ok (.iload_n 1, 1) := by decide +kernel
theorem dX6_readPerson_42 : decode cX6_readPerson 42 = .ok (.iconst (-1), 1) := by decide +kernel
theorem dX6_readPerson_43 : decode cX6_readPerson 43 = .ok (.iastore, 1) := by decide +kernel
theorem dX6_readPerson_44 : decode cX6_readPerson 44 = .ok (.aload_n 0, 1) := by decide +kernel
theorem dX6_readPerson_45 : decode cX6_readPerson 45 = .ok (.getfield 38, 3) := by decide +kernel
theorem dX6_readPerson_48 : decode cX6_readPerson 48 = .ok (.ldc 147, 2) := by decide +kernel
theorem dX6_readPerson_50 : decode cX6_readPerson 50 = .ok (.invokevirtual 66, 3) := by decide +kernel
theorem dX6_readPerson_53 : decode cX6_readPerson 53 = .ok (.ifCond .eq 35, 3) := by decide +kernel
theorem dX6_readPerson_56 : decode cX6_readPerson 56 = .ok (.aload_n 0, 1) := by decide +kernel
theorem dX6_readPerson_57 : decode cX6_readPerson 57 = .ok (.getfield 38, 3) := by decide +kernel
theorem dX6_readPerson_60 : decode cX6_readPerson 60 = .ok (.invokevirtual 98, 3) := by decide +kernel
theorem dX6_readPerson_63 : decode cX6_readPerson 63 = .ok (.aload_n 0, 1) := by decide +kernel
theorem dX6_readPerson_64 : decode cX6_readPerson 64 = .ok (.invokevirtual 149, 3) := by decide +kernel
theorem dX6_readPerson_67 : decode cX6_readPerson 67 = .ok (.ifCond .ne 5, 3) := by decide +kernel
theorem dX6_readPerson_70 : decode cX6_readPerson 70 = .ok (.iconst 0, 1) := by decide +kernel
theorem dX6_readPerson_71 : decode cX6_readPerson 71 = .ok (.ireturn, 1) := by decide +kernel
theorem dX6_readPerson_72 : decode cX6_readPerson 72 = .ok (.aload_n 0, 1) := by decide +kernel
theorem dX6_readPerson_73 : decode cX6_readPerson 73 = .ok (.getfield 42, 3) := by decide +kernel
theorem dX6_readPerson_76 : decode cX6_readPerson 76 = .ok (.getfield 141, 3) := by decide +kernel
theorem dX6_readPerson_79 : decode cX6_readPerson 79 = .ok (.iload_n 1, 1) := by decide +kernel
theorem dX6_readPerson_80 : decode cX6_readPerson 80 = .ok (.aload_n 0, 1) := by decide +kernel
theorem dX6_readPerson_81 : decode cX6_readPerson 81 = .ok (.getfield 38, 3) := by decide +kernel
theorem dX6_readPerson_84 : decode cX6_readPerson 84 = .ok (.getfield 105, 3) := by decide +kernel
theorem dX6_readPerson_87 : decode cX6_readPerson 87 = .ok (.iastore, 1) := by decide +kernel
theorem dX6_readPerson_88 : decode cX6_readPerson 88 = .ok (.aload_n 0, 1) := by decide +kernel
theorem dX6_readPerson_89 : decode cX6_readPerson 89 = .ok (.getfield 38, 3) := by decide +kernel
theorem dX6_readPerson_92 : decode cX6_readPerson 92 = .ok (.ldc 152, 2) := by decide +kernel
theorem dX6_readPerson_94 : decode cX6_readPerson 94 = .ok (.invokevirtual 66, 3) := by decide +kernel
theorem dX6_readPerson_97 : decode cX6_readPerson 97 = .ok (.ifCond .eq 42, 3) := by decide +kernel
theorem dX6_readPerson_100 : decode cX6_readPerson 100 = .ok (.aload_n 0, 1) := by decide +kernel
theorem dX6_readPerson_101 : decode cX6_readPerson 101 = .ok (.getfield 38, 3) := by decide +kernel
theorem dX6_readPerson_104 : decode cX6_readPerson 104 = .ok (.invokevirtual 98, 3) := by decide +kernel
theorem dX6_readPerson_107 : decode cX6_readPerson 107 = .ok (.aload_n 0, 1) := by decide +kernel
theorem dX6_readPerson_108 : decode cX6_readPerson 108 = .ok (.getfield 38, 3) := by decide +kernel
theorem dX6_readPerson_111 : decode cX6_readPerson 111 = .ok (.iconst 1, 1) := by decide +kernel
theorem dX6_readPerson_112 : decode cX6_readPerson 112 = .ok (.sipush 200, 3) := by decide +kernel
theorem dX6_readPerson_115 : decode cX6_readPerson 115 = .ok (.invokevirtual 101, 3) := by decide +kernel
theorem dX6_readPerson_118 : decode cX6_readPerson 118 = .ok (.ifCond .ne 5, 3) := by decide +kernel
theorem dX6_readPerson_121 : decode cX6_readPerson 121 = .ok (.iconst 0, 1) := by decide +kernel
theorem dX6_readPerson_122 : decode cX6_readPerson 122 = .ok (.ireturn, 1) := by decide +kernel
theorem dX6_readPerson_123 : decode cX6_readPerson 123 = .ok (.aload_n 0, 1) := by decide +kernel
theorem dX6_readPerson_124 : decode cX6_readPerson 124 = .ok (.getfield 42, 3) := by decide +kernel
theorem dX6_readPerson_127 : decode cX6_readPerson 127 = .ok (.getfield 144, 3) := by decide +kernel
theorem dX6_readPerson_130 : decode cX6_readPerson 130 = .ok (.iload_n 1, 1) := by decide +kernel
theorem dX6_readPerson_131 : decode cX6_readPerson 131 = .ok (.aload_n 0, 1) := by decide +kernel
theorem dX6_readPerson_132 : decode cX6_readPerson 132 = .ok (.getfield 38, 3) := by decide +kernel
theorem dX6_readPerson_135 : decode cX6_readPerson 135 = .ok (.getfield 105, 3) := by decide +kernel
theorem dX6_readPerson_138 : decode cX6_readPerson 138 = .ok (.iastore, 1) := by decide +kernel
theorem dX6_readPerson_139 : decode cX6_readPerson 139 = .ok (.aload_n 0, 1) := by decide +kernel
theorem dX6_readPerson_140 : decode cX6_readPerson 140 = .ok (.iload_n 1, 1) := by decide +kernel
theorem dX6_readPerson_141 : decode cX6_readPerson 141 = .ok (.invokevirtual 153, 3) := by decide +kernel
theorem dX6_readPerson_144 : decode cX6_readPerson 144 = .ok (.aload_n 0, 1) := by decide +kernel
theorem dX6_readPerson_145 : decode cX6_readPerson 145 = .ok (.getfield 42, 3) := by decide +kernel
theorem dX6_readPerson_148 : decode cX6_readPerson 148 = .ok (.iload_n 1, 1) := by decide +kernel
theorem dX6_readPerson_149 : decode cX6_readPerson 149 = .ok (.iconst 1, 1) := by decide +kernel
theorem dX6_readPerson_150 : decode cX6_readPerson 150 = .ok (.iadd, 1) := by decide +kernel
theorem dX6_readPerson_151 : decode cX6_readPerson 151 = .ok (.putfield 79, 3) := by decide +kernel
theorem dX6_readPerson_154 : decode cX6_readPerson 154 = .ok (.aload_n 0, 1) := by decide +kernel
theorem dX6_readPerson_155 : decode cX6_readPerson 155 = .ok (.getfield 38, 3) := by decide +kernel
theorem dX6_readPerson_158 : decode cX6_readPerson 158 = .ok (.bipush 59, 2) := by decide +kernel
theorem dX6_readPerson_160 : decode cX6_readPerson 160 = .ok (.invokevirtual 127, 3) := by decide +kernel
theorem dX6_readPerson_163 : decode cX6_readPerson 163 = .ok (.ireturn, 1) := by decide +kernel
def fX6_readPerson_139 (l0 : Nat) (l1 : Int32) : mM Int32 := bCallV 6 l0 (fX6_keepName l0 l1) (fun _ => bGR 6 l0 1 (fun x1 => bPI 7 x1 7 (l1 + (1 : Int32)) (bGR 6 l0 0 (fun x2 => bCallV 4 x2 (fX4_takeSign x2 (59 : Int32)) (fun x3 => bRetZ x3)))))
set_option maxRecDepth 20000 in
theorem rX6_readPerson_139 (v : mE) (d : Nat) (l0 : Nat) (l1 : Int32) : Rz v RX6 cX6_readPerson 2 (some .boolean) false emI (d + 8) 139 [(0, vR l0), (1, vI l1)] [] (fX6_readPerson_139 l0 l1) := by
  unfold fX6_readPerson_139
  refine rz_aload_n 140 0 dX6_readPerson_139 rfl rfl ?_
  refine rz_iload_n 141 1 dX6_readPerson_140 rfl rfl ?_
  refine rz_callV 144 dX6_readPerson_141 rfl (tX6_keepName v (d + 7) l0 l1) rfl rfl rfl rfl ml_X6_153 im_X6_keepName se_X6_X6_keepName in_X6 co_X6_keepName rfl rfl (fun _ => ?_)
  refine rz_aload_n 145 0 dX6_readPerson_144 rfl rfl ?_
  refine rz_gR 148 dX6_readPerson_145 rfl rfl fl_X6_42 (fun x1 => ?_)
  refine rz_iload_n 149 1 dX6_readPerson_148 rfl rfl ?_
  refine rz_iconst 150 dX6_readPerson_149 rfl ci_1 ?_
  refine rz_iadd 151 dX6_readPerson_150 rfl ?_
  refine rz_pI 154 dX6_readPerson_151 rfl rfl rfl rfl fl_X6_79 ?_
  refine rz_aload_n 155 0 dX6_readPerson_154 rfl rfl ?_
  refine rz_gR 158 dX6_readPerson_155 rfl rfl fl_X6_38 (fun x2 => ?_)
  refine rz_bipush 160 dX6_readPerson_158 rfl cb_59 ?_
  refine rz_callV 163 dX6_readPerson_160 rfl (tX4_takeSign v (d + 2) x2 (59 : Int32)) rfl rfl rfl rfl ml_X6_127 im_X4_takeSign se_X4_X4_takeSign in_X4 co_X4_takeSign rfl rfl (fun x3 => ?_)
  exact rz_zreturn rfl rfl dX6_readPerson_163
def fX6_readPerson_88 (l0 : Nat) (l1 : Int32) : mM Int32 := bGR 6 l0 0 (fun x1 => bCallV 4 x1 (fX4_isWord x1 28) (fun x2 => bIf (x2 = 0) (fX6_readPerson_139 l0 l1) (bGR 6 l0 0 (fun x3 => bCallV 4 x3 (fX4_next x3) (fun _ => bGR 6 l0 0 (fun x4 => bCallV 4 x4 (fX4_takeNumber x4 (1 : Int32) (200 : Int32)) (fun x5 => bIf (x5 = 0) (bRetZ (0 : Int32)) (bGR 6 l0 1 (fun x6 => bGR 7 x6 9 (fun x7 => bGR 6 l0 0 (fun x8 => bGI 4 x8 6 (fun x9 => bSI x7 l1 x9 (fX6_readPerson_139 l0 l1)))))))))))))
set_option maxRecDepth 20000 in
theorem rX6_readPerson_88 (v : mE) (d : Nat) (l0 : Nat) (l1 : Int32) : Rz v RX6 cX6_readPerson 2 (some .boolean) false emI (d + 8) 88 [(0, vR l0), (1, vI l1)] [] (fX6_readPerson_88 l0 l1) := by
  unfold fX6_readPerson_88
  refine rz_aload_n 89 0 dX6_readPerson_88 rfl rfl ?_
  refine rz_gR 92 dX6_readPerson_89 rfl rfl fl_X6_38 (fun x1 => ?_)
  refine rz_ldcS 94 28 dX6_readPerson_92 rfl (by decide) rfl rfl ?_
  refine rz_callV 97 dX6_readPerson_94 rfl (tX4_isWord v (d + 3) x1 28) rfl rfl rfl rfl ml_X6_66 im_X4_isWord se_X4_X4_isWord in_X4 co_X4_isWord rfl rfl (fun x2 => ?_)
  refine rz_if_eq 139 100 dX6_readPerson_97 rfl rfl ?_ ?_
  · exact rz_sub [0, 1] rfl (rX6_readPerson_139 v d l0 l1)
  · refine rz_aload_n 101 0 dX6_readPerson_100 rfl rfl ?_
    refine rz_gR 104 dX6_readPerson_101 rfl rfl fl_X6_38 (fun x3 => ?_)
    refine rz_callV 107 dX6_readPerson_104 rfl (tX4_next v (d + 3) x3) rfl rfl rfl rfl ml_X6_98 im_X4_next se_X4_X4_next in_X4 co_X4_next rfl rfl (fun _ => ?_)
    refine rz_aload_n 108 0 dX6_readPerson_107 rfl rfl ?_
    refine rz_gR 111 dX6_readPerson_108 rfl rfl fl_X6_38 (fun x4 => ?_)
    refine rz_iconst 112 dX6_readPerson_111 rfl ci_1 ?_
    refine rz_sipush 115 dX6_readPerson_112 rfl cs_200 ?_
    refine rz_callV 118 dX6_readPerson_115 rfl (tX4_takeNumber v (d + 2) x4 (1 : Int32) (200 : Int32)) rfl rfl rfl rfl ml_X6_101 im_X4_takeNumber se_X4_X4_takeNumber in_X4 co_X4_takeNumber rfl rfl (fun x5 => ?_)
    refine rz_if_ne 123 121 dX6_readPerson_118 rfl rfl ?_ ?_
    · refine rz_aload_n 124 0 dX6_readPerson_123 rfl rfl ?_
      refine rz_gR 127 dX6_readPerson_124 rfl rfl fl_X6_42 (fun x6 => ?_)
      refine rz_gR 130 dX6_readPerson_127 rfl rfl fl_X6_144 (fun x7 => ?_)
      refine rz_iload_n 131 1 dX6_readPerson_130 rfl rfl ?_
      refine rz_aload_n 132 0 dX6_readPerson_131 rfl rfl ?_
      refine rz_gR 135 dX6_readPerson_132 rfl rfl fl_X6_38 (fun x8 => ?_)
      refine rz_gI 138 dX6_readPerson_135 rfl rfl fl_X6_105 (fun x9 => ?_)
      refine rz_iast 139 dX6_readPerson_138 rfl ?_
      exact rz_sub [0, 1] rfl (rX6_readPerson_139 v d l0 l1)
    · refine rz_iconst 122 dX6_readPerson_121 rfl ci_0 ?_
      exact rz_zreturn rfl rfl dX6_readPerson_122
def fX6_readPerson (l0 : Nat) : mM Int32 := bGR 6 l0 1 (fun x1 => bGI 7 x1 7 (fun x2 => bGR 6 l0 0 (fun x3 => bCallV 4 x3 (fX4_next x3) (fun _ => bCallV 6 l0 (fX6_takeNewName l0) (fun x4 => bIf (x4 = 0) (bRetZ (0 : Int32)) (bGR 6 l0 1 (fun x5 => bGR 7 x5 8 (fun x6 => bSI x6 x2 (-1 : Int32) (bGR 6 l0 1 (fun x7 => bGR 7 x7 9 (fun x8 => bSI x8 x2 (-1 : Int32) (bGR 6 l0 0 (fun x9 => bCallV 4 x9 (fX4_isWord x9 27) (fun x10 => bIf (x10 = 0) (fX6_readPerson_88 l0 x2) (bGR 6 l0 0 (fun x11 => bCallV 4 x11 (fX4_next x11) (fun _ => bCallV 6 l0 (fX6_takePerson l0) (fun x12 => bIf (x12 = 0) (bRetZ (0 : Int32)) (bGR 6 l0 1 (fun x13 => bGR 7 x13 8 (fun x14 => bGR 6 l0 0 (fun x15 => bGI 4 x15 6 (fun x16 => bSI x14 x2 x16 (fX6_readPerson_88 l0 x2))))))))))))))))))))))))
set_option maxRecDepth 20000 in
theorem rX6_readPerson (v : mE) (d : Nat) (l0 : Nat) : Rz v RX6 cX6_readPerson 2 (some .boolean) false emI (d + 8) 0 [(0, vR l0)] [] (fX6_readPerson l0) := by
  unfold fX6_readPerson
  refine rz_aload_n 1 0 dX6_readPerson_0 rfl rfl ?_
  refine rz_gR 4 dX6_readPerson_1 rfl rfl fl_X6_42 (fun x1 => ?_)
  refine rz_gI 7 dX6_readPerson_4 rfl rfl fl_X6_79 (fun x2 => ?_)
  refine rz_istore_n (lv' := [(1, vI x2), (0, vR l0)]) 8 dX6_readPerson_7 rfl rfl rfl ?_
  refine rz_aload_n 9 1 dX6_readPerson_8 rfl rfl ?_
  refine rz_gR 12 dX6_readPerson_9 rfl rfl fl_X6_38 (fun x3 => ?_)
  refine rz_callV 15 dX6_readPerson_12 rfl (tX4_next v (d + 3) x3) rfl rfl rfl rfl ml_X6_98 im_X4_next se_X4_X4_next in_X4 co_X4_next rfl rfl (fun _ => ?_)
  refine rz_aload_n 16 1 dX6_readPerson_15 rfl rfl ?_
  refine rz_callV 19 dX6_readPerson_16 rfl (tX6_takeNewName v (d + 0) l0) rfl rfl rfl rfl ml_X6_138 im_X6_takeNewName se_X6_X6_takeNewName in_X6 co_X6_takeNewName rfl rfl (fun x4 => ?_)
  refine rz_if_ne 24 22 dX6_readPerson_19 rfl rfl ?_ ?_
  · refine rz_aload_n 25 1 dX6_readPerson_24 rfl rfl ?_
    refine rz_gR 28 dX6_readPerson_25 rfl rfl fl_X6_42 (fun x5 => ?_)
    refine rz_gR 31 dX6_readPerson_28 rfl rfl fl_X6_141 (fun x6 => ?_)
    refine rz_iload_n 32 0 dX6_readPerson_31 rfl rfl ?_
    refine rz_iconst 33 dX6_readPerson_32 rfl ci_m1 ?_
    refine rz_iast 34 dX6_readPerson_33 rfl ?_
    refine rz_aload_n 35 1 dX6_readPerson_34 rfl rfl ?_
    refine rz_gR 38 dX6_readPerson_35 rfl rfl fl_X6_42 (fun x7 => ?_)
    refine rz_gR 41 dX6_readPerson_38 rfl rfl fl_X6_144 (fun x8 => ?_)
    refine rz_iload_n 42 0 dX6_readPerson_41 rfl rfl ?_
    refine rz_iconst 43 dX6_readPerson_42 rfl ci_m1 ?_
    refine rz_iast 44 dX6_readPerson_43 rfl ?_
    refine rz_aload_n 45 1 dX6_readPerson_44 rfl rfl ?_
    refine rz_gR 48 dX6_readPerson_45 rfl rfl fl_X6_38 (fun x9 => ?_)
    refine rz_ldcS 50 27 dX6_readPerson_48 rfl (by decide) rfl rfl ?_
    refine rz_callV 53 dX6_readPerson_50 rfl (tX4_isWord v (d + 3) x9 27) rfl rfl rfl rfl ml_X6_66 im_X4_isWord se_X4_X4_isWord in_X4 co_X4_isWord rfl rfl (fun x10 => ?_)
    refine rz_if_eq 88 56 dX6_readPerson_53 rfl rfl ?_ ?_
    · exact rz_sub [1, 0] rfl (rX6_readPerson_88 v d l0 x2)
    · refine rz_aload_n 57 1 dX6_readPerson_56 rfl rfl ?_
      refine rz_gR 60 dX6_readPerson_57 rfl rfl fl_X6_38 (fun x11 => ?_)
      refine rz_callV 63 dX6_readPerson_60 rfl (tX4_next v (d + 3) x11) rfl rfl rfl rfl ml_X6_98 im_X4_next se_X4_X4_next in_X4 co_X4_next rfl rfl (fun _ => ?_)
      refine rz_aload_n 64 1 dX6_readPerson_63 rfl rfl ?_
      refine rz_callV 67 dX6_readPerson_64 rfl (tX6_takePerson v (d + 0) l0) rfl rfl rfl rfl ml_X6_149 im_X6_takePerson se_X6_X6_takePerson in_X6 co_X6_takePerson rfl rfl (fun x12 => ?_)
      refine rz_if_ne 72 70 dX6_readPerson_67 rfl rfl ?_ ?_
      · refine rz_aload_n 73 1 dX6_readPerson_72 rfl rfl ?_
        refine rz_gR 76 dX6_readPerson_73 rfl rfl fl_X6_42 (fun x13 => ?_)
        refine rz_gR 79 dX6_readPerson_76 rfl rfl fl_X6_141 (fun x14 => ?_)
        refine rz_iload_n 80 0 dX6_readPerson_79 rfl rfl ?_
        refine rz_aload_n 81 1 dX6_readPerson_80 rfl rfl ?_
        refine rz_gR 84 dX6_readPerson_81 rfl rfl fl_X6_38 (fun x15 => ?_)
        refine rz_gI 87 dX6_readPerson_84 rfl rfl fl_X6_105 (fun x16 => ?_)
        refine rz_iast 88 dX6_readPerson_87 rfl ?_
        exact rz_sub [1, 0] rfl (rX6_readPerson_88 v d l0 x2)
      · refine rz_iconst 71 dX6_readPerson_70 rfl ci_0 ?_
        exact rz_zreturn rfl rfl dX6_readPerson_71
  · refine rz_iconst 23 dX6_readPerson_22 rfl ci_0 ?_
    exact rz_zreturn rfl rfl dX6_readPerson_23
theorem tX6_readPerson (v : mE) (d : Nat) (l0 : Nat) : Mt v yX6_readPerson cX6_readPerson 2 (some .boolean) emI (d + 8) [vR l0] (fX6_readPerson l0) := mt_of rfl rfl (fun h => by cases h) rfl rfl (rX6_readPerson v d l0)
theorem dX6_readPieces_0 : decode cX6_readPieces 0 = .ok (.iconst 1, 1) := by decide +kernel
theorem dX6_readPieces_1 : decode cX6_readPieces 1 = .ok (.istore_n 2, 1) := by decide +kernel
theorem dX6_readPieces_2 : decode cX6_readPieces 2 = .ok (.iconst 0, 1) := by decide +kernel
theorem dX6_readPieces_3 : decode cX6_readPieces 3 = .ok (.istore_n 3, 1) := by decide +kernel
theorem dX6_readPieces_4 : decode cX6_readPieces 4 = .ok (.iload_n 3, 1) := by decide +kernel
theorem dX6_readPieces_5 : decode cX6_readPieces 5 = .ok (.iconst 4, 1) := by decide +kernel
theorem dX6_readPieces_6 : decode cX6_readPieces 6 = .ok (.if_icmp .ge 101, 3) := by decide +kernel
theorem dX6_readPieces_9 : decode cX6_readPieces 9 = .ok (.iload_n 2, 1) := by decide +kernel
theorem dX6_readPieces_10 : decode cX6_readPieces 10 = .ok (.ifCond .eq 97, 3) := by decide +kernel
theorem dX6_readPieces_13 : decode cX6_readPieces 13 = .ok (.aload_n 0, 1) := by decide +kernel
theorem dX6_readPieces_14 : decode cX6_readPieces 14 = .ok (.getfield 38, 3) := by decide +kernel
theorem dX6_readPieces_17 : decode cX6_readPieces 17 = .ok (.ldc 177, 2) := by decide +kernel
theorem dX6_readPieces_19 : decode cX6_readPieces 19 = .ok (.invokevirtual 112, 3) := by decide +kernel
theorem dX6_readPieces_22 : decode cX6_readPieces 22 = .ok (.ifCond .eq 17, 3) := by decide +kernel
theorem dX6_readPieces_25 : decode cX6_readPieces 25 = .ok (.aload_n 0, 1) := by decide +kernel
theorem dX6_readPieces_26 : decode cX6_readPieces 26 = .ok (.getfield 38, 3) := by decide +kernel
theorem dX6_readPieces_29 : decode cX6_readPieces 29 = .ok (.iconst 1, 1) := by decide +kernel
theorem dX6_readPieces_30 : decode cX6_readPieces 30 = .ok (.sipush 200, 3) := by decide +kernel
theorem dX6_readPieces_33 : decode cX6_readPieces 33 = .ok (.invokevirtual 101, 3) := by decide +kernel
theorem dX6_readPieces_36 : decode cX6_readPieces 36 = .ok (.ifCond .ne 5, 3) := by decide +kernel
theorem dX6_readPieces_39 : decode cX6_readPieces 39 = .ok (.iconst 0, 1) := by decide +kernel
theorem dX6_readPieces_40 : decode cX6_readPieces 40 = .ok (.ireturn, 1) := by decide +kernel
theorem dX6_readPieces_41 : decode cX6_readPieces 41 = .ok (.aload_n 0, 1) := by decide +kernel
theorem dX6_readPieces_42 : decode cX6_readPieces 42 = .ok (.getfield 38, 3) := by decide +kernel
theorem dX6_readPieces_45 : decode cX6_readPieces 45 = .ok (.getfield 105, 3) := by decide +kernel
theorem dX6_readPieces_48 : decode cX6_readPieces 48 = .ok (.istore 4, 2) := by decide +kernel
theorem dX6_readPieces_50 : decode cX6_readPieces 50 = .ok (.aload_n 0, 1) := by decide +kernel
theorem dX6_readPieces_51 : decode cX6_readPieces 51 = .ok (.getfield 38, 3) := by decide +kernel
theorem dX6_readPieces_54 : decode cX6_readPieces 54 = .ok (.ldc 179, 2) := by decide +kernel
theorem dX6_readPieces_56 : decode cX6_readPieces 56 = .ok (.invokevirtual 112, 3) := by decide +kernel
theorem dX6_readPieces_59 : decode cX6_readPieces 59 = .ok (.ifCond .eq 17, 3) := by decide +kernel
theorem dX6_readPieces_62 : decode cX6_readPieces 62 = .ok (.aload_n 0, 1) := by decide +kernel
theorem dX6_readPieces_63 : decode cX6_readPieces 63 = .ok (.getfield 38, 3) := by decide +kernel
theorem dX6_readPieces_66 : decode cX6_readPieces 66 = .ok (.iconst 0, 1) := by decide +kernel
theorem dX6_readPieces_67 : decode cX6_readPieces 67 = .ok (.sipush 300, 3) := by decide +kernel
theorem dX6_readPieces_70 : decode cX6_readPieces 70 = .ok (.invokevirtual 101, 3) := by decide +kernel
theorem dX6_readPieces_73 : decode cX6_readPieces 73 = .ok (.ifCond .ne 5, 3) := by decide +kernel
theorem dX6_readPieces_76 : decode cX6_readPieces 76 = .ok (.iconst 0, 1) := by decide +kernel
theorem dX6_readPieces_77 : decode cX6_readPieces 77 = .ok (.ireturn, 1) := by decide +kernel
theorem dX6_readPieces_78 : decode cX6_readPieces 78 = .ok (.aload_n 1, 1) := by decide +kernel
theorem dX6_readPieces_79 : decode cX6_readPieces 79 = .ok (.iload 4, 2) := by decide +kernel
theorem dX6_readPieces_81 : decode cX6_readPieces 81 = .ok (.aload_n 0, 1) := by decide +kernel
theorem dX6_readPieces_82 : decode cX6_readPieces 82 = .ok (.getfield 38, 3) := by decide +kernel
theorem dX6_readPieces_85 : decode cX6_readPieces 85 = .ok (.getfield 105, 3) := by decide +kernel
theorem dX6_readPieces_88 : decode cX6_readPieces 88 = .ok (.invokevirtual 181, 3) := by decide +kernel
theorem dX6_readPieces_91 : decode cX6_readPieces 91 = .ok (.aload_n 0, 1) := by decide +kernel
theorem dX6_readPieces_92 : decode cX6_readPieces 92 = .ok (.getfield 38, 3) := by decide +kernel
theorem dX6_readPieces_95 : decode cX6_readPieces 95 = .ok (.ldc 177, 2) := by decide +kernel
theorem dX6_readPieces_97 : decode cX6_readPieces 97 = .ok (.invokevirtual 66, 3) := by decide +kernel
theorem dX6_readPieces_100 : decode cX6_readPieces 100 = .ok (.istore_n 2, 1) := by decide +kernel
theorem dX6_readPieces_101 : decode cX6_readPieces 101 = .ok (.iinc 3 1, 3) := by decide +kernel
theorem dX6_readPieces_104 : decode cX6_readPieces 104 = .ok (.goto (-100), 3) := by decide +kernel
theorem dX6_readPieces_107 : decode cX6_readPieces 107 = .ok (.iload_n 2, 1) := by decide +kernel
theorem dX6_readPieces_108 : decode cX6_readPieces 108 = .ok (.ifCond .eq 15, 3) := by decide +kernel
theorem dX6_readPieces_111 : decode cX6_readPieces 111 = .ok (.aload_n 0, 1) := by decide +kernel
theorem dX6_readPieces_112 : decode cX6_readPieces 112 = .ok (.getfield 38, 3) := by decide +kernel
theorem dX6_readPieces_115 : decode cX6_readPieces 115 = .ok (.bipush 6, 2) := by decide +kernel
theorem dX6_readPieces_117 : decode cX6_readPieces 117 = .ok (.invokevirtual 70, 3) := by decide +kernel
theorem dX6_readPieces_120 : decode cX6_readPieces 120 = .ok (.ifCond .eq 7, 3) := by decide +kernel
theorem dX6_readPieces_123 : decode cX6_readPieces 123 = .ok (.iconst 1, 1) := by decide +kernel
theorem dX6_readPieces_124 : decode cX6_readPieces 124 = .ok (.goto 4, 3) := by decide +kernel
theorem dX6_readPieces_127 : decode cX6_readPieces 127 = .ok (.iconst 0, 1) := by decide +kernel
theorem dX6_readPieces_128 : decode cX6_readPieces 128 = .ok (.ireturn, 1) := by decide +kernel
def fX6_readPieces_107 (l0 : Nat) (l2 : Int32) : mM Int32 := bIf (l2 = 0) (bRetZ (1 : Int32)) (bGR 6 l0 0 (fun x1 => bCallV 4 x1 (fX4_refuseToken x1 (6 : Int32)) (fun x2 => bIf (x2 = 0) (bRetZ (0 : Int32)) (bRetZ (1 : Int32)))))
set_option maxRecDepth 20000 in
theorem rX6_readPieces_107 (v : mE) (d : Nat) (l0 : Nat) (l2 : Int32) : Rz v RX6 cX6_readPieces 5 (some .boolean) false emI (d + 6) 107 [(0, vR l0), (2, vI l2)] [] (fX6_readPieces_107 l0 l2) := by
  unfold fX6_readPieces_107
  refine rz_iload_n 108 1 dX6_readPieces_107 rfl rfl ?_
  refine rz_if_eq 123 111 dX6_readPieces_108 rfl rfl ?_ ?_
  · refine rz_iconst 124 dX6_readPieces_123 rfl ci_1 ?_
    refine rz_goto 128 dX6_readPieces_124 rfl ?_
    exact rz_zreturn rfl rfl dX6_readPieces_128
  · refine rz_aload_n 112 0 dX6_readPieces_111 rfl rfl ?_
    refine rz_gR 115 dX6_readPieces_112 rfl rfl fl_X6_38 (fun x1 => ?_)
    refine rz_bipush 117 dX6_readPieces_115 rfl cb_6 ?_
    refine rz_callV 120 dX6_readPieces_117 rfl (tX4_refuseToken v (d + 5) x1 (6 : Int32)) rfl rfl rfl rfl ml_X6_70 im_X4_refuseToken se_X4_X4_refuseToken in_X4 co_X4_refuseToken rfl rfl (fun x2 => ?_)
    refine rz_if_eq 127 123 dX6_readPieces_120 rfl rfl ?_ ?_
    · refine rz_iconst 128 dX6_readPieces_127 rfl ci_0 ?_
      exact rz_zreturn rfl rfl dX6_readPieces_128
    · refine rz_iconst 124 dX6_readPieces_123 rfl ci_1 ?_
      refine rz_goto 128 dX6_readPieces_124 rfl ?_
      exact rz_zreturn rfl rfl dX6_readPieces_128
def fX6_readPieces_4 : Nat → Nat → Nat → Int32 → Int32 → mM Int32
  | 0 => fun _ _ _ _ => fun _ => none
  | n + 1 => fun l0 l1 l2 l3 => let r4 := fX6_readPieces_4 n; bIf ((4 : Int32) ≤ l3) (fX6_readPieces_107 l0 l2) (bIf (l2 = 0) (fX6_readPieces_107 l0 l2) (bGR 6 l0 0 (fun x1 => bCallV 4 x1 (fX4_takeWord x1 31) (fun x2 => bIf (x2 = 0) (bRetZ (0 : Int32)) (bGR 6 l0 0 (fun x3 => bCallV 4 x3 (fX4_takeNumber x3 (1 : Int32) (200 : Int32)) (fun x4 => bIf (x4 = 0) (bRetZ (0 : Int32)) (bGR 6 l0 0 (fun x5 => bGI 4 x5 6 (fun x6 => bGR 6 l0 0 (fun x7 => bCallV 4 x7 (fX4_takeWord x7 32) (fun x8 => bIf (x8 = 0) (bRetZ (0 : Int32)) (bGR 6 l0 0 (fun x9 => bCallV 4 x9 (fX4_takeNumber x9 (0 : Int32) (300 : Int32)) (fun x10 => bIf (x10 = 0) (bRetZ (0 : Int32)) (bGR 6 l0 0 (fun x11 => bGI 4 x11 6 (fun x12 => bCallV 3 l1 (fX3_add l1 x6 x12) (fun _ => bGR 6 l0 0 (fun x13 => bCallV 4 x13 (fX4_isWord x13 31) (fun x14 => r4 l0 l1 x14 (l3 + 1))))))))))))))))))))))
theorem qX6_readPieces_4  (n : Nat) (l0 : Nat) (l1 : Nat) (l2 : Int32) (l3 : Int32) : fX6_readPieces_4 (n + 1) l0 l1 l2 l3 = bIf ((4 : Int32) ≤ l3) (fX6_readPieces_107 l0 l2) (bIf (l2 = 0) (fX6_readPieces_107 l0 l2) (bGR 6 l0 0 (fun x1 => bCallV 4 x1 (fX4_takeWord x1 31) (fun x2 => bIf (x2 = 0) (bRetZ (0 : Int32)) (bGR 6 l0 0 (fun x3 => bCallV 4 x3 (fX4_takeNumber x3 (1 : Int32) (200 : Int32)) (fun x4 => bIf (x4 = 0) (bRetZ (0 : Int32)) (bGR 6 l0 0 (fun x5 => bGI 4 x5 6 (fun x6 => bGR 6 l0 0 (fun x7 => bCallV 4 x7 (fX4_takeWord x7 32) (fun x8 => bIf (x8 = 0) (bRetZ (0 : Int32)) (bGR 6 l0 0 (fun x9 => bCallV 4 x9 (fX4_takeNumber x9 (0 : Int32) (300 : Int32)) (fun x10 => bIf (x10 = 0) (bRetZ (0 : Int32)) (bGR 6 l0 0 (fun x11 => bGI 4 x11 6 (fun x12 => bCallV 3 l1 (fX3_add l1 x6 x12) (fun _ => bGR 6 l0 0 (fun x13 => bCallV 4 x13 (fX4_isWord x13 31) (fun x14 => (fX6_readPieces_4 n) l0 l1 x14 (l3 + 1)))))))))))))))))))))) := rfl
set_option maxRecDepth 20000 in
theorem rX6_readPieces_4 (v : mE) (d : Nat) : ∀ (n : Nat) (l0 : Nat) (l1 : Nat) (l2 : Int32) (l3 : Int32), Rz v RX6 cX6_readPieces 5 (some .boolean) false emI (d + 6) 4 [(0, vR l0), (1, vR l1), (2, vI l2), (3, vI l3)] [] (fX6_readPieces_4 n l0 l1 l2 l3)
  | 0, _, _, _, _ => fun _ _ _ hm => by cases hm
  | n + 1, l0, l1, l2, l3 => by
    have h4 := rX6_readPieces_4 v d n
    unfold fX6_readPieces_4
    generalize fX6_readPieces_4 n = r4 at h4 ⊢
    refine rz_iload_n 5 3 dX6_readPieces_4 rfl rfl ?_
    refine rz_iconst 6 dX6_readPieces_5 rfl ci_4 ?_
    refine rz_icmp_ge 107 9 dX6_readPieces_6 rfl rfl ?_ ?_
    · exact rz_sub [0, 2] rfl (rX6_readPieces_107 v d l0 l2)
    · refine rz_iload_n 10 2 dX6_readPieces_9 rfl rfl ?_
      refine rz_if_eq 107 13 dX6_readPieces_10 rfl rfl ?_ ?_
      · exact rz_sub [0, 2] rfl (rX6_readPieces_107 v d l0 l2)
      · refine rz_aload_n 14 0 dX6_readPieces_13 rfl rfl ?_
        refine rz_gR 17 dX6_readPieces_14 rfl rfl fl_X6_38 (fun x1 => ?_)
        refine rz_ldcS 19 31 dX6_readPieces_17 rfl (by decide) rfl rfl ?_
        refine rz_callV 22 dX6_readPieces_19 rfl (tX4_takeWord v (d + 0) x1 31) rfl rfl rfl rfl ml_X6_112 im_X4_takeWord se_X4_X4_takeWord in_X4 co_X4_takeWord rfl rfl (fun x2 => ?_)
        refine rz_if_eq 39 25 dX6_readPieces_22 rfl rfl ?_ ?_
        · refine rz_iconst 40 dX6_readPieces_39 rfl ci_0 ?_
          exact rz_zreturn rfl rfl dX6_readPieces_40
        · refine rz_aload_n 26 0 dX6_readPieces_25 rfl rfl ?_
          refine rz_gR 29 dX6_readPieces_26 rfl rfl fl_X6_38 (fun x3 => ?_)
          refine rz_iconst 30 dX6_readPieces_29 rfl ci_1 ?_
          refine rz_sipush 33 dX6_readPieces_30 rfl cs_200 ?_
          refine rz_callV 36 dX6_readPieces_33 rfl (tX4_takeNumber v (d + 0) x3 (1 : Int32) (200 : Int32)) rfl rfl rfl rfl ml_X6_101 im_X4_takeNumber se_X4_X4_takeNumber in_X4 co_X4_takeNumber rfl rfl (fun x4 => ?_)
          refine rz_if_ne 41 39 dX6_readPieces_36 rfl rfl ?_ ?_
          · refine rz_aload_n 42 0 dX6_readPieces_41 rfl rfl ?_
            refine rz_gR 45 dX6_readPieces_42 rfl rfl fl_X6_38 (fun x5 => ?_)
            refine rz_gI 48 dX6_readPieces_45 rfl rfl fl_X6_105 (fun x6 => ?_)
            refine rz_istore (lv' := [(4, vI x6), (0, vR l0), (1, vR l1), (2, vI l2), (3, vI l3)]) 50 dX6_readPieces_48 rfl rfl rfl ?_
            refine rz_aload_n 51 1 dX6_readPieces_50 rfl rfl ?_
            refine rz_gR 54 dX6_readPieces_51 rfl rfl fl_X6_38 (fun x7 => ?_)
            refine rz_ldcS 56 32 dX6_readPieces_54 rfl (by decide) rfl rfl ?_
            refine rz_callV 59 dX6_readPieces_56 rfl (tX4_takeWord v (d + 0) x7 32) rfl rfl rfl rfl ml_X6_112 im_X4_takeWord se_X4_X4_takeWord in_X4 co_X4_takeWord rfl rfl (fun x8 => ?_)
            refine rz_if_eq 76 62 dX6_readPieces_59 rfl rfl ?_ ?_
            · refine rz_iconst 77 dX6_readPieces_76 rfl ci_0 ?_
              exact rz_zreturn rfl rfl dX6_readPieces_77
            · refine rz_aload_n 63 1 dX6_readPieces_62 rfl rfl ?_
              refine rz_gR 66 dX6_readPieces_63 rfl rfl fl_X6_38 (fun x9 => ?_)
              refine rz_iconst 67 dX6_readPieces_66 rfl ci_0 ?_
              refine rz_sipush 70 dX6_readPieces_67 rfl cs_300 ?_
              refine rz_callV 73 dX6_readPieces_70 rfl (tX4_takeNumber v (d + 0) x9 (0 : Int32) (300 : Int32)) rfl rfl rfl rfl ml_X6_101 im_X4_takeNumber se_X4_X4_takeNumber in_X4 co_X4_takeNumber rfl rfl (fun x10 => ?_)
              refine rz_if_ne 78 76 dX6_readPieces_73 rfl rfl ?_ ?_
              · refine rz_aload_n 79 2 dX6_readPieces_78 rfl rfl ?_
                refine rz_iload 81 0 dX6_readPieces_79 rfl rfl ?_
                refine rz_aload_n 82 1 dX6_readPieces_81 rfl rfl ?_
                refine rz_gR 85 dX6_readPieces_82 rfl rfl fl_X6_38 (fun x11 => ?_)
                refine rz_gI 88 dX6_readPieces_85 rfl rfl fl_X6_105 (fun x12 => ?_)
                refine rz_callV 91 dX6_readPieces_88 rfl (tX3_add v (d + 5) l1 x6 x12) rfl rfl rfl rfl ml_X6_181 im_X3_add se_X3_X3_add in_X3 co_X3_add rfl rfl (fun _ => ?_)
                refine rz_aload_n 92 1 dX6_readPieces_91 rfl rfl ?_
                refine rz_gR 95 dX6_readPieces_92 rfl rfl fl_X6_38 (fun x13 => ?_)
                refine rz_ldcS 97 31 dX6_readPieces_95 rfl (by decide) rfl rfl ?_
                refine rz_callV 100 dX6_readPieces_97 rfl (tX4_isWord v (d + 1) x13 31) rfl rfl rfl rfl ml_X6_66 im_X4_isWord se_X4_X4_isWord in_X4 co_X4_isWord rfl rfl (fun x14 => ?_)
                refine rz_istore_n (lv' := [(2, vI x14), (4, vI x6), (0, vR l0), (1, vR l1), (3, vI l3)]) 101 dX6_readPieces_100 rfl rfl rfl ?_
                refine rz_iinc (lv' := [(3, vI (l3 + 1)), (2, vI x14), (4, vI x6), (0, vR l0), (1, vR l1)]) 104 4 dX6_readPieces_101 rfl rfl (cn_1 _) rfl rfl ?_
                refine rz_goto 4 dX6_readPieces_104 rfl ?_
                exact rz_sub [3, 4, 1, 0] rfl (h4 l0 l1 x14 (l3 + 1))
              · refine rz_iconst 77 dX6_readPieces_76 rfl ci_0 ?_
                exact rz_zreturn rfl rfl dX6_readPieces_77
          · refine rz_iconst 40 dX6_readPieces_39 rfl ci_0 ?_
            exact rz_zreturn rfl rfl dX6_readPieces_40
def fX6_readPieces (l0 : Nat) (l1 : Nat) : mM Int32 := fX6_readPieces_4 fu l0 l1 (1 : Int32) (0 : Int32)
set_option maxRecDepth 20000 in
theorem rX6_readPieces (v : mE) (d : Nat) (l0 : Nat) (l1 : Nat) : Rz v RX6 cX6_readPieces 5 (some .boolean) false emI (d + 6) 0 [(0, vR l0), (1, vR l1)] [] (fX6_readPieces l0 l1) := by
  unfold fX6_readPieces
  refine rz_iconst 1 dX6_readPieces_0 rfl ci_1 ?_
  refine rz_istore_n (lv' := [(2, vI (1 : Int32)), (0, vR l0), (1, vR l1)]) 2 dX6_readPieces_1 rfl rfl rfl ?_
  refine rz_iconst 3 dX6_readPieces_2 rfl ci_0 ?_
  refine rz_istore_n (lv' := [(3, vI (0 : Int32)), (2, vI (1 : Int32)), (0, vR l0), (1, vR l1)]) 4 dX6_readPieces_3 rfl rfl rfl ?_
  exact rz_sub [2, 3, 1, 0] rfl (rX6_readPieces_4 v d fu l0 l1 (1 : Int32) (0 : Int32))
theorem tX6_readPieces (v : mE) (d : Nat) (l0 : Nat) (l1 : Nat) : Mt v yX6_readPieces cX6_readPieces 5 (some .boolean) emI (d + 6) [vR l0, vR l1] (fX6_readPieces l0 l1) := mt_of rfl rfl (fun h => by cases h) rfl rfl (rX6_readPieces v d l0 l1)
theorem dX6_readRope_0 : decode cX6_readRope 0 = .ok (.aload_n 0, 1) := by decide +kernel
theorem dX6_readRope_1 : decode cX6_readRope 1 = .ok (.getfield 42, 3) := by decide +kernel
theorem dX6_readRope_4 : decode cX6_readRope 4 = .ok (.getfield 156, 3) := by decide +kernel
theorem dX6_readRope_7 : decode cX6_readRope 7 = .ok (.aload_n 0, 1) := by decide +kernel
theorem dX6_readRope_8 : decode cX6_readRope 8 = .ok (.getfield 15, 3) := by decide +kernel
theorem dX6_readRope_11 : decode cX6_readRope 11 = .ok (.aaload, 1) := by decide +kernel
theorem dX6_readRope_12 : decode cX6_readRope 12 = .ok (.astore_n 1, 1) := by decide +kernel
theorem dX6_readRope_13 : decode cX6_readRope 13 = .ok (.aload_n 0, 1) := by decide +kernel
theorem dX6_readRope_14 : decode cX6_readRope 14 = .ok (.getfield 38, 3) := by decide +kernel
theorem dX6_readRope_17 : decode cX6_readRope 17 = .ok (.invokevirtual 98, 3) := by decide +kernel
theorem dX6_readRope_20 : decode cX6_readRope 20 = .ok (.aload_n 0, 1) := by decide +kernel
theorem dX6_readRope_21 : decode cX6_readRope 21 = .ok (.invokevirtual 138, 3) := by decide +kernel
theorem dX6_readRope_24 : decode cX6_readRope 24 = .ok (.ifCond .ne 5, 3) := by decide +kernel
theorem dX6_readRope_27 : decode cX6_readRope 27 = .ok (.iconst 0, 1) := by decide +kernel
theorem dX6_readRope_28 : decode cX6_readRope 28 = .ok (.ireturn, 1) := by decide +kernel
theorem dX6_readRope_29 : decode cX6_readRope 29 = .ok (.aload_n 0, 1) := by decide +kernel
theorem dX6_readRope_30 : decode cX6_readRope 30 = .ok (.iconst (-1), 1) := by decide +kernel
theorem dX6_readRope_31 : decode cX6_readRope 31 = .ok (.invokevirtual 153, 3) := by decide +kernel
theorem dX6_readRope_34 : decode cX6_readRope 34 = .ok (.aload_n 0, 1) := by decide +kernel
theorem dX6_readRope_35 : decode cX6_readRope 35 = .ok (.getfield 38, 3) := by decide +kernel
theorem dX6_readRope_38 : decode cX6_readRope 38 = .ok (.ldc 147, 2) := by decide +kernel
theorem dX6_readRope_40 : decode cX6_readRope 40 = .ok (.invokevirtual 112, 3) := by decide +kernel
theorem dX6_readRope_43 : decode cX6_readRope 43 = .ok (.ifCond .eq 10, 3) := by decide +kernel
theorem dX6_readRope_46 : decode cX6_readRope 46 = .ok (.aload_n 0, 1) := by decide +kernel
theorem dX6_readRope_47 : decode cX6_readRope 47 = .ok (.invokevirtual 149, 3) := by decide +kernel
theorem dX6_readRope_50 : decode cX6_readRope 50 = .ok (.ifCond .ne 5, 3) := by decide +kernel
theorem dX6_readRope_53 : decode cX6_readRope 53 = .ok (.iconst 0, 1) := by decide +kernel
theorem dX6_readRope_54 : decode cX6_readRope 54 = .ok (.ireturn, 1) := by decide +kernel
theorem dX6_readRope_55 : decode cX6_readRope 55 = .ok (.aload_n 1, 1) := by decide +kernel
theorem dX6_readRope_56 : decode cX6_readRope 56 = .ok (.aload_n 0, 1) := by decide +kernel
theorem dX6_readRope_57 : decode cX6_readRope 57 = .ok (.getfield 38, 3) := by decide +kernel
theorem dX6_readRope_60 : decode cX6_readRope 60 = .ok (.getfield 105, 3) := by decide +kernel
theorem dX6_readRope_63 : decode cX6_readRope 63 = .ok (.putfield 160, 3) := by decide +kernel
theorem dX6_readRope_66 : decode cX6_readRope 66 = .ok (.aload_n 0, 1) := by decide +kernel
theorem dX6_readRope_67 : decode cX6_readRope 67 = .ok (.aload_n 1, 1) := by decide +kernel
theorem dX6_readRope_68 : decode cX6_readRope 68 = .ok (.invokevirtual 165, 3) := by decide +kernel
theorem dX6_readRope_71 : decode cX6_readRope 71 = .ok (.ifCond .ne 5, 3) := by decide +kernel
theorem dX6_readRope_74 : decode cX6_readRope 74 = .ok (.iconst 0, 1) := by decide +kernel
theorem dX6_readRope_75 : decode cX6_readRope 75 = .ok (.ireturn, 1) := by decide +kernel
theorem dX6_readRope_76 : decode cX6_readRope 76 = .ok (.aload_n 0, 1) := by decide +kernel
theorem dX6_readRope_77 : decode cX6_readRope 77 = .ok (.getfield 38, 3) := by decide +kernel
theorem dX6_readRope_80 : decode cX6_readRope 80 = .ok (.ldc 169, 2) := by decide +kernel
theorem dX6_readRope_82 : decode cX6_readRope 82 = .ok (.invokevirtual 66, 3) := by decide +kernel
theorem dX6_readRope_85 : decode cX6_readRope 85 = .ok (.ifCond .eq 15, 3) := by decide +kernel
theorem dX6_readRope_88 : decode cX6_readRope 88 = .ok (.aload_n 0, 1) := by decide +kernel
theorem dX6_readRope_89 : decode cX6_readRope 89 = .ok (.getfield 38, 3) := by decide +kernel
theorem dX6_readRope_92 : decode cX6_readRope 92 = .ok (.invokevirtual 98, 3) := by decide +kernel
theorem dX6_readRope_95 : decode cX6_readRope 95 = .ok (.aload_n 1, 1) := by decide +kernel
theorem dX6_readRope_96 : decode cX6_readRope 96 = .ok (.iconst 1, 1) := by decide +kernel
theorem dX6_readRope_97 : decode cX6_readRope 97 = .ok (.putfield 171, 3) := by decide +kernel
theorem dX6_readRope_100 : decode cX6_readRope 100 = .ok (.aload_n 0, 1) := by decide +kernel
theorem dX6_readRope_101 : decode cX6_readRope 101 = .ok (.getfield 38, 3) := by decide +kernel
theorem dX6_readRope_104 : decode cX6_readRope 104 = .ok (.ldc 173, 2) := by decide +kernel
theorem dX6_readRope_106 : decode cX6_readRope 106 = .ok (.invokevirtual 66, 3) := by decide +kernel
theorem dX6_readRope_109 : decode cX6_readRope 109 = .ok (.ifCond .eq 36, 3) := by decide +kernel
theorem dX6_readRope_112 : decode cX6_readRope 112 = .ok (.aload_n 0, 1) := by decide +kernel
theorem dX6_readRope_113 : decode cX6_readRope 113 = .ok (.getfield 38, 3) := by decide +kernel
theorem dX6_readRope_116 : decode cX6_readRope 116 = .ok (.invokevirtual 98, 3) := by decide +kernel
theorem dX6_readRope_119 : decode cX6_readRope 119 = .ok (.aload_n 0, 1) := by decide +kernel
theorem dX6_readRope_120 : decode cX6_readRope 120 = .ok (.getfield 38, 3) := by decide +kernel
theorem dX6_readRope_123 : decode cX6_readRope 123 = .ok (.iconst 0, 1) := by decide +kernel
theorem dX6_readRope_124 : decode cX6_readRope 124 = .ok (.bipush 15, 2) := by decide +kernel
theorem dX6_readRope_126 : decode cX6_readRope 126 = .ok (.invokevirtual 101, 3) := by decide +kernel
theorem dX6_readRope_129 : decode cX6_readRope 129 = .ok (.ifCond .ne 5, 3) := by decide +kernel
theorem dX6_readRope_132 : decode cX6_readRope 132 = .ok (.iconst 0, 1) := by decide +kernel
theorem dX6_readRope_133 : decode cX6_readRope 133 = .ok (.ireturn, 1) := by decide +kernel
theorem dX6_readRope_134 : decode cX6_readRope 134 = .ok (.aload_n 1, 1) := by decide +kernel
theorem dX6_readRope_135 : decode cX6_readRope 135 = .ok (.aload_n 0, 1) := by decide +kernel
theorem dX6_readRope_136 : decode cX6_readRope 136 = .ok (.getfield 38, 3) := by decide +kernel
theorem dX6_readRope_139 : decode cX6_readRope 139 = .ok (.getfield 105, 3) := by decide +kernel
theorem dX6_readRope_142 : decode cX6_readRope 142 = .ok (.putfield 175, 3) := by decide +kernel
theorem dX6_readRope_145 : decode cX6_readRope 145 = .ok (.aload_n 0, 1) := by decide +kernel
theorem dX6_readRope_146 : decode cX6_readRope 146 = .ok (.dup, 1) := by decide +kernel
theorem dX6_readRope_147 : decode cX6_readRope 147 = .ok (.getfield 15, 3) := by decide +kernel
theorem dX6_readRope_150 : decode cX6_readRope 150 = .ok (.iconst 1, 1) := by decide +kernel
theorem dX6_readRope_151 : decode cX6_readRope 151 = .ok (.iadd, 1) := by decide +kernel
theorem dX6_readRope_152 : decode cX6_readRope 152 = .ok (.putfield 15, 3) := by decide +kernel
theorem dX6_readRope_155 : decode cX6_readRope 155 = .ok (.aload_n 0, 1) := by decide +kernel
theorem dX6_readRope_156 : decode cX6_readRope 156 = .ok (.getfield 38, 3) := by decide +kernel
theorem dX6_readRope_159 : decode cX6_readRope 159 = .ok (.bipush 59, 2) := by decide +kernel
theorem dX6_readRope_161 : decode cX6_readRope 161 = .ok (.invokevirtual 127, 3) := by decide +kernel
theorem dX6_readRope_164 : decode cX6_readRope 164 = .ok (.ireturn, 1) := by decide +kernel
def fX6_readRope_145 (l0 : Nat) : mM Int32 := bGI 6 l0 3 (fun x1 => bPI 6 l0 3 (x1 + (1 : Int32)) (bGR 6 l0 0 (fun x2 => bCallV 4 x2 (fX4_takeSign x2 (59 : Int32)) (fun x3 => bRetZ x3))))
set_option maxRecDepth 20000 in
theorem rX6_readRope_145 (v : mE) (d : Nat) (l0 : Nat) : Rz v RX6 cX6_readRope 2 (some .boolean) false emI (d + 8) 145 [(0, vR l0)] [] (fX6_readRope_145 l0) := by
  unfold fX6_readRope_145
  refine rz_aload_n 146 0 dX6_readRope_145 rfl rfl ?_
  refine rz_dup 147 dX6_readRope_146 rfl rfl ?_
  refine rz_gI 150 dX6_readRope_147 rfl rfl fl_X6_15 (fun x1 => ?_)
  refine rz_iconst 151 dX6_readRope_150 rfl ci_1 ?_
  refine rz_iadd 152 dX6_readRope_151 rfl ?_
  refine rz_pI 155 dX6_readRope_152 rfl rfl rfl rfl fl_X6_15 ?_
  refine rz_aload_n 156 0 dX6_readRope_155 rfl rfl ?_
  refine rz_gR 159 dX6_readRope_156 rfl rfl fl_X6_38 (fun x2 => ?_)
  refine rz_bipush 161 dX6_readRope_159 rfl cb_59 ?_
  refine rz_callV 164 dX6_readRope_161 rfl (tX4_takeSign v (d + 2) x2 (59 : Int32)) rfl rfl rfl rfl ml_X6_127 im_X4_takeSign se_X4_X4_takeSign in_X4 co_X4_takeSign rfl rfl (fun x3 => ?_)
  exact rz_zreturn rfl rfl dX6_readRope_164
def fX6_readRope_100 (l0 : Nat) (l1 : Nat) : mM Int32 := bGR 6 l0 0 (fun x1 => bCallV 4 x1 (fX4_isWord x1 30) (fun x2 => bIf (x2 = 0) (fX6_readRope_145 l0) (bGR 6 l0 0 (fun x3 => bCallV 4 x3 (fX4_next x3) (fun _ => bGR 6 l0 0 (fun x4 => bCallV 4 x4 (fX4_takeNumber x4 (0 : Int32) (15 : Int32)) (fun x5 => bIf (x5 = 0) (bRetZ (0 : Int32)) (bGR 6 l0 0 (fun x6 => bGI 4 x6 6 (fun x7 => bPI 3 l1 5 x7 (fX6_readRope_145 l0)))))))))))
set_option maxRecDepth 20000 in
theorem rX6_readRope_100 (v : mE) (d : Nat) (l0 : Nat) (l1 : Nat) : Rz v RX6 cX6_readRope 2 (some .boolean) false emI (d + 8) 100 [(0, vR l0), (1, vR l1)] [] (fX6_readRope_100 l0 l1) := by
  unfold fX6_readRope_100
  refine rz_aload_n 101 0 dX6_readRope_100 rfl rfl ?_
  refine rz_gR 104 dX6_readRope_101 rfl rfl fl_X6_38 (fun x1 => ?_)
  refine rz_ldcS 106 30 dX6_readRope_104 rfl (by decide) rfl rfl ?_
  refine rz_callV 109 dX6_readRope_106 rfl (tX4_isWord v (d + 3) x1 30) rfl rfl rfl rfl ml_X6_66 im_X4_isWord se_X4_X4_isWord in_X4 co_X4_isWord rfl rfl (fun x2 => ?_)
  refine rz_if_eq 145 112 dX6_readRope_109 rfl rfl ?_ ?_
  · exact rz_sub [0] rfl (rX6_readRope_145 v d l0)
  · refine rz_aload_n 113 0 dX6_readRope_112 rfl rfl ?_
    refine rz_gR 116 dX6_readRope_113 rfl rfl fl_X6_38 (fun x3 => ?_)
    refine rz_callV 119 dX6_readRope_116 rfl (tX4_next v (d + 3) x3) rfl rfl rfl rfl ml_X6_98 im_X4_next se_X4_X4_next in_X4 co_X4_next rfl rfl (fun _ => ?_)
    refine rz_aload_n 120 0 dX6_readRope_119 rfl rfl ?_
    refine rz_gR 123 dX6_readRope_120 rfl rfl fl_X6_38 (fun x4 => ?_)
    refine rz_iconst 124 dX6_readRope_123 rfl ci_0 ?_
    refine rz_bipush 126 dX6_readRope_124 rfl cb_15 ?_
    refine rz_callV 129 dX6_readRope_126 rfl (tX4_takeNumber v (d + 2) x4 (0 : Int32) (15 : Int32)) rfl rfl rfl rfl ml_X6_101 im_X4_takeNumber se_X4_X4_takeNumber in_X4 co_X4_takeNumber rfl rfl (fun x5 => ?_)
    refine rz_if_ne 134 132 dX6_readRope_129 rfl rfl ?_ ?_
    · refine rz_aload_n 135 1 dX6_readRope_134 rfl rfl ?_
      refine rz_aload_n 136 0 dX6_readRope_135 rfl rfl ?_
      refine rz_gR 139 dX6_readRope_136 rfl rfl fl_X6_38 (fun x6 => ?_)
      refine rz_gI 142 dX6_readRope_139 rfl rfl fl_X6_105 (fun x7 => ?_)
      refine rz_pI 145 dX6_readRope_142 rfl rfl rfl rfl fl_X6_175 ?_
      exact rz_sub [0] rfl (rX6_readRope_145 v d l0)
    · refine rz_iconst 133 dX6_readRope_132 rfl ci_0 ?_
      exact rz_zreturn rfl rfl dX6_readRope_133
def fX6_readRope (l0 : Nat) : mM Int32 := bGR 6 l0 1 (fun x1 => bGR 7 x1 10 (fun x2 => bGI 6 l0 3 (fun x3 => bAR 14 x2 x3 (fun x4 => bGR 6 l0 0 (fun x5 => bCallV 4 x5 (fX4_next x5) (fun _ => bCallV 6 l0 (fX6_takeNewName l0) (fun x6 => bIf (x6 = 0) (bRetZ (0 : Int32)) (bCallV 6 l0 (fX6_keepName l0 (-1 : Int32)) (fun _ => bGR 6 l0 0 (fun x7 => bCallV 4 x7 (fX4_takeWord x7 27) (fun x8 => bIf (x8 = 0) (bRetZ (0 : Int32)) (bCallV 6 l0 (fX6_takePerson l0) (fun x9 => bIf (x9 = 0) (bRetZ (0 : Int32)) (bGR 6 l0 0 (fun x10 => bGI 4 x10 6 (fun x11 => bPI 3 x4 0 x11 (bCallV 6 l0 (fX6_readPieces l0 x4) (fun x12 => bIf (x12 = 0) (bRetZ (0 : Int32)) (bGR 6 l0 0 (fun x13 => bCallV 4 x13 (fX4_isWord x13 29) (fun x14 => bIf (x14 = 0) (fX6_readRope_100 l0 x4) (bGR 6 l0 0 (fun x15 => bCallV 4 x15 (fX4_next x15) (fun _ => bPZ 3 x4 4 (1 : Int32) (fX6_readRope_100 l0 x4)))))))))))))))))))))))))
set_option maxRecDepth 20000 in
theorem rX6_readRope (v : mE) (d : Nat) (l0 : Nat) : Rz v RX6 cX6_readRope 2 (some .boolean) false emI (d + 8) 0 [(0, vR l0)] [] (fX6_readRope l0) := by
  unfold fX6_readRope
  refine rz_aload_n 1 0 dX6_readRope_0 rfl rfl ?_
  refine rz_gR 4 dX6_readRope_1 rfl rfl fl_X6_42 (fun x1 => ?_)
  refine rz_gR 7 dX6_readRope_4 rfl rfl fl_X6_156 (fun x2 => ?_)
  refine rz_aload_n 8 0 dX6_readRope_7 rfl rfl ?_
  refine rz_gI 11 dX6_readRope_8 rfl rfl fl_X6_15 (fun x3 => ?_)
  refine rz_aald 12 dX6_readRope_11 rfl (by decide) (fun x4 => ?_)
  refine rz_astore_n (lv' := [(1, vR x4), (0, vR l0)]) 13 dX6_readRope_12 rfl rfl rfl ?_
  refine rz_aload_n 14 1 dX6_readRope_13 rfl rfl ?_
  refine rz_gR 17 dX6_readRope_14 rfl rfl fl_X6_38 (fun x5 => ?_)
  refine rz_callV 20 dX6_readRope_17 rfl (tX4_next v (d + 3) x5) rfl rfl rfl rfl ml_X6_98 im_X4_next se_X4_X4_next in_X4 co_X4_next rfl rfl (fun _ => ?_)
  refine rz_aload_n 21 1 dX6_readRope_20 rfl rfl ?_
  refine rz_callV 24 dX6_readRope_21 rfl (tX6_takeNewName v (d + 0) l0) rfl rfl rfl rfl ml_X6_138 im_X6_takeNewName se_X6_X6_takeNewName in_X6 co_X6_takeNewName rfl rfl (fun x6 => ?_)
  refine rz_if_ne 29 27 dX6_readRope_24 rfl rfl ?_ ?_
  · refine rz_aload_n 30 1 dX6_readRope_29 rfl rfl ?_
    refine rz_iconst 31 dX6_readRope_30 rfl ci_m1 ?_
    refine rz_callV 34 dX6_readRope_31 rfl (tX6_keepName v (d + 7) l0 (-1 : Int32)) rfl rfl rfl rfl ml_X6_153 im_X6_keepName se_X6_X6_keepName in_X6 co_X6_keepName rfl rfl (fun _ => ?_)
    refine rz_aload_n 35 1 dX6_readRope_34 rfl rfl ?_
    refine rz_gR 38 dX6_readRope_35 rfl rfl fl_X6_38 (fun x7 => ?_)
    refine rz_ldcS 40 27 dX6_readRope_38 rfl (by decide) rfl rfl ?_
    refine rz_callV 43 dX6_readRope_40 rfl (tX4_takeWord v (d + 2) x7 27) rfl rfl rfl rfl ml_X6_112 im_X4_takeWord se_X4_X4_takeWord in_X4 co_X4_takeWord rfl rfl (fun x8 => ?_)
    refine rz_if_eq 53 46 dX6_readRope_43 rfl rfl ?_ ?_
    · refine rz_iconst 54 dX6_readRope_53 rfl ci_0 ?_
      exact rz_zreturn rfl rfl dX6_readRope_54
    · refine rz_aload_n 47 1 dX6_readRope_46 rfl rfl ?_
      refine rz_callV 50 dX6_readRope_47 rfl (tX6_takePerson v (d + 0) l0) rfl rfl rfl rfl ml_X6_149 im_X6_takePerson se_X6_X6_takePerson in_X6 co_X6_takePerson rfl rfl (fun x9 => ?_)
      refine rz_if_ne 55 53 dX6_readRope_50 rfl rfl ?_ ?_
      · refine rz_aload_n 56 0 dX6_readRope_55 rfl rfl ?_
        refine rz_aload_n 57 1 dX6_readRope_56 rfl rfl ?_
        refine rz_gR 60 dX6_readRope_57 rfl rfl fl_X6_38 (fun x10 => ?_)
        refine rz_gI 63 dX6_readRope_60 rfl rfl fl_X6_105 (fun x11 => ?_)
        refine rz_pI 66 dX6_readRope_63 rfl rfl rfl rfl fl_X6_160 ?_
        refine rz_aload_n 67 1 dX6_readRope_66 rfl rfl ?_
        refine rz_aload_n 68 0 dX6_readRope_67 rfl rfl ?_
        refine rz_callV 71 dX6_readRope_68 rfl (tX6_readPieces v (d + 1) l0 x4) rfl rfl rfl rfl ml_X6_165 im_X6_readPieces se_X6_X6_readPieces in_X6 co_X6_readPieces rfl rfl (fun x12 => ?_)
        refine rz_if_ne 76 74 dX6_readRope_71 rfl rfl ?_ ?_
        · refine rz_aload_n 77 1 dX6_readRope_76 rfl rfl ?_
          refine rz_gR 80 dX6_readRope_77 rfl rfl fl_X6_38 (fun x13 => ?_)
          refine rz_ldcS 82 29 dX6_readRope_80 rfl (by decide) rfl rfl ?_
          refine rz_callV 85 dX6_readRope_82 rfl (tX4_isWord v (d + 3) x13 29) rfl rfl rfl rfl ml_X6_66 im_X4_isWord se_X4_X4_isWord in_X4 co_X4_isWord rfl rfl (fun x14 => ?_)
          refine rz_if_eq 100 88 dX6_readRope_85 rfl rfl ?_ ?_
          · exact rz_sub [1, 0] rfl (rX6_readRope_100 v d l0 x4)
          · refine rz_aload_n 89 1 dX6_readRope_88 rfl rfl ?_
            refine rz_gR 92 dX6_readRope_89 rfl rfl fl_X6_38 (fun x15 => ?_)
            refine rz_callV 95 dX6_readRope_92 rfl (tX4_next v (d + 3) x15) rfl rfl rfl rfl ml_X6_98 im_X4_next se_X4_X4_next in_X4 co_X4_next rfl rfl (fun _ => ?_)
            refine rz_aload_n 96 0 dX6_readRope_95 rfl rfl ?_
            refine rz_iconst 97 dX6_readRope_96 rfl ci_1 ?_
            refine rz_pZ 100 dX6_readRope_97 rfl rfl rfl rfl fl_X6_171 ?_
            exact rz_sub [1, 0] rfl (rX6_readRope_100 v d l0 x4)
        · refine rz_iconst 75 dX6_readRope_74 rfl ci_0 ?_
          exact rz_zreturn rfl rfl dX6_readRope_75
      · refine rz_iconst 54 dX6_readRope_53 rfl ci_0 ?_
        exact rz_zreturn rfl rfl dX6_readRope_54
  · refine rz_iconst 28 dX6_readRope_27 rfl ci_0 ?_
    exact rz_zreturn rfl rfl dX6_readRope_28
theorem tX6_readRope (v : mE) (d : Nat) (l0 : Nat) : Mt v yX6_readRope cX6_readRope 2 (some .boolean) emI (d + 8) [vR l0] (fX6_readRope l0) := mt_of rfl rfl (fun h => by cases h) rfl rfl (rX6_readRope v d l0)
theorem dX6_readFlood_0 : decode cX6_readFlood 0 = .ok (.aload_n 0, 1) := by decide +kernel
theorem dX6_readFlood_1 : decode cX6_readFlood 1 = .ok (.getfield 42, 3) := by decide +kernel
theorem dX6_readFlood_4 : decode cX6_readFlood 4 = .ok (.getfield 92, 3) := by decide +kernel
theorem dX6_readFlood_7 : decode cX6_readFlood 7 = .ok (.istore_n 1, 1) := by decide +kernel
theorem dX6_readFlood_8 : decode cX6_readFlood 8 = .ok (.aload_n 0, 1) := by decide +kernel
theorem dX6_readFlood_9 : decode cX6_readFlood 9 = .ok (.getfield 38, 3) := by decide +kernel
theorem dX6_readFlood_12 : decode cX6_readFlood 12 = .ok (.invokevirtual 98, 3) := by decide +kernel
theorem dX6_readFlood_15 : decode cX6_readFlood 15 = .ok (.aload_n 0, 1) := by decide +kernel
theorem dX6_readFlood_16 : decode cX6_readFlood 16 = .ok (.getfield 38, 3) := by decide +kernel
theorem dX6_readFlood_19 : decode cX6_readFlood 19 = .ok (.iconst 0, 1) := by decide +kernel
theorem dX6_readFlood_20 : decode cX6_readFlood 20 = .ok (.sipush 200, 3) := by decide +kernel
theorem dX6_readFlood_23 : decode cX6_readFlood 23 = .ok (.invokevirtual 101, 3) := by decide +kernel
theorem dX6_readFlood_26 : decode cX6_readFlood 26 = .ok (.ifCond .ne 5, 3) := by decide +kernel
theorem dX6_readFlood_29 : decode cX6_readFlood 29 = .ok (.iconst 0, 1) := by decide +kernel
theorem dX6_readFlood_30 : decode cX6_readFlood 30 = .ok (.ireturn, 1) := by decide +kernel
theorem dX6_readFlood_31 : decode cX6_readFlood 31 = .ok (.aload_n 0, 1) := by decide +kernel
theorem dX6_readFlood_32 : decode cX6_readFlood 32 = .ok (.getfield 42, 3) := by decide +kernel
theorem dX6_readFlood_35 : decode cX6_readFlood 35 = .ok (.getfield 185, 3) := by decide +kernel
theorem dX6_readFlood_38 : decode cX6_readFlood 38 = .ok (.iload_n 1, 1) := by decide +kernel
theorem dX6_readFlood_39 : decode cX6_readFlood 39 = .ok (.aload_n 0, 1) := by decide +kernel
theorem dX6_readFlood_40 : decode cX6_readFlood 40 = .ok (.getfield 38, 3) := by decide +kernel
theorem dX6_readFlood_43 : decode cX6_readFlood 43 = .ok (.getfield 105, 3) := by decide +kernel
theorem dX6_readFlood_46 : decode cX6_readFlood 46 = .ok (.iastore, 1) := by decide +kernel
theorem dX6_readFlood_47 : decode cX6_readFlood 47 = .ok (.aload_n 0, 1) := by decide +kernel
theorem dX6_readFlood_48 : decode cX6_readFlood 48 = .ok (.getfield 38, 3) := by decide +kernel
theorem dX6_readFlood_51 : decode cX6_readFlood 51 = .ok (.ldc 188, 2) := by decide +kernel
theorem dX6_readFlood_53 : decode cX6_readFlood 53 = .ok (.invokevirtual 112, 3) := by decide +kernel
theorem dX6_readFlood_56 : decode cX6_readFlood 56 = .ok (.ifCond .eq 23, 3) := by decide +kernel
theorem dX6_readFlood_59 : decode cX6_readFlood 59 = .ok (.aload_n 0, 1) := by decide +kernel
theorem dX6_readFlood_60 : decode cX6_readFlood 60 = .ok (.getfield 38, 3) := by decide +kernel
theorem dX6_readFlood_63 : decode cX6_readFlood 63 = .ok (.aload_n 0, 1) := by decide +kernel
theorem dX6_readFlood_64 : decode cX6_readFlood 64 = .ok (.getfield 38, 3) := by decide +kernel
theorem dX6_readFlood_67 : decode cX6_readFlood 67 = .ok (.getfield 105, 3) := by decide +kernel
theorem dX6_readFlood_70 : decode cX6_readFlood 70 = .ok (.sipush 200, 3) := by decide +kernel
theorem dX6_readFlood_73 : decode cX6_readFlood 73 = .ok (.invokevirtual 101, 3) := by decide +kernel
theorem dX6_readFlood_76 : decode cX6_readFlood 76 = .ok (.ifCond .ne 5, 3) := by decide +kernel
theorem dX6_readFlood_79 : decode cX6_readFlood 79 = .ok (.iconst 0, 1) := by decide +kernel
theorem dX6_readFlood_80 : decode cX6_readFlood 80 = .ok (.ireturn, 1) := by decide +kernel
theorem dX6_readFlood_81 : decode cX6_readFlood 81 = .ok (.aload_n 0, 1) := by decide +kernel
theorem dX6_readFlood_82 : decode cX6_readFlood 82 = .ok (.getfield 42, 3) := by decide +kernel
theorem dX6_readFlood_85 : decode cX6_readFlood 85 = .ok (.getfield 190, 3) := by decide +kernel
theorem dX6_readFlood_88 : decode cX6_readFlood 88 = .ok (.iload_n 1, 1) := by decide +kernel
theorem dX6_readFlood_89 : decode cX6_readFlood 89 = .ok (.aload_n 0, 1) := by decide +kernel
theorem dX6_readFlood_90 : decode cX6_readFlood 90 = .ok (.getfield 38, 3) := by decide +kernel
theorem dX6_readFlood_93 : decode cX6_readFlood 93 = .ok (.getfield 105, 3) := by decide +kernel
theorem dX6_readFlood_96 : decode cX6_readFlood 96 = .ok (.iastore, 1) := by decide +kernel
theorem dX6_readFlood_97 : decode cX6_readFlood 97 = .ok (.aload_n 0, 1) := by decide +kernel
theorem dX6_readFlood_98 : decode cX6_readFlood 98 = .ok (.getfield 38, 3) := by decide +kernel
theorem dX6_readFlood_101 : decode cX6_readFlood 101 = .ok (.ldc 133, 2) := by decide +kernel
theorem dX6_readFlood_103 : decode cX6_readFlood 103 = .ok (.invokevirtual 112, 3) := by decide +kernel
theorem dX6_readFlood_106 : decode cX6_readFlood 106 = .ok (.ifCond .eq 17, 3) := by decide +kernel
theorem dX6_readFlood_109 : decode cX6_readFlood 109 = .ok (.aload_n 0, 1) := by decide +kernel
theorem dX6_readFlood_110 : decode cX6_readFlood 110 = .ok (.getfield 38, 3) := by decide +kernel
theorem dX6_readFlood_113 : decode cX6_readFlood 113 = .ok (.iconst 1, 1) := by decide +kernel
theorem dX6_readFlood_114 : decode cX6_readFlood 114 = .ok (.sipush 999, 3) := by decide +kernel
theorem dX6_readFlood_117 : decode cX6_readFlood 117 = .ok (.invokevirtual 101, 3) := by decide +kernel
theorem dX6_readFlood_120 : decode cX6_readFlood 120 = .ok (.ifCond .ne 5, 3) := by decide +kernel
theorem dX6_readFlood_123 : decode cX6_readFlood 123 = .ok (.iconst 0, 1) := by decide +kernel
theorem dX6_readFlood_124 : decode cX6_readFlood 124 = .ok (.ireturn, 1) := by decide +kernel
theorem dX6_readFlood_125 : decode cX6_readFlood 125 = .ok (.aload_n 0, 1) := by decide +kernel
theorem dX6_readFlood_126 : decode cX6_readFlood 126 = .ok (.getfield 42, 3) := by decide +kernel
theorem dX6_readFlood_129 : decode cX6_readFlood 129 = .ok (.getfield 193, 3) := by decide +kernel
theorem dX6_readFlood_132 : decode cX6_readFlood 132 = .ok (.iload_n 1, 1) := by decide +kernel
theorem dX6_readFlood_133 : decode cX6_readFlood 133 = .ok (.aload_n 0, 1) := by decide +kernel
theorem dX6_readFlood_134 : decode cX6_readFlood 134 = .ok (.getfield 38, 3) := by decide +kernel
theorem dX6_readFlood_137 : decode cX6_readFlood 137 = .ok (.getfield 105, 3) := by decide +kernel
theorem dX6_readFlood_140 : decode cX6_readFlood 140 = .ok (.iastore, 1) := by decide +kernel
theorem dX6_readFlood_141 : decode cX6_readFlood 141 = .ok (.aload_n 0, 1) := by decide +kernel
theorem dX6_readFlood_142 : decode cX6_readFlood 142 = .ok (.getfield 42, 3) := by decide +kernel
theorem dX6_readFlood_145 : decode cX6_readFlood 145 = .ok (.iload_n 1, 1) := by decide +kernel
theorem dX6_readFlood_146 : decode cX6_readFlood 146 = .ok (.iconst 1, 1) := by decide +kernel
theorem dX6_readFlood_147 : decode cX6_readFlood 147 = .ok (.iadd, 1) := by decide +kernel
theorem dX6_readFlood_148 : decode cX6_readFlood 148 = .ok (.putfield 92, 3) := by decide +kernel
theorem dX6_readFlood_151 : decode cX6_readFlood 151 = .ok (.aload_n 0, 1) := by decide +kernel
theorem dX6_readFlood_152 : decode cX6_readFlood 152 = .ok (.getfield 38, 3) := by decide +kernel
theorem dX6_readFlood_155 : decode cX6_readFlood 155 = .ok (.bipush 59, 2) := by decide +kernel
theorem dX6_readFlood_157 : decode cX6_readFlood 157 = .ok (.invokevirtual 127, 3) := by decide +kernel
theorem dX6_readFlood_160 : decode cX6_readFlood 160 = .ok (.ireturn, 1) := by decide +kernel
def fX6_readFlood (l0 : Nat) : mM Int32 := bGR 6 l0 1 (fun x1 => bGI 7 x1 11 (fun x2 => bGR 6 l0 0 (fun x3 => bCallV 4 x3 (fX4_next x3) (fun _ => bGR 6 l0 0 (fun x4 => bCallV 4 x4 (fX4_takeNumber x4 (0 : Int32) (200 : Int32)) (fun x5 => bIf (x5 = 0) (bRetZ (0 : Int32)) (bGR 6 l0 1 (fun x6 => bGR 7 x6 12 (fun x7 => bGR 6 l0 0 (fun x8 => bGI 4 x8 6 (fun x9 => bSI x7 x2 x9 (bGR 6 l0 0 (fun x10 => bCallV 4 x10 (fX4_takeWord x10 33) (fun x11 => bIf (x11 = 0) (bRetZ (0 : Int32)) (bGR 6 l0 0 (fun x12 => bGR 6 l0 0 (fun x13 => bGI 4 x13 6 (fun x14 => bCallV 4 x12 (fX4_takeNumber x12 x14 (200 : Int32)) (fun x15 => bIf (x15 = 0) (bRetZ (0 : Int32)) (bGR 6 l0 1 (fun x16 => bGR 7 x16 13 (fun x17 => bGR 6 l0 0 (fun x18 => bGI 4 x18 6 (fun x19 => bSI x17 x2 x19 (bGR 6 l0 0 (fun x20 => bCallV 4 x20 (fX4_takeWord x20 26) (fun x21 => bIf (x21 = 0) (bRetZ (0 : Int32)) (bGR 6 l0 0 (fun x22 => bCallV 4 x22 (fX4_takeNumber x22 (1 : Int32) (999 : Int32)) (fun x23 => bIf (x23 = 0) (bRetZ (0 : Int32)) (bGR 6 l0 1 (fun x24 => bGR 7 x24 14 (fun x25 => bGR 6 l0 0 (fun x26 => bGI 4 x26 6 (fun x27 => bSI x25 x2 x27 (bGR 6 l0 1 (fun x28 => bPI 7 x28 11 (x2 + (1 : Int32)) (bGR 6 l0 0 (fun x29 => bCallV 4 x29 (fX4_takeSign x29 (59 : Int32)) (fun x30 => bRetZ x30))))))))))))))))))))))))))))))))))))))))
set_option maxRecDepth 20000 in
theorem rX6_readFlood (v : mE) (d : Nat) (l0 : Nat) : Rz v RX6 cX6_readFlood 2 (some .boolean) false emI (d + 6) 0 [(0, vR l0)] [] (fX6_readFlood l0) := by
  unfold fX6_readFlood
  refine rz_aload_n 1 0 dX6_readFlood_0 rfl rfl ?_
  refine rz_gR 4 dX6_readFlood_1 rfl rfl fl_X6_42 (fun x1 => ?_)
  refine rz_gI 7 dX6_readFlood_4 rfl rfl fl_X6_92 (fun x2 => ?_)
  refine rz_istore_n (lv' := [(1, vI x2), (0, vR l0)]) 8 dX6_readFlood_7 rfl rfl rfl ?_
  refine rz_aload_n 9 1 dX6_readFlood_8 rfl rfl ?_
  refine rz_gR 12 dX6_readFlood_9 rfl rfl fl_X6_38 (fun x3 => ?_)
  refine rz_callV 15 dX6_readFlood_12 rfl (tX4_next v (d + 1) x3) rfl rfl rfl rfl ml_X6_98 im_X4_next se_X4_X4_next in_X4 co_X4_next rfl rfl (fun _ => ?_)
  refine rz_aload_n 16 1 dX6_readFlood_15 rfl rfl ?_
  refine rz_gR 19 dX6_readFlood_16 rfl rfl fl_X6_38 (fun x4 => ?_)
  refine rz_iconst 20 dX6_readFlood_19 rfl ci_0 ?_
  refine rz_sipush 23 dX6_readFlood_20 rfl cs_200 ?_
  refine rz_callV 26 dX6_readFlood_23 rfl (tX4_takeNumber v (d + 0) x4 (0 : Int32) (200 : Int32)) rfl rfl rfl rfl ml_X6_101 im_X4_takeNumber se_X4_X4_takeNumber in_X4 co_X4_takeNumber rfl rfl (fun x5 => ?_)
  refine rz_if_ne 31 29 dX6_readFlood_26 rfl rfl ?_ ?_
  · refine rz_aload_n 32 1 dX6_readFlood_31 rfl rfl ?_
    refine rz_gR 35 dX6_readFlood_32 rfl rfl fl_X6_42 (fun x6 => ?_)
    refine rz_gR 38 dX6_readFlood_35 rfl rfl fl_X6_185 (fun x7 => ?_)
    refine rz_iload_n 39 0 dX6_readFlood_38 rfl rfl ?_
    refine rz_aload_n 40 1 dX6_readFlood_39 rfl rfl ?_
    refine rz_gR 43 dX6_readFlood_40 rfl rfl fl_X6_38 (fun x8 => ?_)
    refine rz_gI 46 dX6_readFlood_43 rfl rfl fl_X6_105 (fun x9 => ?_)
    refine rz_iast 47 dX6_readFlood_46 rfl ?_
    refine rz_aload_n 48 1 dX6_readFlood_47 rfl rfl ?_
    refine rz_gR 51 dX6_readFlood_48 rfl rfl fl_X6_38 (fun x10 => ?_)
    refine rz_ldcS 53 33 dX6_readFlood_51 rfl (by decide) rfl rfl ?_
    refine rz_callV 56 dX6_readFlood_53 rfl (tX4_takeWord v (d + 0) x10 33) rfl rfl rfl rfl ml_X6_112 im_X4_takeWord se_X4_X4_takeWord in_X4 co_X4_takeWord rfl rfl (fun x11 => ?_)
    refine rz_if_eq 79 59 dX6_readFlood_56 rfl rfl ?_ ?_
    · refine rz_iconst 80 dX6_readFlood_79 rfl ci_0 ?_
      exact rz_zreturn rfl rfl dX6_readFlood_80
    · refine rz_aload_n 60 1 dX6_readFlood_59 rfl rfl ?_
      refine rz_gR 63 dX6_readFlood_60 rfl rfl fl_X6_38 (fun x12 => ?_)
      refine rz_aload_n 64 1 dX6_readFlood_63 rfl rfl ?_
      refine rz_gR 67 dX6_readFlood_64 rfl rfl fl_X6_38 (fun x13 => ?_)
      refine rz_gI 70 dX6_readFlood_67 rfl rfl fl_X6_105 (fun x14 => ?_)
      refine rz_sipush 73 dX6_readFlood_70 rfl cs_200 ?_
      refine rz_callV 76 dX6_readFlood_73 rfl (tX4_takeNumber v (d + 0) x12 x14 (200 : Int32)) rfl rfl rfl rfl ml_X6_101 im_X4_takeNumber se_X4_X4_takeNumber in_X4 co_X4_takeNumber rfl rfl (fun x15 => ?_)
      refine rz_if_ne 81 79 dX6_readFlood_76 rfl rfl ?_ ?_
      · refine rz_aload_n 82 1 dX6_readFlood_81 rfl rfl ?_
        refine rz_gR 85 dX6_readFlood_82 rfl rfl fl_X6_42 (fun x16 => ?_)
        refine rz_gR 88 dX6_readFlood_85 rfl rfl fl_X6_190 (fun x17 => ?_)
        refine rz_iload_n 89 0 dX6_readFlood_88 rfl rfl ?_
        refine rz_aload_n 90 1 dX6_readFlood_89 rfl rfl ?_
        refine rz_gR 93 dX6_readFlood_90 rfl rfl fl_X6_38 (fun x18 => ?_)
        refine rz_gI 96 dX6_readFlood_93 rfl rfl fl_X6_105 (fun x19 => ?_)
        refine rz_iast 97 dX6_readFlood_96 rfl ?_
        refine rz_aload_n 98 1 dX6_readFlood_97 rfl rfl ?_
        refine rz_gR 101 dX6_readFlood_98 rfl rfl fl_X6_38 (fun x20 => ?_)
        refine rz_ldcS 103 26 dX6_readFlood_101 rfl (by decide) rfl rfl ?_
        refine rz_callV 106 dX6_readFlood_103 rfl (tX4_takeWord v (d + 0) x20 26) rfl rfl rfl rfl ml_X6_112 im_X4_takeWord se_X4_X4_takeWord in_X4 co_X4_takeWord rfl rfl (fun x21 => ?_)
        refine rz_if_eq 123 109 dX6_readFlood_106 rfl rfl ?_ ?_
        · refine rz_iconst 124 dX6_readFlood_123 rfl ci_0 ?_
          exact rz_zreturn rfl rfl dX6_readFlood_124
        · refine rz_aload_n 110 1 dX6_readFlood_109 rfl rfl ?_
          refine rz_gR 113 dX6_readFlood_110 rfl rfl fl_X6_38 (fun x22 => ?_)
          refine rz_iconst 114 dX6_readFlood_113 rfl ci_1 ?_
          refine rz_sipush 117 dX6_readFlood_114 rfl cs_999 ?_
          refine rz_callV 120 dX6_readFlood_117 rfl (tX4_takeNumber v (d + 0) x22 (1 : Int32) (999 : Int32)) rfl rfl rfl rfl ml_X6_101 im_X4_takeNumber se_X4_X4_takeNumber in_X4 co_X4_takeNumber rfl rfl (fun x23 => ?_)
          refine rz_if_ne 125 123 dX6_readFlood_120 rfl rfl ?_ ?_
          · refine rz_aload_n 126 1 dX6_readFlood_125 rfl rfl ?_
            refine rz_gR 129 dX6_readFlood_126 rfl rfl fl_X6_42 (fun x24 => ?_)
            refine rz_gR 132 dX6_readFlood_129 rfl rfl fl_X6_193 (fun x25 => ?_)
            refine rz_iload_n 133 0 dX6_readFlood_132 rfl rfl ?_
            refine rz_aload_n 134 1 dX6_readFlood_133 rfl rfl ?_
            refine rz_gR 137 dX6_readFlood_134 rfl rfl fl_X6_38 (fun x26 => ?_)
            refine rz_gI 140 dX6_readFlood_137 rfl rfl fl_X6_105 (fun x27 => ?_)
            refine rz_iast 141 dX6_readFlood_140 rfl ?_
            refine rz_aload_n 142 1 dX6_readFlood_141 rfl rfl ?_
            refine rz_gR 145 dX6_readFlood_142 rfl rfl fl_X6_42 (fun x28 => ?_)
            refine rz_iload_n 146 0 dX6_readFlood_145 rfl rfl ?_
            refine rz_iconst 147 dX6_readFlood_146 rfl ci_1 ?_
            refine rz_iadd 148 dX6_readFlood_147 rfl ?_
            refine rz_pI 151 dX6_readFlood_148 rfl rfl rfl rfl fl_X6_92 ?_
            refine rz_aload_n 152 1 dX6_readFlood_151 rfl rfl ?_
            refine rz_gR 155 dX6_readFlood_152 rfl rfl fl_X6_38 (fun x29 => ?_)
            refine rz_bipush 157 dX6_readFlood_155 rfl cb_59 ?_
            refine rz_callV 160 dX6_readFlood_157 rfl (tX4_takeSign v (d + 0) x29 (59 : Int32)) rfl rfl rfl rfl ml_X6_127 im_X4_takeSign se_X4_X4_takeSign in_X4 co_X4_takeSign rfl rfl (fun x30 => ?_)
            exact rz_zreturn rfl rfl dX6_readFlood_160
          · refine rz_iconst 124 dX6_readFlood_123 rfl ci_0 ?_
            exact rz_zreturn rfl rfl dX6_readFlood_124
      · refine rz_iconst 80 dX6_readFlood_79 rfl ci_0 ?_
        exact rz_zreturn rfl rfl dX6_readFlood_80
  · refine rz_iconst 30 dX6_readFlood_29 rfl ci_0 ?_
    exact rz_zreturn rfl rfl dX6_readFlood_30
theorem tX6_readFlood (v : mE) (d : Nat) (l0 : Nat) : Mt v yX6_readFlood cX6_readFlood 2 (some .boolean) emI (d + 6) [vR l0] (fX6_readFlood l0) := mt_of rfl rfl (fun h => by cases h) rfl rfl (rX6_readFlood v d l0)
theorem dX6_readPart_0 : decode cX6_readPart 0 = .ok (.aload_n 0, 1) := by decide +kernel
theorem dX6_readPart_1 : decode cX6_readPart 1 = .ok (.getfield 38, 3) := by decide +kernel
theorem dX6_readPart_4 : decode cX6_readPart 4 = .ok (.ldc 64, 2) := by decide +kernel
theorem dX6_readPart_6 : decode cX6_readPart 6 = .ok (.invokevirtual 66, 3) := by decide +kernel
theorem dX6_readPart_9 : decode cX6_readPart 9 = .ok (.ifCond .eq 26, 3) := by decide +kernel
theorem dX6_readPart_12 : decode cX6_readPart 12 = .ok (.aload_n 0, 1) := by decide +kernel
theorem dX6_readPart_13 : decode cX6_readPart 13 = .ok (.getfield 11, 3) := by decide +kernel
theorem dX6_readPart_16 : decode cX6_readPart 16 = .ok (.ifCond .eq 14, 3) := by decide +kernel
theorem dX6_readPart_19 : decode cX6_readPart 19 = .ok (.aload_n 0, 1) := by decide +kernel
theorem dX6_readPart_20 : decode cX6_readPart 20 = .ok (.getfield 38, 3) := by decide +kernel
theorem dX6_readPart_23 : decode cX6_readPart 23 = .ok (.iconst 5, 1) := by decide +kernel
theorem dX6_readPart_24 : decode cX6_readPart 24 = .ok (.invokevirtual 70, 3) := by decide +kernel
theorem dX6_readPart_27 : decode cX6_readPart 27 = .ok (.goto 7, 3) := by decide +kernel
theorem dX6_readPart_30 : decode cX6_readPart 30 = .ok (.aload_n 0, 1) := by decide +kernel
theorem dX6_readPart_31 : decode cX6_readPart 31 = .ok (.invokevirtual 74, 3) := by decide +kernel
theorem dX6_readPart_34 : decode cX6_readPart 34 = .ok (.ireturn, 1) := by decide +kernel
theorem dX6_readPart_35 : decode cX6_readPart 35 = .ok (.aload_n 0, 1) := by decide +kernel
theorem dX6_readPart_36 : decode cX6_readPart 36 = .ok (.getfield 38, 3) := by decide +kernel
theorem dX6_readPart_39 : decode cX6_readPart 39 = .ok (.ldc 77, 2) := by decide +kernel
theorem dX6_readPart_41 : decode cX6_readPart 41 = .ok (.invokevirtual 66, 3) := by decide +kernel
theorem dX6_readPart_44 : decode cX6_readPart 44 = .ok (.ifCond .eq 32, 3) := by decide +kernel
theorem dX6_readPart_47 : decode cX6_readPart 47 = .ok (.aload_n 0, 1) := by decide +kernel
theorem dX6_readPart_48 : decode cX6_readPart 48 = .ok (.getfield 42, 3) := by decide +kernel
theorem dX6_readPart_51 : decode cX6_readPart 51 = .ok (.getfield 79, 3) := by decide +kernel
theorem dX6_readPart_54 : decode cX6_readPart 54 = .ok (.bipush 8, 2) := by decide +kernel
theorem dX6_readPart_56 : decode cX6_readPart 56 = .ok (.if_icmp .lt 15, 3) := by decide +kernel
theorem dX6_readPart_59 : decode cX6_readPart 59 = .ok (.aload_n 0, 1) := by decide +kernel
theorem dX6_readPart_60 : decode cX6_readPart 60 = .ok (.getfield 38, 3) := by decide +kernel
theorem dX6_readPart_63 : decode cX6_readPart 63 = .ok (.bipush 6, 2) := by decide +kernel
theorem dX6_readPart_65 : decode cX6_readPart 65 = .ok (.invokevirtual 70, 3) := by decide +kernel
theorem dX6_readPart_68 : decode cX6_readPart 68 = .ok (.goto 7, 3) := by decide +kernel
theorem dX6_readPart_71 : decode cX6_readPart 71 = .ok (.aload_n 0, 1) := by decide +kernel
theorem dX6_readPart_72 : decode cX6_readPart 72 = .ok (.invokevirtual 82, 3) := by decide +kernel
theorem dX6_readPart_75 : decode cX6_readPart 75 = .ok (.ireturn, 1) := by decide +kernel
theorem dX6_readPart_76 : decode cX6_readPart 76 = .ok (.aload_n 0, 1) := by decide +kernel
theorem dX6_readPart_77 : decode cX6_readPart 77 = .ok (.getfield 38, 3) := by decide +kernel
theorem dX6_readPart_80 : decode cX6_readPart 80 = .ok (.ldc 85, 2) := by decide +kernel
theorem dX6_readPart_82 : decode cX6_readPart 82 = .ok (.invokevirtual 66, 3) := by decide +kernel
theorem dX6_readPart_85 : decode cX6_readPart 85 = .ok (.ifCond .eq 29, 3) := by decide +kernel
theorem dX6_readPart_88 : decode cX6_readPart 88 = .ok (.aload_n 0, 1) := by decide +kernel
theorem dX6_readPart_89 : decode cX6_readPart 89 = .ok (.getfield 15, 3) := by decide +kernel
theorem dX6_readPart_92 : decode cX6_readPart 92 = .ok (.bipush 6, 2) := by decide +kernel
theorem dX6_readPart_94 : decode cX6_readPart 94 = .ok (.if_icmp .lt 15, 3) := by decide +kernel
theorem dX6_readPart_97 : decode cX6_readPart 97 = .ok (.aload_n 0, 1) := by decide +kernel
theorem dX6_readPart_98 : decode cX6_readPart 98 = .ok (.getfield 38, 3) := by decide +kernel
theorem dX6_readPart_101 : decode cX6_readPart 101 = .ok (.bipush 6, 2) := by decide +kernel
theorem dX6_readPart_103 : decode cX6_readPart 103 = .ok (.invokevirtual 70, 3) := by decide +kernel
theorem dX6_readPart_106 : decode cX6_readPart 106 = .ok (.goto 7, 3) := by decide +kernel
theorem dX6_readPart_109 : decode cX6_readPart 109 = .ok (.aload_n 0, 1) := by decide +kernel
theorem dX6_readPart_110 : decode cX6_readPart 110 = .ok (.invokevirtual 87, 3) := by decide +kernel
theorem dX6_readPart_113 : decode cX6_readPart 113 = .ok (.ireturn, 1) := by decide +kernel
theorem dX6_readPart_114 : decode cX6_readPart 114 = .ok (.aload_n 0, 1) := by decide +kernel
theorem dX6_readPart_115 : decode cX6_readPart 115 = .ok (.getfield 38, 3) := by decide +kernel
theorem dX6_readPart_118 : decode cX6_readPart 118 = .ok (.ldc 90, 2) := by decide +kernel
theorem dX6_readPart_120 : decode cX6_readPart 120 = .ok (.invokevirtual 66, 3) := by decide +kernel
theorem dX6_readPart_123 : decode cX6_readPart 123 = .ok (.ifCond .eq 31, 3) := by decide +kernel
theorem dX6_readPart_126 : decode cX6_readPart 126 = .ok (.aload_n 0, 1) := by decide +kernel
theorem dX6_readPart_127 : decode cX6_readPart 127 = .ok (.getfield 42, 3) := by decide +kernel
theorem dX6_readPart_130 : decode cX6_readPart 130 = .ok (.getfield 92, 3) := by decide +kernel
theorem dX6_readPart_133 : decode cX6_readPart 133 = .ok (.iconst 4, 1) := by decide +kernel
theorem dX6_readPart_134 : decode cX6_readPart 134 = .ok (.if_icmp .lt 15, 3) := by decide +kernel
theorem dX6_readPart_137 : decode cX6_readPart 137 = .ok (.aload_n 0, 1) := by decide +kernel
theorem dX6_readPart_138 : decode cX6_readPart 138 = .ok (.getfield 38, 3) := by decide +kernel
theorem dX6_readPart_141 : decode cX6_readPart 141 = .ok (.bipush 6, 2) := by decide +kernel
theorem dX6_readPart_143 : decode cX6_readPart 143 = .ok (.invokevirtual 70, 3) := by decide +kernel
theorem dX6_readPart_146 : decode cX6_readPart 146 = .ok (.goto 7, 3) := by decide +kernel
theorem dX6_readPart_149 : decode cX6_readPart 149 = .ok (.aload_n 0, 1) := by decide +kernel
theorem dX6_readPart_150 : decode cX6_readPart 150 = .ok (.invokevirtual 95, 3) := by decide +kernel
theorem dX6_readPart_153 : decode cX6_readPart 153 = .ok (.ireturn, 1) := by decide +kernel
theorem dX6_readPart_154 : decode cX6_readPart 154 = .ok (.aload_n 0, 1) := by decide +kernel
theorem dX6_readPart_155 : decode cX6_readPart 155 = .ok (.getfield 38, 3) := by decide +kernel
theorem dX6_readPart_158 : decode cX6_readPart 158 = .ok (.iconst 2, 1) := by decide +kernel
theorem dX6_readPart_159 : decode cX6_readPart 159 = .ok (.invokevirtual 70, 3) := by decide +kernel
theorem dX6_readPart_162 : decode cX6_readPart 162 = .ok (.ireturn, 1) := by decide +kernel
def fX6_readPart (l0 : Nat) : mM Int32 := bGR 6 l0 0 (fun x1 => bCallV 4 x1 (fX4_isWord x1 19) (fun x2 => bIf (x2 = 0) (bGR 6 l0 0 (fun x3 => bCallV 4 x3 (fX4_isWord x3 20) (fun x4 => bIf (x4 = 0) (bGR 6 l0 0 (fun x5 => bCallV 4 x5 (fX4_isWord x5 21) (fun x6 => bIf (x6 = 0) (bGR 6 l0 0 (fun x7 => bCallV 4 x7 (fX4_isWord x7 22) (fun x8 => bIf (x8 = 0) (bGR 6 l0 0 (fun x9 => bCallV 4 x9 (fX4_refuseToken x9 (2 : Int32)) (fun x10 => bRetZ x10))) (bGR 6 l0 1 (fun x11 => bGI 7 x11 11 (fun x12 => bIf (x12 < (4 : Int32)) (bCallV 6 l0 (fX6_readFlood l0) (fun x13 => bRetZ x13)) (bGR 6 l0 0 (fun x14 => bCallV 4 x14 (fX4_refuseToken x14 (6 : Int32)) (fun x15 => bRetZ x15))))))))) (bGI 6 l0 3 (fun x16 => bIf (x16 < (6 : Int32)) (bCallV 6 l0 (fX6_readRope l0) (fun x17 => bRetZ x17)) (bGR 6 l0 0 (fun x18 => bCallV 4 x18 (fX4_refuseToken x18 (6 : Int32)) (fun x19 => bRetZ x19)))))))) (bGR 6 l0 1 (fun x20 => bGI 7 x20 7 (fun x21 => bIf (x21 < (8 : Int32)) (bCallV 6 l0 (fX6_readPerson l0) (fun x22 => bRetZ x22)) (bGR 6 l0 0 (fun x23 => bCallV 4 x23 (fX4_refuseToken x23 (6 : Int32)) (fun x24 => bRetZ x24))))))))) (bGI 6 l0 2 (fun x25 => bIf (x25 = 0) (bCallV 6 l0 (fX6_readWater l0) (fun x26 => bRetZ x26)) (bGR 6 l0 0 (fun x27 => bCallV 4 x27 (fX4_refuseToken x27 (5 : Int32)) (fun x28 => bRetZ x28)))))))
set_option maxRecDepth 20000 in
theorem rX6_readPart (v : mE) (d : Nat) (l0 : Nat) : Rz v RX6 cX6_readPart 1 (some .boolean) false emI (d + 9) 0 [(0, vR l0)] [] (fX6_readPart l0) := by
  unfold fX6_readPart
  refine rz_aload_n 1 0 dX6_readPart_0 rfl rfl ?_
  refine rz_gR 4 dX6_readPart_1 rfl rfl fl_X6_38 (fun x1 => ?_)
  refine rz_ldcS 6 19 dX6_readPart_4 rfl (by decide) rfl rfl ?_
  refine rz_callV 9 dX6_readPart_6 rfl (tX4_isWord v (d + 4) x1 19) rfl rfl rfl rfl ml_X6_66 im_X4_isWord se_X4_X4_isWord in_X4 co_X4_isWord rfl rfl (fun x2 => ?_)
  refine rz_if_eq 35 12 dX6_readPart_9 rfl rfl ?_ ?_
  · refine rz_aload_n 36 0 dX6_readPart_35 rfl rfl ?_
    refine rz_gR 39 dX6_readPart_36 rfl rfl fl_X6_38 (fun x3 => ?_)
    refine rz_ldcS 41 20 dX6_readPart_39 rfl (by decide) rfl rfl ?_
    refine rz_callV 44 dX6_readPart_41 rfl (tX4_isWord v (d + 4) x3 20) rfl rfl rfl rfl ml_X6_66 im_X4_isWord se_X4_X4_isWord in_X4 co_X4_isWord rfl rfl (fun x4 => ?_)
    refine rz_if_eq 76 47 dX6_readPart_44 rfl rfl ?_ ?_
    · refine rz_aload_n 77 0 dX6_readPart_76 rfl rfl ?_
      refine rz_gR 80 dX6_readPart_77 rfl rfl fl_X6_38 (fun x5 => ?_)
      refine rz_ldcS 82 21 dX6_readPart_80 rfl (by decide) rfl rfl ?_
      refine rz_callV 85 dX6_readPart_82 rfl (tX4_isWord v (d + 4) x5 21) rfl rfl rfl rfl ml_X6_66 im_X4_isWord se_X4_X4_isWord in_X4 co_X4_isWord rfl rfl (fun x6 => ?_)
      refine rz_if_eq 114 88 dX6_readPart_85 rfl rfl ?_ ?_
      · refine rz_aload_n 115 0 dX6_readPart_114 rfl rfl ?_
        refine rz_gR 118 dX6_readPart_115 rfl rfl fl_X6_38 (fun x7 => ?_)
        refine rz_ldcS 120 22 dX6_readPart_118 rfl (by decide) rfl rfl ?_
        refine rz_callV 123 dX6_readPart_120 rfl (tX4_isWord v (d + 4) x7 22) rfl rfl rfl rfl ml_X6_66 im_X4_isWord se_X4_X4_isWord in_X4 co_X4_isWord rfl rfl (fun x8 => ?_)
        refine rz_if_eq 154 126 dX6_readPart_123 rfl rfl ?_ ?_
        · refine rz_aload_n 155 0 dX6_readPart_154 rfl rfl ?_
          refine rz_gR 158 dX6_readPart_155 rfl rfl fl_X6_38 (fun x9 => ?_)
          refine rz_iconst 159 dX6_readPart_158 rfl ci_2 ?_
          refine rz_callV 162 dX6_readPart_159 rfl (tX4_refuseToken v (d + 8) x9 (2 : Int32)) rfl rfl rfl rfl ml_X6_70 im_X4_refuseToken se_X4_X4_refuseToken in_X4 co_X4_refuseToken rfl rfl (fun x10 => ?_)
          exact rz_zreturn rfl rfl dX6_readPart_162
        · refine rz_aload_n 127 0 dX6_readPart_126 rfl rfl ?_
          refine rz_gR 130 dX6_readPart_127 rfl rfl fl_X6_42 (fun x11 => ?_)
          refine rz_gI 133 dX6_readPart_130 rfl rfl fl_X6_92 (fun x12 => ?_)
          refine rz_iconst 134 dX6_readPart_133 rfl ci_4 ?_
          refine rz_icmp_lt 149 137 dX6_readPart_134 rfl rfl ?_ ?_
          · refine rz_aload_n 150 0 dX6_readPart_149 rfl rfl ?_
            refine rz_callV 153 dX6_readPart_150 rfl (tX6_readFlood v (d + 2) l0) rfl rfl rfl rfl ml_X6_95 im_X6_readFlood se_X6_X6_readFlood in_X6 co_X6_readFlood rfl rfl (fun x13 => ?_)
            exact rz_zreturn rfl rfl dX6_readPart_153
          · refine rz_aload_n 138 0 dX6_readPart_137 rfl rfl ?_
            refine rz_gR 141 dX6_readPart_138 rfl rfl fl_X6_38 (fun x14 => ?_)
            refine rz_bipush 143 dX6_readPart_141 rfl cb_6 ?_
            refine rz_callV 146 dX6_readPart_143 rfl (tX4_refuseToken v (d + 8) x14 (6 : Int32)) rfl rfl rfl rfl ml_X6_70 im_X4_refuseToken se_X4_X4_refuseToken in_X4 co_X4_refuseToken rfl rfl (fun x15 => ?_)
            refine rz_goto 153 dX6_readPart_146 rfl ?_
            exact rz_zreturn rfl rfl dX6_readPart_153
      · refine rz_aload_n 89 0 dX6_readPart_88 rfl rfl ?_
        refine rz_gI 92 dX6_readPart_89 rfl rfl fl_X6_15 (fun x16 => ?_)
        refine rz_bipush 94 dX6_readPart_92 rfl cb_6 ?_
        refine rz_icmp_lt 109 97 dX6_readPart_94 rfl rfl ?_ ?_
        · refine rz_aload_n 110 0 dX6_readPart_109 rfl rfl ?_
          refine rz_callV 113 dX6_readPart_110 rfl (tX6_readRope v (d + 0) l0) rfl rfl rfl rfl ml_X6_87 im_X6_readRope se_X6_X6_readRope in_X6 co_X6_readRope rfl rfl (fun x17 => ?_)
          exact rz_zreturn rfl rfl dX6_readPart_113
        · refine rz_aload_n 98 0 dX6_readPart_97 rfl rfl ?_
          refine rz_gR 101 dX6_readPart_98 rfl rfl fl_X6_38 (fun x18 => ?_)
          refine rz_bipush 103 dX6_readPart_101 rfl cb_6 ?_
          refine rz_callV 106 dX6_readPart_103 rfl (tX4_refuseToken v (d + 8) x18 (6 : Int32)) rfl rfl rfl rfl ml_X6_70 im_X4_refuseToken se_X4_X4_refuseToken in_X4 co_X4_refuseToken rfl rfl (fun x19 => ?_)
          refine rz_goto 113 dX6_readPart_106 rfl ?_
          exact rz_zreturn rfl rfl dX6_readPart_113
    · refine rz_aload_n 48 0 dX6_readPart_47 rfl rfl ?_
      refine rz_gR 51 dX6_readPart_48 rfl rfl fl_X6_42 (fun x20 => ?_)
      refine rz_gI 54 dX6_readPart_51 rfl rfl fl_X6_79 (fun x21 => ?_)
      refine rz_bipush 56 dX6_readPart_54 rfl cb_8 ?_
      refine rz_icmp_lt 71 59 dX6_readPart_56 rfl rfl ?_ ?_
      · refine rz_aload_n 72 0 dX6_readPart_71 rfl rfl ?_
        refine rz_callV 75 dX6_readPart_72 rfl (tX6_readPerson v (d + 0) l0) rfl rfl rfl rfl ml_X6_82 im_X6_readPerson se_X6_X6_readPerson in_X6 co_X6_readPerson rfl rfl (fun x22 => ?_)
        exact rz_zreturn rfl rfl dX6_readPart_75
      · refine rz_aload_n 60 0 dX6_readPart_59 rfl rfl ?_
        refine rz_gR 63 dX6_readPart_60 rfl rfl fl_X6_38 (fun x23 => ?_)
        refine rz_bipush 65 dX6_readPart_63 rfl cb_6 ?_
        refine rz_callV 68 dX6_readPart_65 rfl (tX4_refuseToken v (d + 8) x23 (6 : Int32)) rfl rfl rfl rfl ml_X6_70 im_X4_refuseToken se_X4_X4_refuseToken in_X4 co_X4_refuseToken rfl rfl (fun x24 => ?_)
        refine rz_goto 75 dX6_readPart_68 rfl ?_
        exact rz_zreturn rfl rfl dX6_readPart_75
  · refine rz_aload_n 13 0 dX6_readPart_12 rfl rfl ?_
    refine rz_gI 16 dX6_readPart_13 rfl rfl fl_X6_11 (fun x25 => ?_)
    refine rz_if_eq 30 19 dX6_readPart_16 rfl rfl ?_ ?_
    · refine rz_aload_n 31 0 dX6_readPart_30 rfl rfl ?_
      refine rz_callV 34 dX6_readPart_31 rfl (tX6_readWater v (d + 1) l0) rfl rfl rfl rfl ml_X6_74 im_X6_readWater se_X6_X6_readWater in_X6 co_X6_readWater rfl rfl (fun x26 => ?_)
      exact rz_zreturn rfl rfl dX6_readPart_34
    · refine rz_aload_n 20 0 dX6_readPart_19 rfl rfl ?_
      refine rz_gR 23 dX6_readPart_20 rfl rfl fl_X6_38 (fun x27 => ?_)
      refine rz_iconst 24 dX6_readPart_23 rfl ci_5 ?_
      refine rz_callV 27 dX6_readPart_24 rfl (tX4_refuseToken v (d + 8) x27 (5 : Int32)) rfl rfl rfl rfl ml_X6_70 im_X4_refuseToken se_X4_X4_refuseToken in_X4 co_X4_refuseToken rfl rfl (fun x28 => ?_)
      refine rz_goto 34 dX6_readPart_27 rfl ?_
      exact rz_zreturn rfl rfl dX6_readPart_34
theorem tX6_readPart (v : mE) (d : Nat) (l0 : Nat) : Mt v yX6_readPart cX6_readPart 1 (some .boolean) emI (d + 9) [vR l0] (fX6_readPart l0) := mt_of rfl rfl (fun h => by cases h) rfl rfl (rX6_readPart v d l0)
theorem dX6_readWell_0 : decode cX6_readWell 0 = .ok (.aload_n 0, 1) := by decide +kernel
theorem dX6_readWell_1 : decode cX6_readWell 1 = .ok (.getfield 42, 3) := by decide +kernel
theorem dX6_readWell_4 : decode cX6_readWell 4 = .ok (.invokevirtual 46, 3) := by decide +kernel
theorem dX6_readWell_7 : decode cX6_readWell 7 = .ok (.aload_n 0, 1) := by decide +kernel
theorem dX6_readWell_8 : decode cX6_readWell 8 = .ok (.iconst 0, 1) := by decide +kernel
theorem dX6_readWell_9 : decode cX6_readWell 9 = .ok (.putfield 11, 3) := by decide +kernel
theorem dX6_readWell_12 : decode cX6_readWell 12 = .ok (.aload_n 0, 1) := by decide +kernel
theorem dX6_readWell_13 : decode cX6_readWell 13 = .ok (.iconst 0, 1) := by decide +kernel
theorem dX6_readWell_14 : decode cX6_readWell 14 = .ok (.putfield 15, 3) := by decide +kernel
theorem dX6_readWell_17 : decode cX6_readWell 17 = .ok (.aload_n 0, 1) := by decide +kernel
theorem dX6_readWell_18 : decode cX6_readWell 18 = .ok (.iconst 0, 1) := by decide +kernel
theorem dX6_readWell_19 : decode cX6_readWell 19 = .ok (.putfield 19, 3) := by decide +kernel
theorem dX6_readWell_22 : decode cX6_readWell 22 = .ok (.aload_n 0, 1) := by decide +kernel
theorem dX6_readWell_23 : decode cX6_readWell 23 = .ok (.getfield 38, 3) := by decide +kernel
theorem dX6_readWell_26 : decode cX6_readWell 26 = .ok (.iload_n 1, 1) := by decide +kernel
theorem dX6_readWell_27 : decode cX6_readWell 27 = .ok (.invokevirtual 51, 3) := by decide +kernel
theorem dX6_readWell_30 : decode cX6_readWell 30 = .ok (.iconst 1, 1) := by decide +kernel
theorem dX6_readWell_31 : decode cX6_readWell 31 = .ok (.istore_n 2, 1) := by decide +kernel
theorem dX6_readWell_32 : decode cX6_readWell 32 = .ok (.iconst 0, 1) := by decide +kernel
theorem dX6_readWell_33 : decode cX6_readWell 33 = .ok (.istore_n 3, 1) := by decide +kernel
theorem dX6_readWell_34 : decode cX6_readWell 34 = .ok (.iload_n 3, 1) := by decide +kernel
theorem dX6_readWell_35 : decode cX6_readWell 35 = .ok (.sipush 900, 3) := by decide +kernel
theorem dX6_readWell_38 : decode cX6_readWell 38 = .ok (.if_icmp .ge 28, 3) := by decide +kernel
theorem dX6_readWell_41 : decode cX6_readWell 41 = .ok (.iload_n 2, 1) := by decide +kernel
theorem dX6_readWell_42 : decode cX6_readWell 42 = .ok (.ifCond .eq 24, 3) := by decide +kernel
theorem dX6_readWell_45 : decode cX6_readWell 45 = .ok (.aload_n 0, 1) := by decide +kernel
theorem dX6_readWell_46 : decode cX6_readWell 46 = .ok (.getfield 38, 3) := by decide +kernel
theorem dX6_readWell_49 : decode cX6_readWell 49 = .ok (.getfield 57, 3) := by decide +kernel
theorem dX6_readWell_52 : decode cX6_readWell 52 = .ok (.ifCond .eq 14, 3) := by decide +kernel
theorem dX6_readWell_55 : decode cX6_readWell 55 = .ok (.aload_n 0, 1) := by decide +kernel
theorem dX6_readWell_56 : decode cX6_readWell 56 = .ok (.invokevirtual 60, 3) := by decide +kernel
theorem dX6_readWell_59 : decode cX6_readWell 59 = .ok (.istore_n 2, 1) := by decide +kernel
theorem dX6_readWell_60 : decode cX6_readWell 60 = .ok (.iinc 3 1, 3) := by decide +kernel
theorem dX6_readWell_63 : decode cX6_readWell 63 = .ok (.goto (-29), 3) := by decide +kernel
theorem dX6_readWell_66 : decode cX6_readWell 66 = .ok (.iload_n 2, 1) := by decide +kernel
theorem dX6_readWell_67 : decode cX6_readWell 67 = .ok (.ireturn, 1) := by decide +kernel
def fX6_readWell_34 : Nat → Nat → Int32 → Int32 → mM Int32
  | 0 => fun _ _ _ => fun _ => none
  | n + 1 => fun l0 l2 l3 => let r34 := fX6_readWell_34 n; bIf ((900 : Int32) ≤ l3) (bRetZ l2) (bIf (l2 = 0) (bRetZ l2) (bGR 6 l0 0 (fun x1 => bGI 4 x1 2 (fun x2 => bIf (x2 = 0) (bRetZ l2) (bCallV 6 l0 (fX6_readPart l0) (fun x3 => r34 l0 x3 (l3 + 1)))))))
theorem qX6_readWell_34  (n : Nat) (l0 : Nat) (l2 : Int32) (l3 : Int32) : fX6_readWell_34 (n + 1) l0 l2 l3 = bIf ((900 : Int32) ≤ l3) (bRetZ l2) (bIf (l2 = 0) (bRetZ l2) (bGR 6 l0 0 (fun x1 => bGI 4 x1 2 (fun x2 => bIf (x2 = 0) (bRetZ l2) (bCallV 6 l0 (fX6_readPart l0) (fun x3 => (fX6_readWell_34 n) l0 x3 (l3 + 1))))))) := rfl
set_option maxRecDepth 20000 in
theorem rX6_readWell_34 (v : mE) (d : Nat) : ∀ (n : Nat) (l0 : Nat) (l2 : Int32) (l3 : Int32), Rz v RX6 cX6_readWell 4 (some .boolean) false emI (d + 10) 34 [(0, vR l0), (2, vI l2), (3, vI l3)] [] (fX6_readWell_34 n l0 l2 l3)
  | 0, _, _, _ => fun _ _ _ hm => by cases hm
  | n + 1, l0, l2, l3 => by
    have h34 := rX6_readWell_34 v d n
    unfold fX6_readWell_34
    generalize fX6_readWell_34 n = r34 at h34 ⊢
    refine rz_iload_n 35 2 dX6_readWell_34 rfl rfl ?_
    refine rz_sipush 38 dX6_readWell_35 rfl cs_900 ?_
    refine rz_icmp_ge 66 41 dX6_readWell_38 rfl rfl ?_ ?_
    · refine rz_iload_n 67 1 dX6_readWell_66 rfl rfl ?_
      exact rz_zreturn rfl rfl dX6_readWell_67
    · refine rz_iload_n 42 1 dX6_readWell_41 rfl rfl ?_
      refine rz_if_eq 66 45 dX6_readWell_42 rfl rfl ?_ ?_
      · refine rz_iload_n 67 1 dX6_readWell_66 rfl rfl ?_
        exact rz_zreturn rfl rfl dX6_readWell_67
      · refine rz_aload_n 46 0 dX6_readWell_45 rfl rfl ?_
        refine rz_gR 49 dX6_readWell_46 rfl rfl fl_X6_38 (fun x1 => ?_)
        refine rz_gI 52 dX6_readWell_49 rfl rfl fl_X6_57 (fun x2 => ?_)
        refine rz_if_eq 66 55 dX6_readWell_52 rfl rfl ?_ ?_
        · refine rz_iload_n 67 1 dX6_readWell_66 rfl rfl ?_
          exact rz_zreturn rfl rfl dX6_readWell_67
        · refine rz_aload_n 56 0 dX6_readWell_55 rfl rfl ?_
          refine rz_callV 59 dX6_readWell_56 rfl (tX6_readPart v (d + 0) l0) rfl rfl rfl rfl ml_X6_60 im_X6_readPart se_X6_X6_readPart in_X6 co_X6_readPart rfl rfl (fun x3 => ?_)
          refine rz_istore_n (lv' := [(2, vI x3), (0, vR l0), (3, vI l3)]) 60 dX6_readWell_59 rfl rfl rfl ?_
          refine rz_iinc (lv' := [(3, vI (l3 + 1)), (2, vI x3), (0, vR l0)]) 63 2 dX6_readWell_60 rfl rfl (cn_1 _) rfl rfl ?_
          refine rz_goto 34 dX6_readWell_63 rfl ?_
          exact rz_sub [2, 1, 0] rfl (h34 l0 x3 (l3 + 1))
def fX6_readWell (l0 : Nat) (l1 : Int32) : mM Int32 := bGR 6 l0 1 (fun x1 => bCallV 7 x1 (fX7_clear x1) (fun _ => bPZ 6 l0 2 (0 : Int32) (bPI 6 l0 3 (0 : Int32) (bPI 6 l0 4 (0 : Int32) (bGR 6 l0 0 (fun x2 => bCallV 4 x2 (fX4_open x2 l1) (fun _ => fX6_readWell_34 fu l0 (1 : Int32) (0 : Int32))))))))
set_option maxRecDepth 20000 in
theorem rX6_readWell (v : mE) (d : Nat) (l0 : Nat) (l1 : Int32) : Rz v RX6 cX6_readWell 4 (some .boolean) false emI (d + 10) 0 [(0, vR l0), (1, vI l1)] [] (fX6_readWell l0 l1) := by
  unfold fX6_readWell
  refine rz_aload_n 1 0 dX6_readWell_0 rfl rfl ?_
  refine rz_gR 4 dX6_readWell_1 rfl rfl fl_X6_42 (fun x1 => ?_)
  refine rz_callV 7 dX6_readWell_4 rfl (tX7_clear v (d + 8) x1) rfl rfl rfl rfl ml_X6_46 im_X7_clear se_X7_X7_clear in_X7 co_X7_clear rfl rfl (fun _ => ?_)
  refine rz_aload_n 8 0 dX6_readWell_7 rfl rfl ?_
  refine rz_iconst 9 dX6_readWell_8 rfl ci_0 ?_
  refine rz_pZ 12 dX6_readWell_9 rfl rfl rfl rfl fl_X6_11 ?_
  refine rz_aload_n 13 0 dX6_readWell_12 rfl rfl ?_
  refine rz_iconst 14 dX6_readWell_13 rfl ci_0 ?_
  refine rz_pI 17 dX6_readWell_14 rfl rfl rfl rfl fl_X6_15 ?_
  refine rz_aload_n 18 0 dX6_readWell_17 rfl rfl ?_
  refine rz_iconst 19 dX6_readWell_18 rfl ci_0 ?_
  refine rz_pI 22 dX6_readWell_19 rfl rfl rfl rfl fl_X6_19 ?_
  refine rz_aload_n 23 0 dX6_readWell_22 rfl rfl ?_
  refine rz_gR 26 dX6_readWell_23 rfl rfl fl_X6_38 (fun x2 => ?_)
  refine rz_iload_n 27 1 dX6_readWell_26 rfl rfl ?_
  refine rz_callV 30 dX6_readWell_27 rfl (tX4_open v (d + 4) x2 l1) rfl rfl rfl rfl ml_X6_51 im_X4_open se_X4_X4_open in_X4 co_X4_open rfl rfl (fun _ => ?_)
  refine rz_iconst 31 dX6_readWell_30 rfl ci_1 ?_
  refine rz_istore_n (lv' := [(2, vI (1 : Int32)), (0, vR l0), (1, vI l1)]) 32 dX6_readWell_31 rfl rfl rfl ?_
  refine rz_iconst 33 dX6_readWell_32 rfl ci_0 ?_
  refine rz_istore_n (lv' := [(3, vI (0 : Int32)), (2, vI (1 : Int32)), (0, vR l0), (1, vI l1)]) 34 dX6_readWell_33 rfl rfl rfl ?_
  exact rz_sub [2, 1, 0] rfl (rX6_readWell_34 v d fu l0 (1 : Int32) (0 : Int32))
theorem tX6_readWell (v : mE) (d : Nat) (l0 : Nat) (l1 : Int32) : Mt v yX6_readWell cX6_readWell 4 (some .boolean) emI (d + 10) [vR l0, vI l1] (fX6_readWell l0 l1) := mt_of rfl rfl (fun h => by cases h) rfl rfl (rX6_readWell v d l0 l1)

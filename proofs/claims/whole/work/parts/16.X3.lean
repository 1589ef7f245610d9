theorem dX3_init_0 : decode cX3_init 0 = .ok (.aload_n 0, 1) := by decide +kernel
theorem dX3_init_1 : decode cX3_init 1 = .ok (.invokespecial 3, 3) := by decide +kernel
theorem dX3_init_4 : decode cX3_init 4 = .ok (.aload_n 0, 1) := by decide +kernel
theorem dX3_init_5 : decode cX3_init 5 = .ok (.iconst (-1), 1) := by decide +kernel
theorem dX3_init_6 : decode cX3_init 6 = .ok (.putfield 9, 3) := by decide +kernel
theorem dX3_init_9 : decode cX3_init 9 = .ok (.aload_n 0, 1) := by decide +kernel
theorem dX3_init_10 : decode cX3_init 10 = .ok (.iconst (-1), 1) := by decide +kernel
theorem dX3_init_11 : decode cX3_init 11 = .ok (.putfield 15, 3) := by decide +kernel
theorem dX3_init_14 : decode cX3_init 14 = .ok (.aload_n 0, 1) := by decide +kernel
theorem dX3_init_15 : decode cX3_init 15 = .ok (.iconst 0, 1) := by decide +kernel
theorem dX3_init_16 : decode cX3_init 16 = .ok (.putfield 18, 3) := by decide +kernel
theorem dX3_init_19 : decode cX3_init 19 = .ok (.aload_n 0, 1) := by decide +kernel
theorem dX3_init_20 : decode cX3_init 20 = .ok (.iconst 0, 1) := by decide +kernel
theorem dX3_init_21 : decode cX3_init 21 = .ok (.putfield 21, 3) := by decide +kernel
theorem dX3_init_24 : decode cX3_init 24 = .ok (.aload_n 0, 1) := by decide +kernel
theorem dX3_init_25 : decode cX3_init 25 = .ok (.iconst 0, 1) := by decide +kernel
theorem dX3_init_26 : decode cX3_init 26 = .ok (.putfield 24, 3) := by decide +kernel
theorem dX3_init_29 : decode cX3_init 29 = .ok (.aload_n 0, 1) := by decide +kernel
theorem dX3_init_30 : decode cX3_init 30 = .ok (.iconst 0, 1) := by decide +kernel
theorem dX3_init_31 : decode cX3_init 31 = .ok (.putfield 28, 3) := by decide +kernel
theorem dX3_init_34 : decode cX3_init 34 = .ok (.aload_n 0, 1) := by decide +kernel
theorem dX3_init_35 : decode cX3_init 35 = .ok (.bipush 8, 2) := by decide +kernel
theorem dX3_init_37 : decode cX3_init 37 = .ok (.newarray .int, 2) := by decide +kernel
theorem dX3_init_39 : decode cX3_init 39 = .ok (.putfield 31, 3) := by decide +kernel
theorem dX3_init_42 : decode cX3_init 42 = .ok (.aload_n 0, 1) := by decide +kernel
theorem dX3_init_43 : decode cX3_init 43 = .ok (.bipush 8, 2) := by decide +kernel
theorem dX3_init_45 : decode cX3_init 45 = .ok (.newarray .int, 2) := by decide +kernel
theorem dX3_init_47 : decode cX3_init 47 = .ok (.putfield 35, 3) := by decide +kernel
theorem dX3_init_50 : decode cX3_init 50 = .ok (.return_, 1) := by decide +kernel
def fX3_init (l0 : Nat) : mM Unit := bObj l0 (bPI 3 l0 0 (-1 : Int32) (bPI 3 l0 1 (-1 : Int32) (bPI 3 l0 2 (0 : Int32) (bPI 3 l0 3 (0 : Int32) (bPZ 3 l0 4 (0 : Int32) (bPI 3 l0 5 (0 : Int32) (bNa 11 (8 : Int32) (fun x1 => bPR 3 l0 6 x1 (bNa 11 (8 : Int32) (fun x2 => bPR 3 l0 7 x2 (bRet ())))))))))))
set_option maxRecDepth 20000 in
theorem rX3_init (v : mE) (d : Nat) (l0 : Nat) : Rz v RX3 cX3_init 1 none true emU (d + 1) 0 [(0, vR l0)] [] (fX3_init l0) := by
  unfold fX3_init
  refine rz_aload_n 1 0 dX3_init_0 rfl rfl ?_
  refine rz_obj 4 dX3_init_1 rfl ml_X3_3 im_java_lang_Object__init____V co_java_lang_Object__init____V rfl rfl ?_
  refine rz_aload_n 5 0 dX3_init_4 rfl rfl ?_
  refine rz_iconst 6 dX3_init_5 rfl ci_m1 ?_
  refine rz_pI 9 dX3_init_6 rfl rfl rfl rfl fl_X3_9 ?_
  refine rz_aload_n 10 0 dX3_init_9 rfl rfl ?_
  refine rz_iconst 11 dX3_init_10 rfl ci_m1 ?_
  refine rz_pI 14 dX3_init_11 rfl rfl rfl rfl fl_X3_15 ?_
  refine rz_aload_n 15 0 dX3_init_14 rfl rfl ?_
  refine rz_iconst 16 dX3_init_15 rfl ci_0 ?_
  refine rz_pI 19 dX3_init_16 rfl rfl rfl rfl fl_X3_18 ?_
  refine rz_aload_n 20 0 dX3_init_19 rfl rfl ?_
  refine rz_iconst 21 dX3_init_20 rfl ci_0 ?_
  refine rz_pI 24 dX3_init_21 rfl rfl rfl rfl fl_X3_21 ?_
  refine rz_aload_n 25 0 dX3_init_24 rfl rfl ?_
  refine rz_iconst 26 dX3_init_25 rfl ci_0 ?_
  refine rz_pZ 29 dX3_init_26 rfl rfl rfl rfl fl_X3_24 ?_
  refine rz_aload_n 30 0 dX3_init_29 rfl rfl ?_
  refine rz_iconst 31 dX3_init_30 rfl ci_0 ?_
  refine rz_pI 34 dX3_init_31 rfl rfl rfl rfl fl_X3_28 ?_
  refine rz_aload_n 35 0 dX3_init_34 rfl rfl ?_
  refine rz_bipush 37 dX3_init_35 rfl cb_8 ?_
  refine rz_newa 39 dX3_init_37 rfl (by decide) ac_int (fun x1 => ?_)
  refine rz_pR 42 dX3_init_39 rfl rfl rfl fl_X3_31 ?_
  refine rz_aload_n 43 0 dX3_init_42 rfl rfl ?_
  refine rz_bipush 45 dX3_init_43 rfl cb_8 ?_
  refine rz_newa 47 dX3_init_45 rfl (by decide) ac_int (fun x2 => ?_)
  refine rz_pR 50 dX3_init_47 rfl rfl rfl fl_X3_35 ?_
  exact rz_return rfl rfl dX3_init_50
theorem tX3_init (v : mE) (d : Nat) (l0 : Nat) : Mt v yX3_init cX3_init 1 none emU (d + 1) [vR l0] (fX3_init l0) := mt_of rfl rfl (fun _ => rfl) rfl rfl (rX3_init v d l0)
theorem dX3_copyFrom_0 : decode cX3_copyFrom 0 = .ok (.aload_n 0, 1) := by decide +kernel
theorem dX3_copyFrom_1 : decode cX3_copyFrom 1 = .ok (.aload_n 1, 1) := by decide +kernel
theorem dX3_copyFrom_2 : decode cX3_copyFrom 2 = .ok (.getfield 9, 3) := by decide +kernel
theorem dX3_copyFrom_5 : decode cX3_copyFrom 5 = .ok (.putfield 9, 3) := by decide +kernel
theorem dX3_copyFrom_8 : decode cX3_copyFrom 8 = .ok (.aload_n 0, 1) := by decide +kernel
theorem dX3_copyFrom_9 : decode cX3_copyFrom 9 = .ok (.aload_n 1, 1) := by decide +kernel
theorem dX3_copyFrom_10 : decode cX3_copyFrom 10 = .ok (.getfield 15, 3) := by decide +kernel
theorem dX3_copyFrom_13 : decode cX3_copyFrom 13 = .ok (.putfield 15, 3) := by decide +kernel
theorem dX3_copyFrom_16 : decode cX3_copyFrom 16 = .ok (.aload_n 0, 1) := by decide +kernel
theorem dX3_copyFrom_17 : decode cX3_copyFrom 17 = .ok (.aload_n 1, 1) := by decide +kernel
theorem dX3_copyFrom_18 : decode cX3_copyFrom 18 = .ok (.getfield 18, 3) := by decide +kernel
theorem dX3_copyFrom_21 : decode cX3_copyFrom 21 = .ok (.putfield 18, 3) := by decide +kernel
theorem dX3_copyFrom_24 : decode cX3_copyFrom 24 = .ok (.aload_n 0, 1) := by decide +kernel
theorem dX3_copyFrom_25 : decode cX3_copyFrom 25 = .ok (.aload_n 1, 1) := by decide +kernel
theorem dX3_copyFrom_26 : decode cX3_copyFrom 26 = .ok (.getfield 21, 3) := by decide +kernel
theorem dX3_copyFrom_29 : decode cX3_copyFrom 29 = .ok (.putfield 21, 3) := by decide +kernel
theorem dX3_copyFrom_32 : decode cX3_copyFrom 32 = .ok (.aload_n 0, 1) := by decide +kernel
theorem dX3_copyFrom_33 : decode cX3_copyFrom 33 = .ok (.aload_n 1, 1) := by decide +kernel
theorem dX3_copyFrom_34 : decode cX3_copyFrom 34 = .ok (.getfield 24, 3) := by decide +kernel
theorem dX3_copyFrom_37 : decode cX3_copyFrom 37 = .ok (.putfield 24, 3) := by decide +kernel
theorem dX3_copyFrom_40 : decode cX3_copyFrom 40 = .ok (.aload_n 0, 1) := by decide +kernel
theorem dX3_copyFrom_41 : decode cX3_copyFrom 41 = .ok (.aload_n 1, 1) := by decide +kernel
theorem dX3_copyFrom_42 : decode cX3_copyFrom 42 = .ok (.getfield 28, 3) := by decide +kernel
theorem dX3_copyFrom_45 : decode cX3_copyFrom 45 = .ok (.putfield 28, 3) := by decide +kernel
theorem dX3_copyFrom_48 : decode cX3_copyFrom 48 = .ok (.aload_n 1, 1) := by decide +kernel
theorem dX3_copyFrom_49 : decode cX3_copyFrom 49 = .ok (.getfield 31, 3) := by decide +kernel
theorem dX3_copyFrom_52 : decode cX3_copyFrom 52 = .ok (.iconst 0, 1) := by decide +kernel
theorem dX3_copyFrom_53 : decode cX3_copyFrom 53 = .ok (.aload_n 0, 1) := by decide +kernel
theorem dX3_copyFrom_54 : decode cX3_copyFrom 54 = .ok (.getfield 31, 3) := by decide +kernel
theorem dX3_copyFrom_57 : decode cX3_copyFrom 57 = .ok (.iconst 0, 1) := by decide +kernel
theorem dX3_copyFrom_58 : decode cX3_copyFrom 58 = .ok (.bipush 8, 2) := by decide +kernel
theorem dX3_copyFrom_60 : decode cX3_copyFrom 60 = .ok (.invokestatic 38, 3) := by decide +kernel
theorem dX3_copyFrom_63 : decode cX3_copyFrom 63 = .ok (.aload_n 1, 1) := by decide +kernel
theorem dX3_copyFrom_64 : decode cX3_copyFrom 64 = .ok (.getfield 35, 3) := by decide +kernel
theorem dX3_copyFrom_67 : decode cX3_copyFrom 67 = .ok (.iconst 0, 1) := by decide +kernel
theorem dX3_copyFrom_68 : decode cX3_copyFrom 68 = .ok (.aload_n 0, 1) := by decide +kernel
theorem dX3_copyFrom_69 : decode cX3_copyFrom 69 = .ok (.getfield 35, 3) := by decide +kernel
theorem dX3_copyFrom_72 : decode cX3_copyFrom 72 = .ok (.iconst 0, 1) := by decide +kernel
theorem dX3_copyFrom_73 : decode cX3_copyFrom 73 = .ok (.bipush 8, 2) := by decide +kernel
theorem dX3_copyFrom_75 : decode cX3_copyFrom 75 = .ok (.invokestatic 38, 3) := by decide +kernel
theorem dX3_copyFrom_78 : decode cX3_copyFrom 78 = .ok (.return_, 1) := by decide +kernel
def fX3_copyFrom (l0 : Nat) (l1 : Nat) : mM Unit := bGI 3 l1 0 (fun x1 => bPI 3 l0 0 x1 (bGI 3 l1 1 (fun x2 => bPI 3 l0 1 x2 (bGI 3 l1 2 (fun x3 => bPI 3 l0 2 x3 (bGI 3 l1 3 (fun x4 => bPI 3 l0 3 x4 (bGI 3 l1 4 (fun x5 => bPZ 3 l0 4 x5 (bGI 3 l1 5 (fun x6 => bPI 3 l0 5 x6 (bGR 3 l1 6 (fun x7 => bGR 3 l0 6 (fun x8 => bCpI x7 (0 : Int32) x8 (0 : Int32) (8 : Int32) (bGR 3 l1 7 (fun x9 => bGR 3 l0 7 (fun x10 => bCpI x9 (0 : Int32) x10 (0 : Int32) (8 : Int32) (bRet ()))))))))))))))))))
set_option maxRecDepth 20000 in
theorem rX3_copyFrom (v : mE) (d : Nat) (l0 : Nat) (l1 : Nat) : Rz v RX3 cX3_copyFrom 2 none false emU (d + 1) 0 [(0, vR l0), (1, vR l1)] [] (fX3_copyFrom l0 l1) := by
  unfold fX3_copyFrom
  refine rz_aload_n 1 0 dX3_copyFrom_0 rfl rfl ?_
  refine rz_aload_n 2 1 dX3_copyFrom_1 rfl rfl ?_
  refine rz_gI 5 dX3_copyFrom_2 rfl rfl fl_X3_9 (fun x1 => ?_)
  refine rz_pI 8 dX3_copyFrom_5 rfl rfl rfl rfl fl_X3_9 ?_
  refine rz_aload_n 9 0 dX3_copyFrom_8 rfl rfl ?_
  refine rz_aload_n 10 1 dX3_copyFrom_9 rfl rfl ?_
  refine rz_gI 13 dX3_copyFrom_10 rfl rfl fl_X3_15 (fun x2 => ?_)
  refine rz_pI 16 dX3_copyFrom_13 rfl rfl rfl rfl fl_X3_15 ?_
  refine rz_aload_n 17 0 dX3_copyFrom_16 rfl rfl ?_
  refine rz_aload_n 18 1 dX3_copyFrom_17 rfl rfl ?_
  refine rz_gI 21 dX3_copyFrom_18 rfl rfl fl_X3_18 (fun x3 => ?_)
  refine rz_pI 24 dX3_copyFrom_21 rfl rfl rfl rfl fl_X3_18 ?_
  refine rz_aload_n 25 0 dX3_copyFrom_24 rfl rfl ?_
  refine rz_aload_n 26 1 dX3_copyFrom_25 rfl rfl ?_
  refine rz_gI 29 dX3_copyFrom_26 rfl rfl fl_X3_21 (fun x4 => ?_)
  refine rz_pI 32 dX3_copyFrom_29 rfl rfl rfl rfl fl_X3_21 ?_
  refine rz_aload_n 33 0 dX3_copyFrom_32 rfl rfl ?_
  refine rz_aload_n 34 1 dX3_copyFrom_33 rfl rfl ?_
  refine rz_gI 37 dX3_copyFrom_34 rfl rfl fl_X3_24 (fun x5 => ?_)
  refine rz_pZ 40 dX3_copyFrom_37 rfl rfl rfl rfl fl_X3_24 ?_
  refine rz_aload_n 41 0 dX3_copyFrom_40 rfl rfl ?_
  refine rz_aload_n 42 1 dX3_copyFrom_41 rfl rfl ?_
  refine rz_gI 45 dX3_copyFrom_42 rfl rfl fl_X3_28 (fun x6 => ?_)
  refine rz_pI 48 dX3_copyFrom_45 rfl rfl rfl rfl fl_X3_28 ?_
  refine rz_aload_n 49 1 dX3_copyFrom_48 rfl rfl ?_
  refine rz_gR 52 dX3_copyFrom_49 rfl rfl fl_X3_31 (fun x7 => ?_)
  refine rz_iconst 53 dX3_copyFrom_52 rfl ci_0 ?_
  refine rz_aload_n 54 0 dX3_copyFrom_53 rfl rfl ?_
  refine rz_gR 57 dX3_copyFrom_54 rfl rfl fl_X3_31 (fun x8 => ?_)
  refine rz_iconst 58 dX3_copyFrom_57 rfl ci_0 ?_
  refine rz_bipush 60 dX3_copyFrom_58 rfl cb_8 ?_
  refine rz_copyI 63 dX3_copyFrom_60 rfl ml_X3_38 rfl rfl ?_
  refine rz_aload_n 64 1 dX3_copyFrom_63 rfl rfl ?_
  refine rz_gR 67 dX3_copyFrom_64 rfl rfl fl_X3_35 (fun x9 => ?_)
  refine rz_iconst 68 dX3_copyFrom_67 rfl ci_0 ?_
  refine rz_aload_n 69 0 dX3_copyFrom_68 rfl rfl ?_
  refine rz_gR 72 dX3_copyFrom_69 rfl rfl fl_X3_35 (fun x10 => ?_)
  refine rz_iconst 73 dX3_copyFrom_72 rfl ci_0 ?_
  refine rz_bipush 75 dX3_copyFrom_73 rfl cb_8 ?_
  refine rz_copyI 78 dX3_copyFrom_75 rfl ml_X3_38 rfl rfl ?_
  exact rz_return rfl rfl dX3_copyFrom_78
theorem tX3_copyFrom (v : mE) (d : Nat) (l0 : Nat) (l1 : Nat) : Mt v yX3_copyFrom cX3_copyFrom 2 none emU (d + 1) [vR l0, vR l1] (fX3_copyFrom l0 l1) := mt_of rfl rfl (fun h => by cases h) rfl rfl (rX3_copyFrom v d l0 l1)
theorem dX3_clear_0 : decode cX3_clear 0 = .ok (.aload_n 0, 1) := by decide +kernel
theorem dX3_clear_1 : decode cX3_clear 1 = .ok (.iconst (-1), 1) := by decide +kernel
theorem dX3_clear_2 : decode cX3_clear 2 = .ok (.putfield 9, 3) := by decide +kernel
theorem dX3_clear_5 : decode cX3_clear 5 = .ok (.aload_n 0, 1) := by decide +kernel
theorem dX3_clear_6 : decode cX3_clear 6 = .ok (.iconst (-1), 1) := by decide +kernel
theorem dX3_clear_7 : decode cX3_clear 7 = .ok (.putfield 15, 3) := by decide +kernel
theorem dX3_clear_10 : decode cX3_clear 10 = .ok (.aload_n 0, 1) := by decide +kernel
theorem dX3_clear_11 : decode cX3_clear 11 = .ok (.iconst 0, 1) := by decide +kernel
theorem dX3_clear_12 : decode cX3_clear 12 = .ok (.putfield 18, 3) := by decide +kernel
theorem dX3_clear_15 : decode cX3_clear 15 = .ok (.aload_n 0, 1) := by decide +kernel
theorem dX3_clear_16 : decode cX3_clear 16 = .ok (.iconst 0, 1) := by decide +kernel
theorem dX3_clear_17 : decode cX3_clear 17 = .ok (.putfield 21, 3) := by decide +kernel
theorem dX3_clear_20 : decode cX3_clear 20 = .ok (.aload_n 0, 1) := by decide +kernel
theorem dX3_clear_21 : decode cX3_clear 21 = .ok (.iconst 0, 1) := by decide +kernel
theorem dX3_clear_22 : decode cX3_clear 22 = .ok (.putfield 24, 3) := by decide +kernel
theorem dX3_clear_25 : decode cX3_clear 25 = .ok (.aload_n 0, 1) := by decide +kernel
theorem dX3_clear_26 : decode cX3_clear 26 = .ok (.iconst 0, 1) := by decide +kernel
theorem dX3_clear_27 : decode cX3_clear 27 = .ok (.putfield 28, 3) := by decide +kernel
theorem dX3_clear_30 : decode cX3_clear 30 = .ok (.return_, 1) := by decide +kernel
def fX3_clear (l0 : Nat) : mM Unit := bPI 3 l0 0 (-1 : Int32) (bPI 3 l0 1 (-1 : Int32) (bPI 3 l0 2 (0 : Int32) (bPI 3 l0 3 (0 : Int32) (bPZ 3 l0 4 (0 : Int32) (bPI 3 l0 5 (0 : Int32) (bRet ()))))))
set_option maxRecDepth 20000 in
theorem rX3_clear (v : mE) (d : Nat) (l0 : Nat) : Rz v RX3 cX3_clear 1 none false emU (d + 0) 0 [(0, vR l0)] [] (fX3_clear l0) := by
  unfold fX3_clear
  refine rz_aload_n 1 0 dX3_clear_0 rfl rfl ?_
  refine rz_iconst 2 dX3_clear_1 rfl ci_m1 ?_
  refine rz_pI 5 dX3_clear_2 rfl rfl rfl rfl fl_X3_9 ?_
  refine rz_aload_n 6 0 dX3_clear_5 rfl rfl ?_
  refine rz_iconst 7 dX3_clear_6 rfl ci_m1 ?_
  refine rz_pI 10 dX3_clear_7 rfl rfl rfl rfl fl_X3_15 ?_
  refine rz_aload_n 11 0 dX3_clear_10 rfl rfl ?_
  refine rz_iconst 12 dX3_clear_11 rfl ci_0 ?_
  refine rz_pI 15 dX3_clear_12 rfl rfl rfl rfl fl_X3_18 ?_
  refine rz_aload_n 16 0 dX3_clear_15 rfl rfl ?_
  refine rz_iconst 17 dX3_clear_16 rfl ci_0 ?_
  refine rz_pI 20 dX3_clear_17 rfl rfl rfl rfl fl_X3_21 ?_
  refine rz_aload_n 21 0 dX3_clear_20 rfl rfl ?_
  refine rz_iconst 22 dX3_clear_21 rfl ci_0 ?_
  refine rz_pZ 25 dX3_clear_22 rfl rfl rfl rfl fl_X3_24 ?_
  refine rz_aload_n 26 0 dX3_clear_25 rfl rfl ?_
  refine rz_iconst 27 dX3_clear_26 rfl ci_0 ?_
  refine rz_pI 30 dX3_clear_27 rfl rfl rfl rfl fl_X3_28 ?_
  exact rz_return rfl rfl dX3_clear_30
theorem tX3_clear (v : mE) (d : Nat) (l0 : Nat) : Mt v yX3_clear cX3_clear 1 none emU (d + 0) [vR l0] (fX3_clear l0) := mt_of rfl rfl (fun h => by cases h) rfl rfl (rX3_clear v d l0)
theorem dX3_isThere_0 : decode cX3_isThere 0 = .ok (.aload_n 0, 1) := by decide +kernel
theorem dX3_isThere_1 : decode cX3_isThere 1 = .ok (.getfield 18, 3) := by decide +kernel
theorem dX3_isThere_4 : decode cX3_isThere 4 = .ok (.ifCond .le 7, 3) := by decide +kernel
theorem dX3_isThere_7 : decode cX3_isThere 7 = .ok (.iconst 1, 1) := by decide +kernel
theorem dX3_isThere_8 : decode cX3_isThere 8 = .ok (.goto 4, 3) := by decide +kernel
theorem dX3_isThere_11 : decode cX3_isThere 11 = .ok (.iconst 0, 1) := by decide +kernel
theorem dX3_isThere_12 : decode cX3_isThere 12 = .ok (.ireturn, 1) := by decide +kernel
def fX3_isThere (l0 : Nat) : mM Int32 := bGI 3 l0 2 (fun x1 => bIf (x1 ≤ 0) (bRetZ (0 : Int32)) (bRetZ (1 : Int32)))
set_option maxRecDepth 20000 in
theorem rX3_isThere (v : mE) (d : Nat) (l0 : Nat) : Rz v RX3 cX3_isThere 1 (some .boolean) false emI (d + 0) 0 [(0, vR l0)] [] (fX3_isThere l0) := by
  unfold fX3_isThere
  refine rz_aload_n 1 0 dX3_isThere_0 rfl rfl ?_
  refine rz_gI 4 dX3_isThere_1 rfl rfl fl_X3_18 (fun x1 => ?_)
  refine rz_if_le 11 7 dX3_isThere_4 rfl rfl ?_ ?_
  · refine rz_iconst 12 dX3_isThere_11 rfl ci_0 ?_
    exact rz_zreturn rfl rfl dX3_isThere_12
  · refine rz_iconst 8 dX3_isThere_7 rfl ci_1 ?_
    refine rz_goto 12 dX3_isThere_8 rfl ?_
    exact rz_zreturn rfl rfl dX3_isThere_12
theorem tX3_isThere (v : mE) (d : Nat) (l0 : Nat) : Mt v yX3_isThere cX3_isThere 1 (some .boolean) emI (d + 0) [vR l0] (fX3_isThere l0) := mt_of rfl rfl (fun h => by cases h) rfl rfl (rX3_isThere v d l0)
theorem dX3_isFree_0 : decode cX3_isFree 0 = .ok (.aload_n 0, 1) := by decide +kernel
theorem dX3_isFree_1 : decode cX3_isFree 1 = .ok (.getfield 24, 3) := by decide +kernel
theorem dX3_isFree_4 : decode cX3_isFree 4 = .ok (.ifCond .ne 15, 3) := by decide +kernel
theorem dX3_isFree_7 : decode cX3_isFree 7 = .ok (.aload_n 0, 1) := by decide +kernel
theorem dX3_isFree_8 : decode cX3_isFree 8 = .ok (.getfield 15, 3) := by decide +kernel
theorem dX3_isFree_11 : decode cX3_isFree 11 = .ok (.iconst (-1), 1) := by decide +kernel
theorem dX3_isFree_12 : decode cX3_isFree 12 = .ok (.if_icmp .ne 7, 3) := by decide +kernel
theorem dX3_isFree_15 : decode cX3_isFree 15 = .ok (.iconst 1, 1) := by decide +kernel
theorem dX3_isFree_16 : decode cX3_isFree 16 = .ok (.goto 4, 3) := by decide +kernel
theorem dX3_isFree_19 : decode cX3_isFree 19 = .ok (.iconst 0, 1) := by decide +kernel
theorem dX3_isFree_20 : decode cX3_isFree 20 = .ok (.ireturn, 1) := by decide +kernel
def fX3_isFree (l0 : Nat) : mM Int32 := bGI 3 l0 4 (fun x1 => bIf (x1 = 0) (bGI 3 l0 1 (fun x2 => bIf (x2 = (-1 : Int32)) (bRetZ (1 : Int32)) (bRetZ (0 : Int32)))) (bRetZ (0 : Int32)))
set_option maxRecDepth 20000 in
theorem rX3_isFree (v : mE) (d : Nat) (l0 : Nat) : Rz v RX3 cX3_isFree 1 (some .boolean) false emI (d + 0) 0 [(0, vR l0)] [] (fX3_isFree l0) := by
  unfold fX3_isFree
  refine rz_aload_n 1 0 dX3_isFree_0 rfl rfl ?_
  refine rz_gI 4 dX3_isFree_1 rfl rfl fl_X3_24 (fun x1 => ?_)
  refine rz_if_ne 19 7 dX3_isFree_4 rfl rfl ?_ ?_
  · refine rz_iconst 20 dX3_isFree_19 rfl ci_0 ?_
    exact rz_zreturn rfl rfl dX3_isFree_20
  · refine rz_aload_n 8 0 dX3_isFree_7 rfl rfl ?_
    refine rz_gI 11 dX3_isFree_8 rfl rfl fl_X3_15 (fun x2 => ?_)
    refine rz_iconst 12 dX3_isFree_11 rfl ci_m1 ?_
    refine rz_icmp_ne 19 15 dX3_isFree_12 rfl rfl ?_ ?_
    · refine rz_iconst 20 dX3_isFree_19 rfl ci_0 ?_
      exact rz_zreturn rfl rfl dX3_isFree_20
    · refine rz_iconst 16 dX3_isFree_15 rfl ci_1 ?_
      refine rz_goto 20 dX3_isFree_16 rfl ?_
      exact rz_zreturn rfl rfl dX3_isFree_20
theorem tX3_isFree (v : mE) (d : Nat) (l0 : Nat) : Mt v yX3_isFree cX3_isFree 1 (some .boolean) emI (d + 0) [vR l0] (fX3_isFree l0) := mt_of rfl rfl (fun h => by cases h) rfl rfl (rX3_isFree v d l0)
theorem dX3_holder_0 : decode cX3_holder 0 = .ok (.aload_n 0, 1) := by decide +kernel
theorem dX3_holder_1 : decode cX3_holder 1 = .ok (.getfield 15, 3) := by decide +kernel
theorem dX3_holder_4 : decode cX3_holder 4 = .ok (.iconst (-1), 1) := by decide +kernel
theorem dX3_holder_5 : decode cX3_holder 5 = .ok (.if_icmp .ne 10, 3) := by decide +kernel
theorem dX3_holder_8 : decode cX3_holder 8 = .ok (.aload_n 0, 1) := by decide +kernel
theorem dX3_holder_9 : decode cX3_holder 9 = .ok (.getfield 9, 3) := by decide +kernel
theorem dX3_holder_12 : decode cX3_holder 12 = .ok (.goto 7, 3) := by decide +kernel
theorem dX3_holder_15 : decode cX3_holder 15 = .ok (.aload_n 0, 1) := by decide +kernel
theorem dX3_holder_16 : decode cX3_holder 16 = .ok (.getfield 15, 3) := by decide +kernel
theorem dX3_holder_19 : decode cX3_holder 19 = .ok (.ireturn, 1) := by decide +kernel
def fX3_holder (l0 : Nat) : mM Int32 := bGI 3 l0 1 (fun x1 => bIf (x1 = (-1 : Int32)) (bGI 3 l0 0 (fun x3 => bRet x3)) (bGI 3 l0 1 (fun x2 => bRet x2)))
set_option maxRecDepth 20000 in
theorem rX3_holder (v : mE) (d : Nat) (l0 : Nat) : Rz v RX3 cX3_holder 1 (some .int) false emI (d + 0) 0 [(0, vR l0)] [] (fX3_holder l0) := by
  unfold fX3_holder
  refine rz_aload_n 1 0 dX3_holder_0 rfl rfl ?_
  refine rz_gI 4 dX3_holder_1 rfl rfl fl_X3_15 (fun x1 => ?_)
  refine rz_iconst 5 dX3_holder_4 rfl ci_m1 ?_
  refine rz_icmp_ne 15 8 dX3_holder_5 rfl rfl ?_ ?_
  · refine rz_aload_n 16 0 dX3_holder_15 rfl rfl ?_
    refine rz_gI 19 dX3_holder_16 rfl rfl fl_X3_15 (fun x2 => ?_)
    exact rz_ireturn rfl rfl dX3_holder_19
  · refine rz_aload_n 9 0 dX3_holder_8 rfl rfl ?_
    refine rz_gI 12 dX3_holder_9 rfl rfl fl_X3_9 (fun x3 => ?_)
    refine rz_goto 19 dX3_holder_12 rfl ?_
    exact rz_ireturn rfl rfl dX3_holder_19
theorem tX3_holder (v : mE) (d : Nat) (l0 : Nat) : Mt v yX3_holder cX3_holder 1 (some .int) emI (d + 0) [vR l0] (fX3_holder l0) := mt_of rfl rfl (fun h => by cases h) rfl rfl (rX3_holder v d l0)
theorem dX3_lengthOf_0 : decode cX3_lengthOf 0 = .ok (.iconst 0, 1) := by decide +kernel
theorem dX3_lengthOf_1 : decode cX3_lengthOf 1 = .ok (.istore_n 2, 1) := by decide +kernel
theorem dX3_lengthOf_2 : decode cX3_lengthOf 2 = .ok (.iconst 0, 1) := by decide +kernel
theorem dX3_lengthOf_3 : decode cX3_lengthOf 3 = .ok (.istore_n 3, 1) := by decide +kernel
theorem dX3_lengthOf_4 : decode cX3_lengthOf 4 = .ok (.iload_n 3, 1) := by decide +kernel
theorem dX3_lengthOf_5 : decode cX3_lengthOf 5 = .ok (.iload_n 1, 1) := by decide +kernel
theorem dX3_lengthOf_6 : decode cX3_lengthOf 6 = .ok (.if_icmp .ge 26, 3) := by decide +kernel
theorem dX3_lengthOf_9 : decode cX3_lengthOf 9 = .ok (.iload_n 3, 1) := by decide +kernel
theorem dX3_lengthOf_10 : decode cX3_lengthOf 10 = .ok (.aload_n 0, 1) := by decide +kernel
theorem dX3_lengthOf_11 : decode cX3_lengthOf 11 = .ok (.getfield 18, 3) := by decide +kernel
theorem dX3_lengthOf_14 : decode cX3_lengthOf 14 = .ok (.if_icmp .ge 18, 3) := by decide +kernel
theorem dX3_lengthOf_17 : decode cX3_lengthOf 17 = .ok (.iload_n 2, 1) := by decide +kernel
theorem dX3_lengthOf_18 : decode cX3_lengthOf 18 = .ok (.aload_n 0, 1) := by decide +kernel
theorem dX3_lengthOf_19 : decode cX3_lengthOf 19 = .ok (.getfield 31, 3) := by decide +kernel
theorem dX3_lengthOf_22 : decode cX3_lengthOf 22 = .ok (.iload_n 3, 1) := by decide +kernel
theorem dX3_lengthOf_23 : decode cX3_lengthOf 23 = .ok (.iaload, 1) := by decide +kernel
theorem dX3_lengthOf_24 : decode cX3_lengthOf 24 = .ok (.iadd, 1) := by decide +kernel
theorem dX3_lengthOf_25 : decode cX3_lengthOf 25 = .ok (.istore_n 2, 1) := by decide +kernel
theorem dX3_lengthOf_26 : decode cX3_lengthOf 26 = .ok (.iinc 3 1, 3) := by decide +kernel
theorem dX3_lengthOf_29 : decode cX3_lengthOf 29 = .ok (.goto (-25), 3) := by decide +kernel
theorem dX3_lengthOf_32 : decode cX3_lengthOf 32 = .ok (.iload_n 2, 1) := by decide +kernel
theorem dX3_lengthOf_33 : decode cX3_lengthOf 33 = .ok (.ireturn, 1) := by decide +kernel
def fX3_lengthOf_4 : Nat → Nat → Int32 → Int32 → Int32 → mM Int32
  | 0 => fun _ _ _ _ => fun _ => none
  | n + 1 => fun l0 l1 l2 l3 => let r4 := fX3_lengthOf_4 n; bIf (l1 ≤ l3) (bRet l2) (bGI 3 l0 2 (fun x1 => bIf (x1 ≤ l3) (bRet l2) (bGR 3 l0 6 (fun x2 => bAI 11 x2 l3 (fun x3 => r4 l0 l1 (l2 + x3) (l3 + 1))))))
theorem qX3_lengthOf_4  (n : Nat) (l0 : Nat) (l1 : Int32) (l2 : Int32) (l3 : Int32) : fX3_lengthOf_4 (n + 1) l0 l1 l2 l3 = bIf (l1 ≤ l3) (bRet l2) (bGI 3 l0 2 (fun x1 => bIf (x1 ≤ l3) (bRet l2) (bGR 3 l0 6 (fun x2 => bAI 11 x2 l3 (fun x3 => (fX3_lengthOf_4 n) l0 l1 (l2 + x3) (l3 + 1)))))) := rfl
set_option maxRecDepth 20000 in
theorem rX3_lengthOf_4 (v : mE) (d : Nat) : ∀ (n : Nat) (l0 : Nat) (l1 : Int32) (l2 : Int32) (l3 : Int32), Rz v RX3 cX3_lengthOf 4 (some .int) false emI (d + 0) 4 [(0, vR l0), (1, vI l1), (2, vI l2), (3, vI l3)] [] (fX3_lengthOf_4 n l0 l1 l2 l3)
  | 0, _, _, _, _ => fun _ _ _ hm => by cases hm
  | n + 1, l0, l1, l2, l3 => by
    have h4 := rX3_lengthOf_4 v d n
    unfold fX3_lengthOf_4
    generalize fX3_lengthOf_4 n = r4 at h4 ⊢
    refine rz_iload_n 5 3 dX3_lengthOf_4 rfl rfl ?_
    refine rz_iload_n 6 1 dX3_lengthOf_5 rfl rfl ?_
    refine rz_icmp_ge 32 9 dX3_lengthOf_6 rfl rfl ?_ ?_
    · refine rz_iload_n 33 2 dX3_lengthOf_32 rfl rfl ?_
      exact rz_ireturn rfl rfl dX3_lengthOf_33
    · refine rz_iload_n 10 3 dX3_lengthOf_9 rfl rfl ?_
      refine rz_aload_n 11 0 dX3_lengthOf_10 rfl rfl ?_
      refine rz_gI 14 dX3_lengthOf_11 rfl rfl fl_X3_18 (fun x1 => ?_)
      refine rz_icmp_ge 32 17 dX3_lengthOf_14 rfl rfl ?_ ?_
      · refine rz_iload_n 33 2 dX3_lengthOf_32 rfl rfl ?_
        exact rz_ireturn rfl rfl dX3_lengthOf_33
      · refine rz_iload_n 18 2 dX3_lengthOf_17 rfl rfl ?_
        refine rz_aload_n 19 0 dX3_lengthOf_18 rfl rfl ?_
        refine rz_gR 22 dX3_lengthOf_19 rfl rfl fl_X3_31 (fun x2 => ?_)
        refine rz_iload_n 23 3 dX3_lengthOf_22 rfl rfl ?_
        refine rz_iald 24 dX3_lengthOf_23 rfl (fun x3 => ?_)
        refine rz_iadd 25 dX3_lengthOf_24 rfl ?_
        refine rz_istore_n (lv' := [(2, vI (l2 + x3)), (0, vR l0), (1, vI l1), (3, vI l3)]) 26 dX3_lengthOf_25 rfl rfl rfl ?_
        refine rz_iinc (lv' := [(3, vI (l3 + 1)), (2, vI (l2 + x3)), (0, vR l0), (1, vI l1)]) 29 3 dX3_lengthOf_26 rfl rfl (cn_1 _) rfl rfl ?_
        refine rz_goto 4 dX3_lengthOf_29 rfl ?_
        exact rz_sub [2, 3, 1, 0] rfl (h4 l0 l1 (l2 + x3) (l3 + 1))
def fX3_lengthOf (l0 : Nat) (l1 : Int32) : mM Int32 := fX3_lengthOf_4 fu l0 l1 (0 : Int32) (0 : Int32)
set_option maxRecDepth 20000 in
theorem rX3_lengthOf (v : mE) (d : Nat) (l0 : Nat) (l1 : Int32) : Rz v RX3 cX3_lengthOf 4 (some .int) false emI (d + 0) 0 [(0, vR l0), (1, vI l1)] [] (fX3_lengthOf l0 l1) := by
  unfold fX3_lengthOf
  refine rz_iconst 1 dX3_lengthOf_0 rfl ci_0 ?_
  refine rz_istore_n (lv' := [(2, vI (0 : Int32)), (0, vR l0), (1, vI l1)]) 2 dX3_lengthOf_1 rfl rfl rfl ?_
  refine rz_iconst 3 dX3_lengthOf_2 rfl ci_0 ?_
  refine rz_istore_n (lv' := [(3, vI (0 : Int32)), (2, vI (0 : Int32)), (0, vR l0), (1, vI l1)]) 4 dX3_lengthOf_3 rfl rfl rfl ?_
  exact rz_sub [2, 3, 1, 0] rfl (rX3_lengthOf_4 v d fu l0 l1 (0 : Int32) (0 : Int32))
theorem tX3_lengthOf (v : mE) (d : Nat) (l0 : Nat) (l1 : Int32) : Mt v yX3_lengthOf cX3_lengthOf 4 (some .int) emI (d + 0) [vR l0, vI l1] (fX3_lengthOf l0 l1) := mt_of rfl rfl (fun h => by cases h) rfl rfl (rX3_lengthOf v d l0 l1)
theorem dX3_knots_0 : decode cX3_knots 0 = .ok (.aload_n 0, 1) := by decide +kernel
theorem dX3_knots_1 : decode cX3_knots 1 = .ok (.getfield 18, 3) := by decide +kernel
theorem dX3_knots_4 : decode cX3_knots 4 = .ok (.iconst 1, 1) := by decide +kernel
theorem dX3_knots_5 : decode cX3_knots 5 = .ok (.isub, 1) := by decide +kernel
theorem dX3_knots_6 : decode cX3_knots 6 = .ok (.ireturn, 1) := by decide +kernel
def fX3_knots (l0 : Nat) : mM Int32 := bGI 3 l0 2 (fun x1 => bRet (x1 - (1 : Int32)))
set_option maxRecDepth 20000 in
theorem rX3_knots (v : mE) (d : Nat) (l0 : Nat) : Rz v RX3 cX3_knots 1 (some .int) false emI (d + 0) 0 [(0, vR l0)] [] (fX3_knots l0) := by
  unfold fX3_knots
  refine rz_aload_n 1 0 dX3_knots_0 rfl rfl ?_
  refine rz_gI 4 dX3_knots_1 rfl rfl fl_X3_18 (fun x1 => ?_)
  refine rz_iconst 5 dX3_knots_4 rfl ci_1 ?_
  refine rz_isub 6 dX3_knots_5 rfl ?_
  exact rz_ireturn rfl rfl dX3_knots_6
theorem tX3_knots (v : mE) (d : Nat) (l0 : Nat) : Mt v yX3_knots cX3_knots 1 (some .int) emI (d + 0) [vR l0] (fX3_knots l0) := mt_of rfl rfl (fun h => by cases h) rfl rfl (rX3_knots v d l0)
theorem dX3_reach_0 : decode cX3_reach 0 = .ok (.aload_n 0, 1) := by decide +kernel
theorem dX3_reach_1 : decode cX3_reach 1 = .ok (.getfield 21, 3) := by decide +kernel
theorem dX3_reach_4 : decode cX3_reach 4 = .ok (.aload_n 0, 1) := by decide +kernel
theorem dX3_reach_5 : decode cX3_reach 5 = .ok (.invokevirtual 44, 3) := by decide +kernel
theorem dX3_reach_8 : decode cX3_reach 8 = .ok (.isub, 1) := by decide +kernel
theorem dX3_reach_9 : decode cX3_reach 9 = .ok (.ireturn, 1) := by decide +kernel
def fX3_reach (l0 : Nat) : mM Int32 := bGI 3 l0 3 (fun x1 => bCallV 3 l0 (fX3_knots l0) (fun x2 => bRet (x1 - x2)))
set_option maxRecDepth 20000 in
theorem rX3_reach (v : mE) (d : Nat) (l0 : Nat) : Rz v RX3 cX3_reach 1 (some .int) false emI (d + 1) 0 [(0, vR l0)] [] (fX3_reach l0) := by
  unfold fX3_reach
  refine rz_aload_n 1 0 dX3_reach_0 rfl rfl ?_
  refine rz_gI 4 dX3_reach_1 rfl rfl fl_X3_21 (fun x1 => ?_)
  refine rz_aload_n 5 0 dX3_reach_4 rfl rfl ?_
  refine rz_callV 8 dX3_reach_5 rfl (tX3_knots v (d + 0) l0) rfl rfl rfl rfl ml_X3_44 im_X3_knots se_X3_X3_knots in_X3 co_X3_knots rfl rfl (fun x2 => ?_)
  refine rz_isub 9 dX3_reach_8 rfl ?_
  exact rz_ireturn rfl rfl dX3_reach_9
theorem tX3_reach (v : mE) (d : Nat) (l0 : Nat) : Mt v yX3_reach cX3_reach 1 (some .int) emI (d + 1) [vR l0] (fX3_reach l0) := mt_of rfl rfl (fun h => by cases h) rfl rfl (rX3_reach v d l0)
theorem dX3_oldest_0 : decode cX3_oldest 0 = .ok (.iconst 0, 1) := by decide +kernel
theorem dX3_oldest_1 : decode cX3_oldest 1 = .ok (.istore_n 1, 1) := by decide +kernel
theorem dX3_oldest_2 : decode cX3_oldest 2 = .ok (.iconst 0, 1) := by decide +kernel
theorem dX3_oldest_3 : decode cX3_oldest 3 = .ok (.istore_n 2, 1) := by decide +kernel
theorem dX3_oldest_4 : decode cX3_oldest 4 = .ok (.iload_n 2, 1) := by decide +kernel
theorem dX3_oldest_5 : decode cX3_oldest 5 = .ok (.aload_n 0, 1) := by decide +kernel
theorem dX3_oldest_6 : decode cX3_oldest 6 = .ok (.getfield 18, 3) := by decide +kernel
theorem dX3_oldest_9 : decode cX3_oldest 9 = .ok (.if_icmp .ge 20, 3) := by decide +kernel
theorem dX3_oldest_12 : decode cX3_oldest 12 = .ok (.iload_n 1, 1) := by decide +kernel
theorem dX3_oldest_13 : decode cX3_oldest 13 = .ok (.aload_n 0, 1) := by decide +kernel
theorem dX3_oldest_14 : decode cX3_oldest 14 = .ok (.getfield 35, 3) := by decide +kernel
theorem dX3_oldest_17 : decode cX3_oldest 17 = .ok (.iload_n 2, 1) := by decide +kernel
theorem dX3_oldest_18 : decode cX3_oldest 18 = .ok (.iaload, 1) := by decide +kernel
theorem dX3_oldest_19 : decode cX3_oldest 19 = .ok (.invokestatic 48, 3) := by decide +kernel
theorem dX3_oldest_22 : decode cX3_oldest 22 = .ok (.istore_n 1, 1) := by decide +kernel
theorem dX3_oldest_23 : decode cX3_oldest 23 = .ok (.iinc 2 1, 3) := by decide +kernel
theorem dX3_oldest_26 : decode cX3_oldest 26 = .ok (.goto (-22), 3) := by decide +kernel
theorem dX3_oldest_29 : decode cX3_oldest 29 = .ok (.iload_n 1, 1) := by decide +kernel
theorem dX3_oldest_30 : decode cX3_oldest 30 = .ok (.ireturn, 1) := by decide +kernel
def fX3_oldest_4 : Nat → Nat → Int32 → Int32 → mM Int32
  | 0 => fun _ _ _ => fun _ => none
  | n + 1 => fun l0 l1 l2 => let r4 := fX3_oldest_4 n; bGI 3 l0 2 (fun x1 => bIf (x1 ≤ l2) (bRet l1) (bGR 3 l0 7 (fun x2 => bAI 11 x2 l2 (fun x3 => r4 l0 (jMax l1 x3) (l2 + 1)))))
theorem qX3_oldest_4  (n : Nat) (l0 : Nat) (l1 : Int32) (l2 : Int32) : fX3_oldest_4 (n + 1) l0 l1 l2 = bGI 3 l0 2 (fun x1 => bIf (x1 ≤ l2) (bRet l1) (bGR 3 l0 7 (fun x2 => bAI 11 x2 l2 (fun x3 => (fX3_oldest_4 n) l0 (jMax l1 x3) (l2 + 1))))) := rfl
set_option maxRecDepth 20000 in
theorem rX3_oldest_4 (v : mE) (d : Nat) : ∀ (n : Nat) (l0 : Nat) (l1 : Int32) (l2 : Int32), Rz v RX3 cX3_oldest 3 (some .int) false emI (d + 1) 4 [(0, vR l0), (1, vI l1), (2, vI l2)] [] (fX3_oldest_4 n l0 l1 l2)
  | 0, _, _, _ => fun _ _ _ hm => by cases hm
  | n + 1, l0, l1, l2 => by
    have h4 := rX3_oldest_4 v d n
    unfold fX3_oldest_4
    generalize fX3_oldest_4 n = r4 at h4 ⊢
    refine rz_iload_n 5 2 dX3_oldest_4 rfl rfl ?_
    refine rz_aload_n 6 0 dX3_oldest_5 rfl rfl ?_
    refine rz_gI 9 dX3_oldest_6 rfl rfl fl_X3_18 (fun x1 => ?_)
    refine rz_icmp_ge 29 12 dX3_oldest_9 rfl rfl ?_ ?_
    · refine rz_iload_n 30 1 dX3_oldest_29 rfl rfl ?_
      exact rz_ireturn rfl rfl dX3_oldest_30
    · refine rz_iload_n 13 1 dX3_oldest_12 rfl rfl ?_
      refine rz_aload_n 14 0 dX3_oldest_13 rfl rfl ?_
      refine rz_gR 17 dX3_oldest_14 rfl rfl fl_X3_35 (fun x2 => ?_)
      refine rz_iload_n 18 2 dX3_oldest_17 rfl rfl ?_
      refine rz_iald 19 dX3_oldest_18 rfl (fun x3 => ?_)
      refine rz_mmax 22 dX3_oldest_19 rfl ml_X3_48 rfl rfl ?_
      refine rz_istore_n (lv' := [(1, vI (jMax l1 x3)), (0, vR l0), (2, vI l2)]) 23 dX3_oldest_22 rfl rfl rfl ?_
      refine rz_iinc (lv' := [(2, vI (l2 + 1)), (1, vI (jMax l1 x3)), (0, vR l0)]) 26 2 dX3_oldest_23 rfl rfl (cn_1 _) rfl rfl ?_
      refine rz_goto 4 dX3_oldest_26 rfl ?_
      exact rz_sub [2, 1, 0] rfl (h4 l0 (jMax l1 x3) (l2 + 1))
def fX3_oldest (l0 : Nat) : mM Int32 := fX3_oldest_4 fu l0 (0 : Int32) (0 : Int32)
set_option maxRecDepth 20000 in
theorem rX3_oldest (v : mE) (d : Nat) (l0 : Nat) : Rz v RX3 cX3_oldest 3 (some .int) false emI (d + 1) 0 [(0, vR l0)] [] (fX3_oldest l0) := by
  unfold fX3_oldest
  refine rz_iconst 1 dX3_oldest_0 rfl ci_0 ?_
  refine rz_istore_n (lv' := [(1, vI (0 : Int32)), (0, vR l0)]) 2 dX3_oldest_1 rfl rfl rfl ?_
  refine rz_iconst 3 dX3_oldest_2 rfl ci_0 ?_
  refine rz_istore_n (lv' := [(2, vI (0 : Int32)), (1, vI (0 : Int32)), (0, vR l0)]) 4 dX3_oldest_3 rfl rfl rfl ?_
  exact rz_sub [2, 1, 0] rfl (rX3_oldest_4 v d fu l0 (0 : Int32) (0 : Int32))
theorem tX3_oldest (v : mE) (d : Nat) (l0 : Nat) : Mt v yX3_oldest cX3_oldest 3 (some .int) emI (d + 1) [vR l0] (fX3_oldest l0) := mt_of rfl rfl (fun h => by cases h) rfl rfl (rX3_oldest v d l0)
theorem dX3_pieceAt_0 : decode cX3_pieceAt 0 = .ok (.iconst 0, 1) := by decide +kernel
theorem dX3_pieceAt_1 : decode cX3_pieceAt 1 = .ok (.istore_n 2, 1) := by decide +kernel
theorem dX3_pieceAt_2 : decode cX3_pieceAt 2 = .ok (.iconst 0, 1) := by decide +kernel
theorem dX3_pieceAt_3 : decode cX3_pieceAt 3 = .ok (.istore_n 3, 1) := by decide +kernel
theorem dX3_pieceAt_4 : decode cX3_pieceAt 4 = .ok (.iload_n 3, 1) := by decide +kernel
theorem dX3_pieceAt_5 : decode cX3_pieceAt 5 = .ok (.aload_n 0, 1) := by decide +kernel
theorem dX3_pieceAt_6 : decode cX3_pieceAt 6 = .ok (.getfield 18, 3) := by decide +kernel
theorem dX3_pieceAt_9 : decode cX3_pieceAt 9 = .ok (.if_icmp .ge 25, 3) := by decide +kernel
theorem dX3_pieceAt_12 : decode cX3_pieceAt 12 = .ok (.iload_n 2, 1) := by decide +kernel
theorem dX3_pieceAt_13 : decode cX3_pieceAt 13 = .ok (.aload_n 0, 1) := by decide +kernel
theorem dX3_pieceAt_14 : decode cX3_pieceAt 14 = .ok (.getfield 31, 3) := by decide +kernel
theorem dX3_pieceAt_17 : decode cX3_pieceAt 17 = .ok (.iload_n 3, 1) := by decide +kernel
theorem dX3_pieceAt_18 : decode cX3_pieceAt 18 = .ok (.iaload, 1) := by decide +kernel
theorem dX3_pieceAt_19 : decode cX3_pieceAt 19 = .ok (.iadd, 1) := by decide +kernel
theorem dX3_pieceAt_20 : decode cX3_pieceAt 20 = .ok (.istore_n 2, 1) := by decide +kernel
theorem dX3_pieceAt_21 : decode cX3_pieceAt 21 = .ok (.iload_n 1, 1) := by decide +kernel
theorem dX3_pieceAt_22 : decode cX3_pieceAt 22 = .ok (.iload_n 2, 1) := by decide +kernel
theorem dX3_pieceAt_23 : decode cX3_pieceAt 23 = .ok (.if_icmp .ge 5, 3) := by decide +kernel
theorem dX3_pieceAt_26 : decode cX3_pieceAt 26 = .ok (.iload_n 3, 1) := by decide +kernel
theorem dX3_pieceAt_27 : decode cX3_pieceAt 27 = .ok (.ireturn, 1) := by decide +kernel
theorem dX3_pieceAt_28 : decode cX3_pieceAt 28 = .ok (.iinc 3 1, 3) := by decide +kernel
theorem dX3_pieceAt_31 : decode cX3_pieceAt 31 = .ok (.goto (-27), 3) := by decide +kernel
theorem dX3_pieceAt_34 : decode cX3_pieceAt 34 = .ok (.iconst (-1), 1) := by decide +kernel
theorem dX3_pieceAt_35 : decode cX3_pieceAt 35 = .ok (.ireturn, 1) := by decide +kernel
def fX3_pieceAt_4 : Nat → Nat → Int32 → Int32 → Int32 → mM Int32
  | 0 => fun _ _ _ _ => fun _ => none
  | n + 1 => fun l0 l1 l2 l3 => let r4 := fX3_pieceAt_4 n; bGI 3 l0 2 (fun x1 => bIf (x1 ≤ l3) (bRet (-1 : Int32)) (bGR 3 l0 6 (fun x2 => bAI 11 x2 l3 (fun x3 => bIf ((l2 + x3) ≤ l1) (r4 l0 l1 (l2 + x3) (l3 + 1)) (bRet l3)))))
theorem qX3_pieceAt_4  (n : Nat) (l0 : Nat) (l1 : Int32) (l2 : Int32) (l3 : Int32) : fX3_pieceAt_4 (n + 1) l0 l1 l2 l3 = bGI 3 l0 2 (fun x1 => bIf (x1 ≤ l3) (bRet (-1 : Int32)) (bGR 3 l0 6 (fun x2 => bAI 11 x2 l3 (fun x3 => bIf ((l2 + x3) ≤ l1) ((fX3_pieceAt_4 n) l0 l1 (l2 + x3) (l3 + 1)) (bRet l3))))) := rfl
set_option maxRecDepth 20000 in
theorem rX3_pieceAt_4 (v : mE) (d : Nat) : ∀ (n : Nat) (l0 : Nat) (l1 : Int32) (l2 : Int32) (l3 : Int32), Rz v RX3 cX3_pieceAt 4 (some .int) false emI (d + 0) 4 [(0, vR l0), (1, vI l1), (2, vI l2), (3, vI l3)] [] (fX3_pieceAt_4 n l0 l1 l2 l3)
  | 0, _, _, _, _ => fun _ _ _ hm => by cases hm
  | n + 1, l0, l1, l2, l3 => by
    have h4 := rX3_pieceAt_4 v d n
    unfold fX3_pieceAt_4
    generalize fX3_pieceAt_4 n = r4 at h4 ⊢
    refine rz_iload_n 5 3 dX3_pieceAt_4 rfl rfl ?_
    refine rz_aload_n 6 0 dX3_pieceAt_5 rfl rfl ?_
    refine rz_gI 9 dX3_pieceAt_6 rfl rfl fl_X3_18 (fun x1 => ?_)
    refine rz_icmp_ge 34 12 dX3_pieceAt_9 rfl rfl ?_ ?_
    · refine rz_iconst 35 dX3_pieceAt_34 rfl ci_m1 ?_
      exact rz_ireturn rfl rfl dX3_pieceAt_35
    · refine rz_iload_n 13 2 dX3_pieceAt_12 rfl rfl ?_
      refine rz_aload_n 14 0 dX3_pieceAt_13 rfl rfl ?_
      refine rz_gR 17 dX3_pieceAt_14 rfl rfl fl_X3_31 (fun x2 => ?_)
      refine rz_iload_n 18 3 dX3_pieceAt_17 rfl rfl ?_
      refine rz_iald 19 dX3_pieceAt_18 rfl (fun x3 => ?_)
      refine rz_iadd 20 dX3_pieceAt_19 rfl ?_
      refine rz_istore_n (lv' := [(2, vI (l2 + x3)), (0, vR l0), (1, vI l1), (3, vI l3)]) 21 dX3_pieceAt_20 rfl rfl rfl ?_
      refine rz_iload_n 22 2 dX3_pieceAt_21 rfl rfl ?_
      refine rz_iload_n 23 0 dX3_pieceAt_22 rfl rfl ?_
      refine rz_icmp_ge 28 26 dX3_pieceAt_23 rfl rfl ?_ ?_
      · refine rz_iinc (lv' := [(3, vI (l3 + 1)), (2, vI (l2 + x3)), (0, vR l0), (1, vI l1)]) 31 3 dX3_pieceAt_28 rfl rfl (cn_1 _) rfl rfl ?_
        refine rz_goto 4 dX3_pieceAt_31 rfl ?_
        exact rz_sub [2, 3, 1, 0] rfl (h4 l0 l1 (l2 + x3) (l3 + 1))
      · refine rz_iload_n 27 3 dX3_pieceAt_26 rfl rfl ?_
        exact rz_ireturn rfl rfl dX3_pieceAt_27
def fX3_pieceAt (l0 : Nat) (l1 : Int32) : mM Int32 := fX3_pieceAt_4 fu l0 l1 (0 : Int32) (0 : Int32)
set_option maxRecDepth 20000 in
theorem rX3_pieceAt (v : mE) (d : Nat) (l0 : Nat) (l1 : Int32) : Rz v RX3 cX3_pieceAt 4 (some .int) false emI (d + 0) 0 [(0, vR l0), (1, vI l1)] [] (fX3_pieceAt l0 l1) := by
  unfold fX3_pieceAt
  refine rz_iconst 1 dX3_pieceAt_0 rfl ci_0 ?_
  refine rz_istore_n (lv' := [(2, vI (0 : Int32)), (0, vR l0), (1, vI l1)]) 2 dX3_pieceAt_1 rfl rfl rfl ?_
  refine rz_iconst 3 dX3_pieceAt_2 rfl ci_0 ?_
  refine rz_istore_n (lv' := [(3, vI (0 : Int32)), (2, vI (0 : Int32)), (0, vR l0), (1, vI l1)]) 4 dX3_pieceAt_3 rfl rfl rfl ?_
  exact rz_sub [2, 3, 1, 0] rfl (rX3_pieceAt_4 v d fu l0 l1 (0 : Int32) (0 : Int32))
theorem tX3_pieceAt (v : mE) (d : Nat) (l0 : Nat) (l1 : Int32) : Mt v yX3_pieceAt cX3_pieceAt 4 (some .int) emI (d + 0) [vR l0, vI l1] (fX3_pieceAt l0 l1) := mt_of rfl rfl (fun h => by cases h) rfl rfl (rX3_pieceAt v d l0 l1)
theorem dX3_add_0 : decode cX3_add 0 = .ok (.aload_n 0, 1) := by decide +kernel
theorem dX3_add_1 : decode cX3_add 1 = .ok (.getfield 18, 3) := by decide +kernel
theorem dX3_add_4 : decode cX3_add 4 = .ok (.bipush 8, 2) := by decide +kernel
theorem dX3_add_6 : decode cX3_add 6 = .ok (.if_icmp .ge 43, 3) := by decide +kernel
theorem dX3_add_9 : decode cX3_add 9 = .ok (.aload_n 0, 1) := by decide +kernel
theorem dX3_add_10 : decode cX3_add 10 = .ok (.getfield 31, 3) := by decide +kernel
theorem dX3_add_13 : decode cX3_add 13 = .ok (.aload_n 0, 1) := by decide +kernel
theorem dX3_add_14 : decode cX3_add 14 = .ok (.getfield 18, 3) := by decide +kernel
theorem dX3_add_17 : decode cX3_add 17 = .ok (.iload_n 1, 1) := by decide +kernel
theorem dX3_add_18 : decode cX3_add 18 = .ok (.iastore, 1) := by decide +kernel
theorem dX3_add_19 : decode cX3_add 19 = .ok (.aload_n 0, 1) := by decide +kernel
theorem dX3_add_20 : decode cX3_add 20 = .ok (.getfield 35, 3) := by decide +kernel
theorem dX3_add_23 : decode cX3_add 23 = .ok (.aload_n 0, 1) := by decide +kernel
theorem dX3_add_24 : decode cX3_add 24 = .ok (.getfield 18, 3) := by decide +kernel
theorem dX3_add_27 : decode cX3_add 27 = .ok (.iload_n 2, 1) := by decide +kernel
theorem dX3_add_28 : decode cX3_add 28 = .ok (.iastore, 1) := by decide +kernel
theorem dX3_add_29 : decode cX3_add 29 = .ok (.aload_n 0, 1) := by decide +kernel
theorem dX3_add_30 : decode cX3_add 30 = .ok (.dup, 1) := by decide +kernel
theorem dX3_add_31 : decode cX3_add 31 = .ok (.getfield 18, 3) := by decide +kernel
theorem dX3_add_34 : decode cX3_add 34 = .ok (.iconst 1, 1) := by decide +kernel
theorem dX3_add_35 : decode cX3_add 35 = .ok (.iadd, 1) := by decide +kernel
theorem dX3_add_36 : decode cX3_add 36 = .ok (.putfield 18, 3) := by decide +kernel
theorem dX3_add_39 : decode cX3_add 39 = .ok (.aload_n 0, 1) := by decide +kernel
theorem dX3_add_40 : decode cX3_add 40 = .ok (.dup, 1) := by decide +kernel
theorem dX3_add_41 : decode cX3_add 41 = .ok (.getfield 21, 3) := by decide +kernel
theorem dX3_add_44 : decode cX3_add 44 = .ok (.iload_n 1, 1) := by decide +kernel
theorem dX3_add_45 : decode cX3_add 45 = .ok (.iadd, 1) := by decide +kernel
theorem dX3_add_46 : decode cX3_add 46 = .ok (.putfield 21, 3) := by decide +kernel
theorem dX3_add_49 : decode cX3_add 49 = .ok (.return_, 1) := by decide +kernel
def fX3_add (l0 : Nat) (l1 : Int32) (l2 : Int32) : mM Unit := bGI 3 l0 2 (fun x1 => bIf ((8 : Int32) ≤ x1) (bRet ()) (bGR 3 l0 6 (fun x2 => bGI 3 l0 2 (fun x3 => bSI x2 x3 l1 (bGR 3 l0 7 (fun x4 => bGI 3 l0 2 (fun x5 => bSI x4 x5 l2 (bGI 3 l0 2 (fun x6 => bPI 3 l0 2 (x6 + (1 : Int32)) (bGI 3 l0 3 (fun x7 => bPI 3 l0 3 (x7 + l1) (bRet ()))))))))))))
set_option maxRecDepth 20000 in
theorem rX3_add (v : mE) (d : Nat) (l0 : Nat) (l1 : Int32) (l2 : Int32) : Rz v RX3 cX3_add 3 none false emU (d + 0) 0 [(0, vR l0), (1, vI l1), (2, vI l2)] [] (fX3_add l0 l1 l2) := by
  unfold fX3_add
  refine rz_aload_n 1 0 dX3_add_0 rfl rfl ?_
  refine rz_gI 4 dX3_add_1 rfl rfl fl_X3_18 (fun x1 => ?_)
  refine rz_bipush 6 dX3_add_4 rfl cb_8 ?_
  refine rz_icmp_ge 49 9 dX3_add_6 rfl rfl ?_ ?_
  · exact rz_return rfl rfl dX3_add_49
  · refine rz_aload_n 10 0 dX3_add_9 rfl rfl ?_
    refine rz_gR 13 dX3_add_10 rfl rfl fl_X3_31 (fun x2 => ?_)
    refine rz_aload_n 14 0 dX3_add_13 rfl rfl ?_
    refine rz_gI 17 dX3_add_14 rfl rfl fl_X3_18 (fun x3 => ?_)
    refine rz_iload_n 18 1 dX3_add_17 rfl rfl ?_
    refine rz_iast 19 dX3_add_18 rfl ?_
    refine rz_aload_n 20 0 dX3_add_19 rfl rfl ?_
    refine rz_gR 23 dX3_add_20 rfl rfl fl_X3_35 (fun x4 => ?_)
    refine rz_aload_n 24 0 dX3_add_23 rfl rfl ?_
    refine rz_gI 27 dX3_add_24 rfl rfl fl_X3_18 (fun x5 => ?_)
    refine rz_iload_n 28 2 dX3_add_27 rfl rfl ?_
    refine rz_iast 29 dX3_add_28 rfl ?_
    refine rz_aload_n 30 0 dX3_add_29 rfl rfl ?_
    refine rz_dup 31 dX3_add_30 rfl rfl ?_
    refine rz_gI 34 dX3_add_31 rfl rfl fl_X3_18 (fun x6 => ?_)
    refine rz_iconst 35 dX3_add_34 rfl ci_1 ?_
    refine rz_iadd 36 dX3_add_35 rfl ?_
    refine rz_pI 39 dX3_add_36 rfl rfl rfl rfl fl_X3_18 ?_
    refine rz_aload_n 40 0 dX3_add_39 rfl rfl ?_
    refine rz_dup 41 dX3_add_40 rfl rfl ?_
    refine rz_gI 44 dX3_add_41 rfl rfl fl_X3_21 (fun x7 => ?_)
    refine rz_iload_n 45 1 dX3_add_44 rfl rfl ?_
    refine rz_iadd 46 dX3_add_45 rfl ?_
    refine rz_pI 49 dX3_add_46 rfl rfl rfl rfl fl_X3_21 ?_
    exact rz_return rfl rfl dX3_add_49
theorem tX3_add (v : mE) (d : Nat) (l0 : Nat) (l1 : Int32) (l2 : Int32) : Mt v yX3_add cX3_add 3 none emU (d + 0) [vR l0, vI l1, vI l2] (fX3_add l0 l1 l2) := mt_of rfl rfl (fun h => by cases h) rfl rfl (rX3_add v d l0 l1 l2)
theorem dX3_tieOn_0 : decode cX3_tieOn 0 = .ok (.iconst 0, 1) := by decide +kernel
theorem dX3_tieOn_1 : decode cX3_tieOn 1 = .ok (.istore_n 2, 1) := by decide +kernel
theorem dX3_tieOn_2 : decode cX3_tieOn 2 = .ok (.iload_n 2, 1) := by decide +kernel
theorem dX3_tieOn_3 : decode cX3_tieOn 3 = .ok (.aload_n 1, 1) := by decide +kernel
theorem dX3_tieOn_4 : decode cX3_tieOn 4 = .ok (.getfield 18, 3) := by decide +kernel
theorem dX3_tieOn_7 : decode cX3_tieOn 7 = .ok (.if_icmp .ge 25, 3) := by decide +kernel
theorem dX3_tieOn_10 : decode cX3_tieOn 10 = .ok (.aload_n 0, 1) := by decide +kernel
theorem dX3_tieOn_11 : decode cX3_tieOn 11 = .ok (.aload_n 1, 1) := by decide +kernel
theorem dX3_tieOn_12 : decode cX3_tieOn 12 = .ok (.getfield 31, 3) := by decide +kernel
theorem dX3_tieOn_15 : decode cX3_tieOn 15 = .ok (.iload_n 2, 1) := by decide +kernel
theorem dX3_tieOn_16 : decode cX3_tieOn 16 = .ok (.iaload, 1) := by decide +kernel
theorem dX3_tieOn_17 : decode cX3_tieOn 17 = .ok (.aload_n 1, 1) := by decide +kernel
theorem dX3_tieOn_18 : decode cX3_tieOn 18 = .ok (.getfield 35, 3) := by decide +kernel
theorem dX3_tieOn_21 : decode cX3_tieOn 21 = .ok (.iload_n 2, 1) := by decide +kernel
theorem dX3_tieOn_22 : decode cX3_tieOn 22 = .ok (.iaload, 1) := by decide +kernel
theorem dX3_tieOn_23 : decode cX3_tieOn 23 = .ok (.invokevirtual 54, 3) := by decide +kernel
theorem dX3_tieOn_26 : decode cX3_tieOn 26 = .ok (.iinc 2 1, 3) := by decide +kernel
theorem dX3_tieOn_29 : decode cX3_tieOn 29 = .ok (.goto (-27), 3) := by decide +kernel
theorem dX3_tieOn_32 : decode cX3_tieOn 32 = .ok (.aload_n 0, 1) := by decide +kernel
theorem dX3_tieOn_33 : decode cX3_tieOn 33 = .ok (.aload_n 0, 1) := by decide +kernel
theorem dX3_tieOn_34 : decode cX3_tieOn 34 = .ok (.getfield 28, 3) := by decide +kernel
theorem dX3_tieOn_37 : decode cX3_tieOn 37 = .ok (.aload_n 1, 1) := by decide +kernel
theorem dX3_tieOn_38 : decode cX3_tieOn 38 = .ok (.getfield 28, 3) := by decide +kernel
theorem dX3_tieOn_41 : decode cX3_tieOn 41 = .ok (.invokestatic 48, 3) := by decide +kernel
theorem dX3_tieOn_44 : decode cX3_tieOn 44 = .ok (.putfield 28, 3) := by decide +kernel
theorem dX3_tieOn_47 : decode cX3_tieOn 47 = .ok (.aload_n 1, 1) := by decide +kernel
theorem dX3_tieOn_48 : decode cX3_tieOn 48 = .ok (.invokevirtual 58, 3) := by decide +kernel
theorem dX3_tieOn_51 : decode cX3_tieOn 51 = .ok (.return_, 1) := by decide +kernel
def fX3_tieOn_32 (l0 : Nat) (l1 : Nat) : mM Unit := bGI 3 l0 5 (fun x1 => bGI 3 l1 5 (fun x2 => bPI 3 l0 5 (jMax x1 x2) (bCallV 3 l1 (fX3_clear l1) (fun _ => bRet ()))))
set_option maxRecDepth 20000 in
theorem rX3_tieOn_32 (v : mE) (d : Nat) (l0 : Nat) (l1 : Nat) : Rz v RX3 cX3_tieOn 3 none false emU (d + 1) 32 [(0, vR l0), (1, vR l1)] [] (fX3_tieOn_32 l0 l1) := by
  unfold fX3_tieOn_32
  refine rz_aload_n 33 0 dX3_tieOn_32 rfl rfl ?_
  refine rz_aload_n 34 0 dX3_tieOn_33 rfl rfl ?_
  refine rz_gI 37 dX3_tieOn_34 rfl rfl fl_X3_28 (fun x1 => ?_)
  refine rz_aload_n 38 1 dX3_tieOn_37 rfl rfl ?_
  refine rz_gI 41 dX3_tieOn_38 rfl rfl fl_X3_28 (fun x2 => ?_)
  refine rz_mmax 44 dX3_tieOn_41 rfl ml_X3_48 rfl rfl ?_
  refine rz_pI 47 dX3_tieOn_44 rfl rfl rfl rfl fl_X3_28 ?_
  refine rz_aload_n 48 1 dX3_tieOn_47 rfl rfl ?_
  refine rz_callV 51 dX3_tieOn_48 rfl (tX3_clear v (d + 0) l1) rfl rfl rfl rfl ml_X3_58 im_X3_clear se_X3_X3_clear in_X3 co_X3_clear rfl rfl (fun _ => ?_)
  exact rz_return rfl rfl dX3_tieOn_51
def fX3_tieOn_2 : Nat → Nat → Nat → Int32 → mM Unit
  | 0 => fun _ _ _ => fun _ => none
  | n + 1 => fun l0 l1 l2 => let r2 := fX3_tieOn_2 n; bGI 3 l1 2 (fun x1 => bIf (x1 ≤ l2) (fX3_tieOn_32 l0 l1) (bGR 3 l1 6 (fun x2 => bAI 11 x2 l2 (fun x3 => bGR 3 l1 7 (fun x4 => bAI 11 x4 l2 (fun x5 => bCallV 3 l0 (fX3_add l0 x3 x5) (fun _ => r2 l0 l1 (l2 + 1))))))))
theorem qX3_tieOn_2  (n : Nat) (l0 : Nat) (l1 : Nat) (l2 : Int32) : fX3_tieOn_2 (n + 1) l0 l1 l2 = bGI 3 l1 2 (fun x1 => bIf (x1 ≤ l2) (fX3_tieOn_32 l0 l1) (bGR 3 l1 6 (fun x2 => bAI 11 x2 l2 (fun x3 => bGR 3 l1 7 (fun x4 => bAI 11 x4 l2 (fun x5 => bCallV 3 l0 (fX3_add l0 x3 x5) (fun _ => (fX3_tieOn_2 n) l0 l1 (l2 + 1)))))))) := rfl
set_option maxRecDepth 20000 in
theorem rX3_tieOn_2 (v : mE) (d : Nat) : ∀ (n : Nat) (l0 : Nat) (l1 : Nat) (l2 : Int32), Rz v RX3 cX3_tieOn 3 none false emU (d + 1) 2 [(0, vR l0), (1, vR l1), (2, vI l2)] [] (fX3_tieOn_2 n l0 l1 l2)
  | 0, _, _, _ => fun _ _ _ hm => by cases hm
  | n + 1, l0, l1, l2 => by
    have h2 := rX3_tieOn_2 v d n
    unfold fX3_tieOn_2
    generalize fX3_tieOn_2 n = r2 at h2 ⊢
    refine rz_iload_n 3 2 dX3_tieOn_2 rfl rfl ?_
    refine rz_aload_n 4 1 dX3_tieOn_3 rfl rfl ?_
    refine rz_gI 7 dX3_tieOn_4 rfl rfl fl_X3_18 (fun x1 => ?_)
    refine rz_icmp_ge 32 10 dX3_tieOn_7 rfl rfl ?_ ?_
    · exact rz_sub [0, 1] rfl (rX3_tieOn_32 v d l0 l1)
    · refine rz_aload_n 11 0 dX3_tieOn_10 rfl rfl ?_
      refine rz_aload_n 12 1 dX3_tieOn_11 rfl rfl ?_
      refine rz_gR 15 dX3_tieOn_12 rfl rfl fl_X3_31 (fun x2 => ?_)
      refine rz_iload_n 16 2 dX3_tieOn_15 rfl rfl ?_
      refine rz_iald 17 dX3_tieOn_16 rfl (fun x3 => ?_)
      refine rz_aload_n 18 1 dX3_tieOn_17 rfl rfl ?_
      refine rz_gR 21 dX3_tieOn_18 rfl rfl fl_X3_35 (fun x4 => ?_)
      refine rz_iload_n 22 2 dX3_tieOn_21 rfl rfl ?_
      refine rz_iald 23 dX3_tieOn_22 rfl (fun x5 => ?_)
      refine rz_callV 26 dX3_tieOn_23 rfl (tX3_add v (d + 0) l0 x3 x5) rfl rfl rfl rfl ml_X3_54 im_X3_add se_X3_X3_add in_X3 co_X3_add rfl rfl (fun _ => ?_)
      refine rz_iinc (lv' := [(2, vI (l2 + 1)), (0, vR l0), (1, vR l1)]) 29 2 dX3_tieOn_26 rfl rfl (cn_1 _) rfl rfl ?_
      refine rz_goto 2 dX3_tieOn_29 rfl ?_
      exact rz_sub [1, 2, 0] rfl (h2 l0 l1 (l2 + 1))
def fX3_tieOn (l0 : Nat) (l1 : Nat) : mM Unit := fX3_tieOn_2 fu l0 l1 (0 : Int32)
set_option maxRecDepth 20000 in
theorem rX3_tieOn (v : mE) (d : Nat) (l0 : Nat) (l1 : Nat) : Rz v RX3 cX3_tieOn 3 none false emU (d + 1) 0 [(0, vR l0), (1, vR l1)] [] (fX3_tieOn l0 l1) := by
  unfold fX3_tieOn
  refine rz_iconst 1 dX3_tieOn_0 rfl ci_0 ?_
  refine rz_istore_n (lv' := [(2, vI (0 : Int32)), (0, vR l0), (1, vR l1)]) 2 dX3_tieOn_1 rfl rfl rfl ?_
  exact rz_sub [1, 2, 0] rfl (rX3_tieOn_2 v d fu l0 l1 (0 : Int32))
theorem tX3_tieOn (v : mE) (d : Nat) (l0 : Nat) (l1 : Nat) : Mt v yX3_tieOn cX3_tieOn 3 none emU (d + 1) [vR l0, vR l1] (fX3_tieOn l0 l1) := mt_of rfl rfl (fun h => by cases h) rfl rfl (rX3_tieOn v d l0 l1)
theorem dX3_splitAt_0 : decode cX3_splitAt 0 = .ok (.aload_n 2, 1) := by decide +kernel
theorem dX3_splitAt_1 : decode cX3_splitAt 1 = .ok (.invokevirtual 58, 3) := by decide +kernel
theorem dX3_splitAt_4 : decode cX3_splitAt 4 = .ok (.aload_n 2, 1) := by decide +kernel
theorem dX3_splitAt_5 : decode cX3_splitAt 5 = .ok (.aload_n 0, 1) := by decide +kernel
theorem dX3_splitAt_6 : decode cX3_splitAt 6 = .ok (.getfield 9, 3) := by decide +kernel
theorem dX3_splitAt_9 : decode cX3_splitAt 9 = .ok (.putfield 9, 3) := by decide +kernel
theorem dX3_splitAt_12 : decode cX3_splitAt 12 = .ok (.aload_n 2, 1) := by decide +kernel
theorem dX3_splitAt_13 : decode cX3_splitAt 13 = .ok (.aload_n 0, 1) := by decide +kernel
theorem dX3_splitAt_14 : decode cX3_splitAt 14 = .ok (.getfield 28, 3) := by decide +kernel
theorem dX3_splitAt_17 : decode cX3_splitAt 17 = .ok (.putfield 28, 3) := by decide +kernel
theorem dX3_splitAt_20 : decode cX3_splitAt 20 = .ok (.iconst 0, 1) := by decide +kernel
theorem dX3_splitAt_21 : decode cX3_splitAt 21 = .ok (.istore_n 3, 1) := by decide +kernel
theorem dX3_splitAt_22 : decode cX3_splitAt 22 = .ok (.iconst 0, 1) := by decide +kernel
theorem dX3_splitAt_23 : decode cX3_splitAt 23 = .ok (.istore 4, 2) := by decide +kernel
theorem dX3_splitAt_25 : decode cX3_splitAt 25 = .ok (.iconst 0, 1) := by decide +kernel
theorem dX3_splitAt_26 : decode cX3_splitAt 26 = .ok (.istore 5, 2) := by decide +kernel
theorem dX3_splitAt_28 : decode cX3_splitAt 28 = .ok (.iload 5, 2) := by decide +kernel
theorem dX3_splitAt_30 : decode cX3_splitAt 30 = .ok (.aload_n 0, 1) := by decide +kernel
theorem dX3_splitAt_31 : decode cX3_splitAt 31 = .ok (.getfield 18, 3) := by decide +kernel
theorem dX3_splitAt_34 : decode cX3_splitAt 34 = .ok (.if_icmp .ge 78, 3) := by decide +kernel
theorem dX3_splitAt_37 : decode cX3_splitAt 37 = .ok (.iload 4, 2) := by decide +kernel
theorem dX3_splitAt_39 : decode cX3_splitAt 39 = .ok (.aload_n 0, 1) := by decide +kernel
theorem dX3_splitAt_40 : decode cX3_splitAt 40 = .ok (.getfield 31, 3) := by decide +kernel
theorem dX3_splitAt_43 : decode cX3_splitAt 43 = .ok (.iload 5, 2) := by decide +kernel
theorem dX3_splitAt_45 : decode cX3_splitAt 45 = .ok (.iaload, 1) := by decide +kernel
theorem dX3_splitAt_46 : decode cX3_splitAt 46 = .ok (.iadd, 1) := by decide +kernel
theorem dX3_splitAt_47 : decode cX3_splitAt 47 = .ok (.istore 6, 2) := by decide +kernel
theorem dX3_splitAt_49 : decode cX3_splitAt 49 = .ok (.iload 6, 2) := by decide +kernel
theorem dX3_splitAt_51 : decode cX3_splitAt 51 = .ok (.iload_n 1, 1) := by decide +kernel
theorem dX3_splitAt_52 : decode cX3_splitAt 52 = .ok (.if_icmp .le 23, 3) := by decide +kernel
theorem dX3_splitAt_55 : decode cX3_splitAt 55 = .ok (.aload_n 2, 1) := by decide +kernel
theorem dX3_splitAt_56 : decode cX3_splitAt 56 = .ok (.iload 6, 2) := by decide +kernel
theorem dX3_splitAt_58 : decode cX3_splitAt 58 = .ok (.iload 4, 2) := by decide +kernel
theorem dX3_splitAt_60 : decode cX3_splitAt 60 = .ok (.iload_n 1, 1) := by decide +kernel
theorem dX3_splitAt_61 : decode cX3_splitAt 61 = .ok (.invokestatic 48, 3) := by decide +kernel
theorem dX3_splitAt_64 : decode cX3_splitAt 64 = .ok (.isub, 1) := by decide +kernel
theorem dX3_splitAt_65 : decode cX3_splitAt 65 = .ok (.aload_n 0, 1) := by decide +kernel
theorem dX3_splitAt_66 : decode cX3_splitAt 66 = .ok (.getfield 35, 3) := by decide +kernel
theorem dX3_splitAt_69 : decode cX3_splitAt 69 = .ok (.iload 5, 2) := by decide +kernel
theorem dX3_splitAt_71 : decode cX3_splitAt 71 = .ok (.iaload, 1) := by decide +kernel
theorem dX3_splitAt_72 : decode cX3_splitAt 72 = .ok (.invokevirtual 54, 3) := by decide +kernel
theorem dX3_splitAt_75 : decode cX3_splitAt 75 = .ok (.iload 4, 2) := by decide +kernel
theorem dX3_splitAt_77 : decode cX3_splitAt 77 = .ok (.iload_n 1, 1) := by decide +kernel
theorem dX3_splitAt_78 : decode cX3_splitAt 78 = .ok (.if_icmp .ge 24, 3) := by decide +kernel
theorem dX3_splitAt_81 : decode cX3_splitAt 81 = .ok (.aload_n 0, 1) := by decide +kernel
theorem dX3_splitAt_82 : decode cX3_splitAt 82 = .ok (.getfield 31, 3) := by decide +kernel
theorem dX3_splitAt_85 : decode cX3_splitAt 85 = .ok (.iload 5, 2) := by decide +kernel
theorem dX3_splitAt_87 : decode cX3_splitAt 87 = .ok (.iload 6, 2) := by decide +kernel
theorem dX3_splitAt_89 : decode cX3_splitAt 89 = .ok (.iload_n 1, 1) := by decide +kernel
theorem dX3_splitAt_90 : decode cX3_splitAt 90 = .ok (.invokestatic 61, 3) := by decide +kernel
theorem dX3_splitAt_93 : decode cX3_splitAt 93 = .ok (.iload 4, 2) := by decide +kernel
theorem dX3_splitAt_95 : decode cX3_splitAt 95 = .ok (.isub, 1) := by decide +kernel
theorem dX3_splitAt_96 : decode cX3_splitAt 96 = .ok (.iastore, 1) := by decide +kernel
theorem dX3_splitAt_97 : decode cX3_splitAt 97 = .ok (.iload 5, 2) := by decide +kernel
theorem dX3_splitAt_99 : decode cX3_splitAt 99 = .ok (.iconst 1, 1) := by decide +kernel
theorem dX3_splitAt_100 : decode cX3_splitAt 100 = .ok (.iadd, 1) := by decide +kernel
theorem dX3_splitAt_101 : decode cX3_splitAt 101 = .ok (.istore_n 3, 1) := by decide +kernel
theorem dX3_splitAt_102 : decode cX3_splitAt 102 = .ok (.iload 6, 2) := by decide +kernel
theorem dX3_splitAt_104 : decode cX3_splitAt 104 = .ok (.istore 4, 2) := by decide +kernel
theorem dX3_splitAt_106 : decode cX3_splitAt 106 = .ok (.iinc 5 1, 3) := by decide +kernel
theorem dX3_splitAt_109 : decode cX3_splitAt 109 = .ok (.goto (-81), 3) := by decide +kernel
theorem dX3_splitAt_112 : decode cX3_splitAt 112 = .ok (.aload_n 0, 1) := by decide +kernel
theorem dX3_splitAt_113 : decode cX3_splitAt 113 = .ok (.iload_n 3, 1) := by decide +kernel
theorem dX3_splitAt_114 : decode cX3_splitAt 114 = .ok (.putfield 18, 3) := by decide +kernel
theorem dX3_splitAt_117 : decode cX3_splitAt 117 = .ok (.aload_n 0, 1) := by decide +kernel
theorem dX3_splitAt_118 : decode cX3_splitAt 118 = .ok (.aload_n 0, 1) := by decide +kernel
theorem dX3_splitAt_119 : decode cX3_splitAt 119 = .ok (.getfield 21, 3) := by decide +kernel
theorem dX3_splitAt_122 : decode cX3_splitAt 122 = .ok (.iload_n 1, 1) := by decide +kernel
theorem dX3_splitAt_123 : decode cX3_splitAt 123 = .ok (.invokestatic 61, 3) := by decide +kernel
theorem dX3_splitAt_126 : decode cX3_splitAt 126 = .ok (.putfield 21, 3) := by decide +kernel
theorem dX3_splitAt_129 : decode cX3_splitAt 129 = .ok (.return_, 1) := by decide +kernel
def fX3_splitAt_112 (l0 : Nat) (l1 : Int32) (l3 : Int32) : mM Unit := bPI 3 l0 2 l3 (bGI 3 l0 3 (fun x1 => bPI 3 l0 3 (jMin x1 l1) (bRet ())))
set_option maxRecDepth 20000 in
theorem rX3_splitAt_112 (v : mE) (d : Nat) (l0 : Nat) (l1 : Int32) (l3 : Int32) : Rz v RX3 cX3_splitAt 7 none false emU (d + 1) 112 [(0, vR l0), (1, vI l1), (3, vI l3)] [] (fX3_splitAt_112 l0 l1 l3) := by
  unfold fX3_splitAt_112
  refine rz_aload_n 113 0 dX3_splitAt_112 rfl rfl ?_
  refine rz_iload_n 114 2 dX3_splitAt_113 rfl rfl ?_
  refine rz_pI 117 dX3_splitAt_114 rfl rfl rfl rfl fl_X3_18 ?_
  refine rz_aload_n 118 0 dX3_splitAt_117 rfl rfl ?_
  refine rz_aload_n 119 0 dX3_splitAt_118 rfl rfl ?_
  refine rz_gI 122 dX3_splitAt_119 rfl rfl fl_X3_21 (fun x1 => ?_)
  refine rz_iload_n 123 1 dX3_splitAt_122 rfl rfl ?_
  refine rz_mmin 126 dX3_splitAt_123 rfl ml_X3_61 rfl rfl ?_
  refine rz_pI 129 dX3_splitAt_126 rfl rfl rfl rfl fl_X3_21 ?_
  exact rz_return rfl rfl dX3_splitAt_129
def fX3_splitAt_102 (r28 : Nat → Int32 → Nat → Int32 → Int32 → Int32 → mM Unit) (l0 : Nat) (l1 : Int32) (l2 : Nat) (l3 : Int32) (l5 : Int32) (l6 : Int32) : mM Unit := r28 l0 l1 l2 l3 l6 (l5 + 1)
set_option maxRecDepth 20000 in
theorem rX3_splitAt_102 (v : mE) (d : Nat) (r28 : Nat → Int32 → Nat → Int32 → Int32 → Int32 → mM Unit) (h28 : ∀ (y0 : Nat) (y1 : Int32) (y2 : Nat) (y3 : Int32) (y4 : Int32) (y5 : Int32), Rz v RX3 cX3_splitAt 7 none false emU (d + 1) 28 [(0, vR y0), (1, vI y1), (2, vR y2), (3, vI y3), (4, vI y4), (5, vI y5)] [] (r28 y0 y1 y2 y3 y4 y5)) (l0 : Nat) (l1 : Int32) (l2 : Nat) (l3 : Int32) (l5 : Int32) (l6 : Int32) : Rz v RX3 cX3_splitAt 7 none false emU (d + 1) 102 [(0, vR l0), (1, vI l1), (2, vR l2), (3, vI l3), (5, vI l5), (6, vI l6)] [] (fX3_splitAt_102 r28 l0 l1 l2 l3 l5 l6) := by
  unfold fX3_splitAt_102
  refine rz_iload 104 5 dX3_splitAt_102 rfl rfl ?_
  refine rz_istore (lv' := [(4, vI l6), (0, vR l0), (1, vI l1), (2, vR l2), (3, vI l3), (5, vI l5), (6, vI l6)]) 106 dX3_splitAt_104 rfl rfl rfl ?_
  refine rz_iinc (lv' := [(5, vI (l5 + 1)), (4, vI l6), (0, vR l0), (1, vI l1), (2, vR l2), (3, vI l3), (6, vI l6)]) 109 5 dX3_splitAt_106 rfl rfl (cn_1 _) rfl rfl ?_
  refine rz_goto 28 dX3_splitAt_109 rfl ?_
  exact rz_sub [2, 3, 4, 5, 1, 0] rfl (h28 l0 l1 l2 l3 l6 (l5 + 1))
def fX3_splitAt_75 (r28 : Nat → Int32 → Nat → Int32 → Int32 → Int32 → mM Unit) (l0 : Nat) (l1 : Int32) (l2 : Nat) (l3 : Int32) (l4 : Int32) (l5 : Int32) (l6 : Int32) : mM Unit := bIf (l1 ≤ l4) (fX3_splitAt_102 r28 l0 l1 l2 l3 l5 l6) (bGR 3 l0 6 (fun x1 => bSI x1 l5 ((jMin l6 l1) - l4) (fX3_splitAt_102 r28 l0 l1 l2 (l5 + (1 : Int32)) l5 l6)))
set_option maxRecDepth 20000 in
theorem rX3_splitAt_75 (v : mE) (d : Nat) (r28 : Nat → Int32 → Nat → Int32 → Int32 → Int32 → mM Unit) (h28 : ∀ (y0 : Nat) (y1 : Int32) (y2 : Nat) (y3 : Int32) (y4 : Int32) (y5 : Int32), Rz v RX3 cX3_splitAt 7 none false emU (d + 1) 28 [(0, vR y0), (1, vI y1), (2, vR y2), (3, vI y3), (4, vI y4), (5, vI y5)] [] (r28 y0 y1 y2 y3 y4 y5)) (l0 : Nat) (l1 : Int32) (l2 : Nat) (l3 : Int32) (l4 : Int32) (l5 : Int32) (l6 : Int32) : Rz v RX3 cX3_splitAt 7 none false emU (d + 1) 75 [(0, vR l0), (1, vI l1), (2, vR l2), (3, vI l3), (4, vI l4), (5, vI l5), (6, vI l6)] [] (fX3_splitAt_75 r28 l0 l1 l2 l3 l4 l5 l6) := by
  unfold fX3_splitAt_75
  refine rz_iload 77 4 dX3_splitAt_75 rfl rfl ?_
  refine rz_iload_n 78 1 dX3_splitAt_77 rfl rfl ?_
  refine rz_icmp_ge 102 81 dX3_splitAt_78 rfl rfl ?_ ?_
  · exact rz_sub [0, 1, 2, 3, 5, 6] rfl (rX3_splitAt_102 v d r28 h28 l0 l1 l2 l3 l5 l6)
  · refine rz_aload_n 82 0 dX3_splitAt_81 rfl rfl ?_
    refine rz_gR 85 dX3_splitAt_82 rfl rfl fl_X3_31 (fun x1 => ?_)
    refine rz_iload 87 5 dX3_splitAt_85 rfl rfl ?_
    refine rz_iload 89 6 dX3_splitAt_87 rfl rfl ?_
    refine rz_iload_n 90 1 dX3_splitAt_89 rfl rfl ?_
    refine rz_mmin 93 dX3_splitAt_90 rfl ml_X3_61 rfl rfl ?_
    refine rz_iload 95 4 dX3_splitAt_93 rfl rfl ?_
    refine rz_isub 96 dX3_splitAt_95 rfl ?_
    refine rz_iast 97 dX3_splitAt_96 rfl ?_
    refine rz_iload 99 5 dX3_splitAt_97 rfl rfl ?_
    refine rz_iconst 100 dX3_splitAt_99 rfl ci_1 ?_
    refine rz_iadd 101 dX3_splitAt_100 rfl ?_
    refine rz_istore_n (lv' := [(3, vI (l5 + (1 : Int32))), (0, vR l0), (1, vI l1), (2, vR l2), (4, vI l4), (5, vI l5), (6, vI l6)]) 102 dX3_splitAt_101 rfl rfl rfl ?_
    exact rz_sub [1, 2, 3, 0, 5, 6] rfl (rX3_splitAt_102 v d r28 h28 l0 l1 l2 (l5 + (1 : Int32)) l5 l6)
def fX3_splitAt_28 : Nat → Nat → Int32 → Nat → Int32 → Int32 → Int32 → mM Unit
  | 0 => fun _ _ _ _ _ _ => fun _ => none
  | n + 1 => fun l0 l1 l2 l3 l4 l5 => let r28 := fX3_splitAt_28 n; bGI 3 l0 2 (fun x1 => bIf (x1 ≤ l5) (fX3_splitAt_112 l0 l1 l3) (bGR 3 l0 6 (fun x2 => bAI 11 x2 l5 (fun x3 => bIf ((l4 + x3) ≤ l1) (fX3_splitAt_75 r28 l0 l1 l2 l3 l4 l5 (l4 + x3)) (bGR 3 l0 7 (fun x4 => bAI 11 x4 l5 (fun x5 => bCallV 3 l2 (fX3_add l2 ((l4 + x3) - (jMax l4 l1)) x5) (fun _ => fX3_splitAt_75 r28 l0 l1 l2 l3 l4 l5 (l4 + x3)))))))))
theorem qX3_splitAt_28  (n : Nat) (l0 : Nat) (l1 : Int32) (l2 : Nat) (l3 : Int32) (l4 : Int32) (l5 : Int32) : fX3_splitAt_28 (n + 1) l0 l1 l2 l3 l4 l5 = bGI 3 l0 2 (fun x1 => bIf (x1 ≤ l5) (fX3_splitAt_112 l0 l1 l3) (bGR 3 l0 6 (fun x2 => bAI 11 x2 l5 (fun x3 => bIf ((l4 + x3) ≤ l1) (fX3_splitAt_75 (fX3_splitAt_28 n) l0 l1 l2 l3 l4 l5 (l4 + x3)) (bGR 3 l0 7 (fun x4 => bAI 11 x4 l5 (fun x5 => bCallV 3 l2 (fX3_add l2 ((l4 + x3) - (jMax l4 l1)) x5) (fun _ => fX3_splitAt_75 (fX3_splitAt_28 n) l0 l1 l2 l3 l4 l5 (l4 + x3))))))))) := rfl
set_option maxRecDepth 20000 in
theorem rX3_splitAt_28 (v : mE) (d : Nat) : ∀ (n : Nat) (l0 : Nat) (l1 : Int32) (l2 : Nat) (l3 : Int32) (l4 : Int32) (l5 : Int32), Rz v RX3 cX3_splitAt 7 none false emU (d + 1) 28 [(0, vR l0), (1, vI l1), (2, vR l2), (3, vI l3), (4, vI l4), (5, vI l5)] [] (fX3_splitAt_28 n l0 l1 l2 l3 l4 l5)
  | 0, _, _, _, _, _, _ => fun _ _ _ hm => by cases hm
  | n + 1, l0, l1, l2, l3, l4, l5 => by
    have h28 := rX3_splitAt_28 v d n
    unfold fX3_splitAt_28
    generalize fX3_splitAt_28 n = r28 at h28 ⊢
    refine rz_iload 30 5 dX3_splitAt_28 rfl rfl ?_
    refine rz_aload_n 31 0 dX3_splitAt_30 rfl rfl ?_
    refine rz_gI 34 dX3_splitAt_31 rfl rfl fl_X3_18 (fun x1 => ?_)
    refine rz_icmp_ge 112 37 dX3_splitAt_34 rfl rfl ?_ ?_
    · exact rz_sub [0, 1, 3] rfl (rX3_splitAt_112 v d l0 l1 l3)
    · refine rz_iload 39 4 dX3_splitAt_37 rfl rfl ?_
      refine rz_aload_n 40 0 dX3_splitAt_39 rfl rfl ?_
      refine rz_gR 43 dX3_splitAt_40 rfl rfl fl_X3_31 (fun x2 => ?_)
      refine rz_iload 45 5 dX3_splitAt_43 rfl rfl ?_
      refine rz_iald 46 dX3_splitAt_45 rfl (fun x3 => ?_)
      refine rz_iadd 47 dX3_splitAt_46 rfl ?_
      refine rz_istore (lv' := [(6, vI (l4 + x3)), (0, vR l0), (1, vI l1), (2, vR l2), (3, vI l3), (4, vI l4), (5, vI l5)]) 49 dX3_splitAt_47 rfl rfl rfl ?_
      refine rz_iload 51 0 dX3_splitAt_49 rfl rfl ?_
      refine rz_iload_n 52 2 dX3_splitAt_51 rfl rfl ?_
      refine rz_icmp_le 75 55 dX3_splitAt_52 rfl rfl ?_ ?_
      · exact rz_sub [1, 2, 3, 4, 5, 6, 0] rfl (rX3_splitAt_75 v d r28 h28 l0 l1 l2 l3 l4 l5 (l4 + x3))
      · refine rz_aload_n 56 3 dX3_splitAt_55 rfl rfl ?_
        refine rz_iload 58 0 dX3_splitAt_56 rfl rfl ?_
        refine rz_iload 60 5 dX3_splitAt_58 rfl rfl ?_
        refine rz_iload_n 61 2 dX3_splitAt_60 rfl rfl ?_
        refine rz_mmax 64 dX3_splitAt_61 rfl ml_X3_48 rfl rfl ?_
        refine rz_isub 65 dX3_splitAt_64 rfl ?_
        refine rz_aload_n 66 1 dX3_splitAt_65 rfl rfl ?_
        refine rz_gR 69 dX3_splitAt_66 rfl rfl fl_X3_35 (fun x4 => ?_)
        refine rz_iload 71 6 dX3_splitAt_69 rfl rfl ?_
        refine rz_iald 72 dX3_splitAt_71 rfl (fun x5 => ?_)
        refine rz_callV 75 dX3_splitAt_72 rfl (tX3_add v (d + 0) l2 ((l4 + x3) - (jMax l4 l1)) x5) rfl rfl rfl rfl ml_X3_54 im_X3_add se_X3_X3_add in_X3 co_X3_add rfl rfl (fun _ => ?_)
        exact rz_sub [1, 2, 3, 4, 5, 6, 0] rfl (rX3_splitAt_75 v d r28 h28 l0 l1 l2 l3 l4 l5 (l4 + x3))
def fX3_splitAt (l0 : Nat) (l1 : Int32) (l2 : Nat) : mM Unit := bCallV 3 l2 (fX3_clear l2) (fun _ => bGI 3 l0 0 (fun x1 => bPI 3 l2 0 x1 (bGI 3 l0 5 (fun x2 => bPI 3 l2 5 x2 (fX3_splitAt_28 fu l0 l1 l2 (0 : Int32) (0 : Int32) (0 : Int32))))))
set_option maxRecDepth 20000 in
theorem rX3_splitAt (v : mE) (d : Nat) (l0 : Nat) (l1 : Int32) (l2 : Nat) : Rz v RX3 cX3_splitAt 7 none false emU (d + 1) 0 [(0, vR l0), (1, vI l1), (2, vR l2)] [] (fX3_splitAt l0 l1 l2) := by
  unfold fX3_splitAt
  refine rz_aload_n 1 2 dX3_splitAt_0 rfl rfl ?_
  refine rz_callV 4 dX3_splitAt_1 rfl (tX3_clear v (d + 0) l2) rfl rfl rfl rfl ml_X3_58 im_X3_clear se_X3_X3_clear in_X3 co_X3_clear rfl rfl (fun _ => ?_)
  refine rz_aload_n 5 2 dX3_splitAt_4 rfl rfl ?_
  refine rz_aload_n 6 0 dX3_splitAt_5 rfl rfl ?_
  refine rz_gI 9 dX3_splitAt_6 rfl rfl fl_X3_9 (fun x1 => ?_)
  refine rz_pI 12 dX3_splitAt_9 rfl rfl rfl rfl fl_X3_9 ?_
  refine rz_aload_n 13 2 dX3_splitAt_12 rfl rfl ?_
  refine rz_aload_n 14 0 dX3_splitAt_13 rfl rfl ?_
  refine rz_gI 17 dX3_splitAt_14 rfl rfl fl_X3_28 (fun x2 => ?_)
  refine rz_pI 20 dX3_splitAt_17 rfl rfl rfl rfl fl_X3_28 ?_
  refine rz_iconst 21 dX3_splitAt_20 rfl ci_0 ?_
  refine rz_istore_n (lv' := [(3, vI (0 : Int32)), (0, vR l0), (1, vI l1), (2, vR l2)]) 22 dX3_splitAt_21 rfl rfl rfl ?_
  refine rz_iconst 23 dX3_splitAt_22 rfl ci_0 ?_
  refine rz_istore (lv' := [(4, vI (0 : Int32)), (3, vI (0 : Int32)), (0, vR l0), (1, vI l1), (2, vR l2)]) 25 dX3_splitAt_23 rfl rfl rfl ?_
  refine rz_iconst 26 dX3_splitAt_25 rfl ci_0 ?_
  refine rz_istore (lv' := [(5, vI (0 : Int32)), (4, vI (0 : Int32)), (3, vI (0 : Int32)), (0, vR l0), (1, vI l1), (2, vR l2)]) 28 dX3_splitAt_26 rfl rfl rfl ?_
  exact rz_sub [3, 4, 5, 2, 1, 0] rfl (rX3_splitAt_28 v d fu l0 l1 l2 (0 : Int32) (0 : Int32) (0 : Int32))
theorem tX3_splitAt (v : mE) (d : Nat) (l0 : Nat) (l1 : Int32) (l2 : Nat) : Mt v yX3_splitAt cX3_splitAt 7 none emU (d + 1) [vR l0, vI l1, vR l2] (fX3_splitAt l0 l1 l2) := mt_of rfl rfl (fun h => by cases h) rfl rfl (rX3_splitAt v d l0 l1 l2)
theorem dX3_power_0 : decode cX3_power 0 = .ok (.lconst 1, 1) := by decide +kernel
theorem dX3_power_1 : decode cX3_power 1 = .ok (.lstore_n 2, 1) := by decide +kernel
theorem dX3_power_2 : decode cX3_power 2 = .ok (.iconst 0, 1) := by decide +kernel
theorem dX3_power_3 : decode cX3_power 3 = .ok (.istore 4, 2) := by decide +kernel
theorem dX3_power_5 : decode cX3_power 5 = .ok (.iload 4, 2) := by decide +kernel
theorem dX3_power_7 : decode cX3_power 7 = .ok (.iload_n 1, 1) := by decide +kernel
theorem dX3_power_8 : decode cX3_power 8 = .ok (.if_icmp .ge 14, 3) := by decide +kernel
theorem dX3_power_11 : decode cX3_power 11 = .ok (.lload_n 2, 1) := by decide +kernel
theorem dX3_power_12 : decode cX3_power 12 = .ok (.iload_n 0, 1) := by decide +kernel
theorem dX3_power_13 : decode cX3_power 13 = .ok (.i2l, 1) := by decide +kernel
theorem dX3_power_14 : decode cX3_power 14 = .ok (.lmul, 1) := by decide +kernel
theorem dX3_power_15 : decode cX3_power 15 = .ok (.lstore_n 2, 1) := by decide +kernel
theorem dX3_power_16 : decode cX3_power 16 = .ok (.iinc 4 1, 3) := by decide +kernel
theorem dX3_power_19 : decode cX3_power 19 = .ok (.goto (-14), 3) := by decide +kernel
theorem dX3_power_22 : decode cX3_power 22 = .ok (.lload_n 2, 1) := by decide +kernel
theorem dX3_power_23 : decode cX3_power 23 = .ok (.lreturn, 1) := by decide +kernel
def fX3_power_5 : Nat → Int32 → Int32 → Int64 → Int32 → mM Int64
  | 0 => fun _ _ _ _ => fun _ => none
  | n + 1 => fun l0 l1 l2 l4 => let r5 := fX3_power_5 n; bIf (l1 ≤ l4) (bRet l2) (r5 l0 l1 (l2 * (Int32.toInt64 l0)) (l4 + 1))
theorem qX3_power_5  (n : Nat) (l0 : Int32) (l1 : Int32) (l2 : Int64) (l4 : Int32) : fX3_power_5 (n + 1) l0 l1 l2 l4 = bIf (l1 ≤ l4) (bRet l2) ((fX3_power_5 n) l0 l1 (l2 * (Int32.toInt64 l0)) (l4 + 1)) := rfl
set_option maxRecDepth 20000 in
theorem rX3_power_5 (v : mE) (d : Nat) : ∀ (n : Nat) (l0 : Int32) (l1 : Int32) (l2 : Int64) (l4 : Int32), Rz v RX3 cX3_power 5 (some .long) false emL (d + 0) 5 [(0, vI l0), (1, vI l1), (2, vL l2), (4, vI l4)] [] (fX3_power_5 n l0 l1 l2 l4)
  | 0, _, _, _, _ => fun _ _ _ hm => by cases hm
  | n + 1, l0, l1, l2, l4 => by
    have h5 := rX3_power_5 v d n
    unfold fX3_power_5
    generalize fX3_power_5 n = r5 at h5 ⊢
    refine rz_iload 7 3 dX3_power_5 rfl rfl ?_
    refine rz_iload_n 8 1 dX3_power_7 rfl rfl ?_
    refine rz_icmp_ge 22 11 dX3_power_8 rfl rfl ?_ ?_
    · refine rz_lload_n 23 2 dX3_power_22 rfl rfl ?_
      exact rz_lreturn rfl rfl dX3_power_23
    · refine rz_lload_n 12 2 dX3_power_11 rfl rfl ?_
      refine rz_iload_n 13 0 dX3_power_12 rfl rfl ?_
      refine rz_i2l 14 dX3_power_13 rfl ?_
      refine rz_lmul 15 dX3_power_14 rfl ?_
      refine rz_lstore_n (lv' := [(2, vL (l2 * (Int32.toInt64 l0))), (0, vI l0), (1, vI l1), (4, vI l4)]) 16 dX3_power_15 rfl rfl rfl ?_
      refine rz_iinc (lv' := [(4, vI (l4 + 1)), (2, vL (l2 * (Int32.toInt64 l0))), (0, vI l0), (1, vI l1)]) 19 3 dX3_power_16 rfl rfl (cn_1 _) rfl rfl ?_
      refine rz_goto 5 dX3_power_19 rfl ?_
      exact rz_sub [2, 3, 1, 0] rfl (h5 l0 l1 (l2 * (Int32.toInt64 l0)) (l4 + 1))
def fX3_power (l0 : Int32) (l1 : Int32) : mM Int64 := fX3_power_5 fu l0 l1 (1 : Int64) (0 : Int32)
set_option maxRecDepth 20000 in
theorem rX3_power (v : mE) (d : Nat) (l0 : Int32) (l1 : Int32) : Rz v RX3 cX3_power 5 (some .long) false emL (d + 0) 0 [(0, vI l0), (1, vI l1)] [] (fX3_power l0 l1) := by
  unfold fX3_power
  refine rz_lconst 1 dX3_power_0 rfl cl_1 ?_
  refine rz_lstore_n (lv' := [(2, vL (1 : Int64)), (0, vI l0), (1, vI l1)]) 2 dX3_power_1 rfl rfl rfl ?_
  refine rz_iconst 3 dX3_power_2 rfl ci_0 ?_
  refine rz_istore (lv' := [(4, vI (0 : Int32)), (2, vL (1 : Int64)), (0, vI l0), (1, vI l1)]) 5 dX3_power_3 rfl rfl rfl ?_
  exact rz_sub [2, 3, 1, 0] rfl (rX3_power_5 v d fu l0 l1 (1 : Int64) (0 : Int32))
theorem tX3_power (v : mE) (d : Nat) (l0 : Int32) (l1 : Int32) : Mt v yX3_power cX3_power 5 (some .long) emL (d + 0) [vI l0, vI l1] (fX3_power l0 l1) := mt_of rfl rfl (fun h => by cases h) rfl rfl (rX3_power v d l0 l1)
theorem dX3_holdsTop_0 : decode cX3_holdsTop 0 = .ok (.bipush 16, 2) := by decide +kernel
theorem dX3_holdsTop_2 : decode cX3_holdsTop 2 = .ok (.aload_n 0, 1) := by decide +kernel
theorem dX3_holdsTop_3 : decode cX3_holdsTop 3 = .ok (.getfield 28, 3) := by decide +kernel
theorem dX3_holdsTop_6 : decode cX3_holdsTop 6 = .ok (.isub, 1) := by decide +kernel
theorem dX3_holdsTop_7 : decode cX3_holdsTop 7 = .ok (.aload_n 0, 1) := by decide +kernel
theorem dX3_holdsTop_8 : decode cX3_holdsTop 8 = .ok (.invokevirtual 44, 3) := by decide +kernel
theorem dX3_holdsTop_11 : decode cX3_holdsTop 11 = .ok (.invokestatic 64, 3) := by decide +kernel
theorem dX3_holdsTop_14 : decode cX3_holdsTop 14 = .ok (.lreturn, 1) := by decide +kernel
def fX3_holdsTop (l0 : Nat) : mM Int64 := bGI 3 l0 5 (fun x1 => bCallV 3 l0 (fX3_knots l0) (fun x2 => bCall (fX3_power ((16 : Int32) - x1) x2) (fun x3 => bRet x3)))
set_option maxRecDepth 20000 in
theorem rX3_holdsTop (v : mE) (d : Nat) (l0 : Nat) : Rz v RX3 cX3_holdsTop 1 (some .long) false emL (d + 1) 0 [(0, vR l0)] [] (fX3_holdsTop l0) := by
  unfold fX3_holdsTop
  refine rz_bipush 2 dX3_holdsTop_0 rfl cb_16 ?_
  refine rz_aload_n 3 0 dX3_holdsTop_2 rfl rfl ?_
  refine rz_gI 6 dX3_holdsTop_3 rfl rfl fl_X3_28 (fun x1 => ?_)
  refine rz_isub 7 dX3_holdsTop_6 rfl ?_
  refine rz_aload_n 8 0 dX3_holdsTop_7 rfl rfl ?_
  refine rz_callV 11 dX3_holdsTop_8 rfl (tX3_knots v (d + 0) l0) rfl rfl rfl rfl ml_X3_44 im_X3_knots se_X3_X3_knots in_X3 co_X3_knots rfl rfl (fun x2 => ?_)
  refine rz_callS 14 dX3_holdsTop_11 rfl (tX3_power v (d + 0) ((16 : Int32) - x1) x2) rfl rfl ml_X3_64 sm_X3_power in_X3 co_X3_power rfl rfl (fun x3 => ?_)
  exact rz_lreturn rfl rfl dX3_holdsTop_14
theorem tX3_holdsTop (v : mE) (d : Nat) (l0 : Nat) : Mt v yX3_holdsTop cX3_holdsTop 1 (some .long) emL (d + 1) [vR l0] (fX3_holdsTop l0) := mt_of rfl rfl (fun h => by cases h) rfl rfl (rX3_holdsTop v d l0)
theorem dX3_holdsBottom_0 : decode cX3_holdsBottom 0 = .ok (.bipush 16, 2) := by decide +kernel
theorem dX3_holdsBottom_2 : decode cX3_holdsBottom 2 = .ok (.aload_n 0, 1) := by decide +kernel
theorem dX3_holdsBottom_3 : decode cX3_holdsBottom 3 = .ok (.invokevirtual 44, 3) := by decide +kernel
theorem dX3_holdsBottom_6 : decode cX3_holdsBottom 6 = .ok (.invokestatic 64, 3) := by decide +kernel
theorem dX3_holdsBottom_9 : decode cX3_holdsBottom 9 = .ok (.lreturn, 1) := by decide +kernel
def fX3_holdsBottom (l0 : Nat) : mM Int64 := bCallV 3 l0 (fX3_knots l0) (fun x1 => bCall (fX3_power (16 : Int32) x1) (fun x2 => bRet x2))
set_option maxRecDepth 20000 in
theorem rX3_holdsBottom (v : mE) (d : Nat) (l0 : Nat) : Rz v RX3 cX3_holdsBottom 1 (some .long) false emL (d + 1) 0 [(0, vR l0)] [] (fX3_holdsBottom l0) := by
  unfold fX3_holdsBottom
  refine rz_bipush 2 dX3_holdsBottom_0 rfl cb_16 ?_
  refine rz_aload_n 3 0 dX3_holdsBottom_2 rfl rfl ?_
  refine rz_callV 6 dX3_holdsBottom_3 rfl (tX3_knots v (d + 0) l0) rfl rfl rfl rfl ml_X3_44 im_X3_knots se_X3_X3_knots in_X3 co_X3_knots rfl rfl (fun x1 => ?_)
  refine rz_callS 9 dX3_holdsBottom_6 rfl (tX3_power v (d + 0) (16 : Int32) x1) rfl rfl ml_X3_64 sm_X3_power in_X3 co_X3_power rfl rfl (fun x2 => ?_)
  exact rz_lreturn rfl rfl dX3_holdsBottom_9
theorem tX3_holdsBottom (v : mE) (d : Nat) (l0 : Nat) : Mt v yX3_holdsBottom cX3_holdsBottom 1 (some .long) emL (d + 1) [vR l0] (fX3_holdsBottom l0) := mt_of rfl rfl (fun h => by cases h) rfl rfl (rX3_holdsBottom v d l0)
theorem dX3_isSaferThan_0 : decode cX3_isSaferThan 0 = .ok (.aload_n 0, 1) := by decide +kernel
theorem dX3_isSaferThan_1 : decode cX3_isSaferThan 1 = .ok (.invokevirtual 68, 3) := by decide +kernel
theorem dX3_isSaferThan_4 : decode cX3_isSaferThan 4 = .ok (.aload_n 1, 1) := by decide +kernel
theorem dX3_isSaferThan_5 : decode cX3_isSaferThan 5 = .ok (.invokevirtual 72, 3) := by decide +kernel
theorem dX3_isSaferThan_8 : decode cX3_isSaferThan 8 = .ok (.lmul, 1) := by decide +kernel
theorem dX3_isSaferThan_9 : decode cX3_isSaferThan 9 = .ok (.aload_n 1, 1) := by decide +kernel
theorem dX3_isSaferThan_10 : decode cX3_isSaferThan 10 = .ok (.invokevirtual 68, 3) := by decide +kernel
theorem dX3_isSaferThan_13 : decode cX3_isSaferThan 13 = .ok (.aload_n 0, 1) := by decide +kernel
theorem dX3_isSaferThan_14 : decode cX3_isSaferThan 14 = .ok (.invokevirtual 72, 3) := by decide +kernel
theorem dX3_isSaferThan_17 : decode cX3_isSaferThan 17 = .ok (.lmul, 1) := by decide +kernel
theorem dX3_isSaferThan_18 : decode cX3_isSaferThan 18 = .ok (.lcmp, 1) := by decide +kernel
theorem dX3_isSaferThan_19 : decode cX3_isSaferThan 19 = .ok (.ifCond .le 7, 3) := by decide +kernel
theorem dX3_isSaferThan_22 : decode cX3_isSaferThan 22 = .ok (.iconst 1, 1) := by decide +kernel
theorem dX3_isSaferThan_23 : decode cX3_isSaferThan 23 = .ok (.goto 4, 3) := by decide +kernel
theorem dX3_isSaferThan_26 : decode cX3_isSaferThan 26 = .ok (.iconst 0, 1) := by decide +kernel
theorem dX3_isSaferThan_27 : decode cX3_isSaferThan 27 = .ok (.ireturn, 1) := by decide +kernel
def fX3_isSaferThan (l0 : Nat) (l1 : Nat) : mM Int32 := bCallV 3 l0 (fX3_holdsTop l0) (fun x1 => bCallV 3 l1 (fX3_holdsBottom l1) (fun x2 => bCallV 3 l1 (fX3_holdsTop l1) (fun x3 => bCallV 3 l0 (fX3_holdsBottom l0) (fun x4 => bIf ((lg_cmp (x1 * x2) (x3 * x4)) ≤ 0) (bRetZ (0 : Int32)) (bRetZ (1 : Int32))))))
set_option maxRecDepth 20000 in
theorem rX3_isSaferThan (v : mE) (d : Nat) (l0 : Nat) (l1 : Nat) : Rz v RX3 cX3_isSaferThan 2 (some .boolean) false emI (d + 2) 0 [(0, vR l0), (1, vR l1)] [] (fX3_isSaferThan l0 l1) := by
  unfold fX3_isSaferThan
  refine rz_aload_n 1 0 dX3_isSaferThan_0 rfl rfl ?_
  refine rz_callV 4 dX3_isSaferThan_1 rfl (tX3_holdsTop v (d + 0) l0) rfl rfl rfl rfl ml_X3_68 im_X3_holdsTop se_X3_X3_holdsTop in_X3 co_X3_holdsTop rfl rfl (fun x1 => ?_)
  refine rz_aload_n 5 1 dX3_isSaferThan_4 rfl rfl ?_
  refine rz_callV 8 dX3_isSaferThan_5 rfl (tX3_holdsBottom v (d + 0) l1) rfl rfl rfl rfl ml_X3_72 im_X3_holdsBottom se_X3_X3_holdsBottom in_X3 co_X3_holdsBottom rfl rfl (fun x2 => ?_)
  refine rz_lmul 9 dX3_isSaferThan_8 rfl ?_
  refine rz_aload_n 10 1 dX3_isSaferThan_9 rfl rfl ?_
  refine rz_callV 13 dX3_isSaferThan_10 rfl (tX3_holdsTop v (d + 0) l1) rfl rfl rfl rfl ml_X3_68 im_X3_holdsTop se_X3_X3_holdsTop in_X3 co_X3_holdsTop rfl rfl (fun x3 => ?_)
  refine rz_aload_n 14 0 dX3_isSaferThan_13 rfl rfl ?_
  refine rz_callV 17 dX3_isSaferThan_14 rfl (tX3_holdsBottom v (d + 0) l0) rfl rfl rfl rfl ml_X3_72 im_X3_holdsBottom se_X3_X3_holdsBottom in_X3 co_X3_holdsBottom rfl rfl (fun x4 => ?_)
  refine rz_lmul 18 dX3_isSaferThan_17 rfl ?_
  refine rz_lcmp 19 dX3_isSaferThan_18 rfl ?_
  refine rz_if_le 26 22 dX3_isSaferThan_19 rfl rfl ?_ ?_
  · refine rz_iconst 27 dX3_isSaferThan_26 rfl ci_0 ?_
    exact rz_zreturn rfl rfl dX3_isSaferThan_27
  · refine rz_iconst 23 dX3_isSaferThan_22 rfl ci_1 ?_
    refine rz_goto 27 dX3_isSaferThan_23 rfl ?_
    exact rz_zreturn rfl rfl dX3_isSaferThan_27
theorem tX3_isSaferThan (v : mE) (d : Nat) (l0 : Nat) (l1 : Nat) : Mt v yX3_isSaferThan cX3_isSaferThan 2 (some .boolean) emI (d + 2) [vR l0, vR l1] (fX3_isSaferThan l0 l1) := mt_of rfl rfl (fun h => by cases h) rfl rfl (rX3_isSaferThan v d l0 l1)

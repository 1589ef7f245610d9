theorem dJ6_bitCount_0f7a4_0 : decode cJ6_bitCount_0f7a4 0 = .ok (.iload_n 0, 1) := by decide +kernel
theorem dJ6_bitCount_0f7a4_1 : decode cJ6_bitCount_0f7a4 1 = .ok (.iload_n 0, 1) := by decide +kernel
theorem dJ6_bitCount_0f7a4_2 : decode cJ6_bitCount_0f7a4 2 = .ok (.iconst 1, 1) := by decide +kernel
theorem dJ6_bitCount_0f7a4_3 : decode cJ6_bitCount_0f7a4 3 = .ok (.iushr, 1) := by decide +kernel
theorem dJ6_bitCount_0f7a4_4 : decode cJ6_bitCount_0f7a4 4 = .ok (.ldc_w 265, 3) := by decide +kernel
theorem dJ6_bitCount_0f7a4_7 : decode cJ6_bitCount_0f7a4 7 = .ok (.iand, 1) := by decide +kernel
theorem dJ6_bitCount_0f7a4_8 : decode cJ6_bitCount_0f7a4 8 = .ok (.isub, 1) := by decide +kernel
theorem dJ6_bitCount_0f7a4_9 : decode cJ6_bitCount_0f7a4 9 = .ok (.istore_n 0, 1) := by decide +kernel
theorem dJ6_bitCount_0f7a4_10 : decode cJ6_bitCount_0f7a4 10 = .ok (.iload_n 0, 1) := by decide +kernel
theorem dJ6_bitCount_0f7a4_11 : decode cJ6_bitCount_0f7a4 11 = .ok (.ldc_w 266, 3) := by decide +kernel
theorem dJ6_bitCount_0f7a4_14 : decode cJ6_bitCount_0f7a4 14 = .ok (.iand, 1) := by decide +kernel
theorem dJ6_bitCount_0f7a4_15 : decode cJ6_bitCount_0f7a4 15 = .ok (.iload_n 0, 1) := by decide +kernel
theorem dJ6_bitCount_0f7a4_16 : decode cJ6_bitCount_0f7a4 16 = .ok (.iconst 2, 1) := by decide +kernel
theorem dJ6_bitCount_0f7a4_17 : decode cJ6_bitCount_0f7a4 17 = .ok (.iushr, 1) := by decide +kernel
theorem dJ6_bitCount_0f7a4_18 : decode cJ6_bitCount_0f7a4 18 = .ok (.ldc_w 266, 3) := by decide +kernel
theorem dJ6_bitCount_0f7a4_21 : decode cJ6_bitCount_0f7a4 21 = .ok (.iand, 1) := by decide +kernel
theorem dJ6_bitCount_0f7a4_22 : decode cJ6_bitCount_0f7a4 22 = .ok (.iadd, 1) := by decide +kernel
theorem dJ6_bitCount_0f7a4_23 : decode cJ6_bitCount_0f7a4 23 = .ok (.istore_n 0, 1) := by decide +kernel
theorem dJ6_bitCount_0f7a4_24 : decode cJ6_bitCount_0f7a4 24 = .ok (.iload_n 0, 1) := by decide +kernel
theorem dJ6_bitCount_0f7a4_25 : decode cJ6_bitCount_0f7a4 25 = .ok (.iload_n 0, 1) := by decide +kernel
theorem dJ6_bitCount_0f7a4_26 : decode cJ6_bitCount_0f7a4 26 = .ok (.iconst 4, 1) := by decide +kernel
theorem dJ6_bitCount_0f7a4_27 : decode cJ6_bitCount_0f7a4 27 = .ok (.iushr, 1) := by decide +kernel
theorem dJ6_bitCount_0f7a4_28 : decode cJ6_bitCount_0f7a4 28 = .ok (.iadd, 1) := by decide +kernel
theorem dJ6_bitCount_0f7a4_29 : decode cJ6_bitCount_0f7a4 29 = .ok (.ldc_w 267, 3) := by decide +kernel
theorem dJ6_bitCount_0f7a4_32 : decode cJ6_bitCount_0f7a4 32 = .ok (.iand, 1) := by decide +kernel
theorem dJ6_bitCount_0f7a4_33 : decode cJ6_bitCount_0f7a4 33 = .ok (.istore_n 0, 1) := by decide +kernel
theorem dJ6_bitCount_0f7a4_34 : decode cJ6_bitCount_0f7a4 34 = .ok (.iload_n 0, 1) := by decide +kernel
theorem dJ6_bitCount_0f7a4_35 : decode cJ6_bitCount_0f7a4 35 = .ok (.iload_n 0, 1) := by decide +kernel
theorem dJ6_bitCount_0f7a4_36 : decode cJ6_bitCount_0f7a4 36 = .ok (.bipush 8, 2) := by decide +kernel
theorem dJ6_bitCount_0f7a4_38 : decode cJ6_bitCount_0f7a4 38 = .ok (.iushr, 1) := by decide +kernel
theorem dJ6_bitCount_0f7a4_39 : decode cJ6_bitCount_0f7a4 39 = .ok (.iadd, 1) := by decide +kernel
theorem dJ6_bitCount_0f7a4_40 : decode cJ6_bitCount_0f7a4 40 = .ok (.istore_n 0, 1) := by decide +kernel
theorem dJ6_bitCount_0f7a4_41 : decode cJ6_bitCount_0f7a4 41 = .ok (.iload_n 0, 1) := by decide +kernel
theorem dJ6_bitCount_0f7a4_42 : decode cJ6_bitCount_0f7a4 42 = .ok (.iload_n 0, 1) := by decide +kernel
theorem dJ6_bitCount_0f7a4_43 : decode cJ6_bitCount_0f7a4 43 = .ok (.bipush 16, 2) := by decide +kernel
theorem dJ6_bitCount_0f7a4_45 : decode cJ6_bitCount_0f7a4 45 = .ok (.iushr, 1) := by decide +kernel
theorem dJ6_bitCount_0f7a4_46 : decode cJ6_bitCount_0f7a4 46 = .ok (.iadd, 1) := by decide +kernel
theorem dJ6_bitCount_0f7a4_47 : decode cJ6_bitCount_0f7a4 47 = .ok (.istore_n 0, 1) := by decide +kernel
theorem dJ6_bitCount_0f7a4_48 : decode cJ6_bitCount_0f7a4 48 = .ok (.iload_n 0, 1) := by decide +kernel
theorem dJ6_bitCount_0f7a4_49 : decode cJ6_bitCount_0f7a4 49 = .ok (.bipush 63, 2) := by decide +kernel
theorem dJ6_bitCount_0f7a4_51 : decode cJ6_bitCount_0f7a4 51 = .ok (.iand, 1) := by decide +kernel
theorem dJ6_bitCount_0f7a4_52 : decode cJ6_bitCount_0f7a4 52 = .ok (.ireturn, 1) := by decide +kernel
def fJ6_bitCount_0f7a4 (l0 : Int32) : mM Int32 := bRet ((((((((l0 - (((l0.toUInt32 >>> (Int32.toUInt32 (1 : Int32) &&& Int32.toUInt32 31)).toInt32) &&& (1431655765 : Int32))) &&& (858993459 : Int32)) + ((((l0 - (((l0.toUInt32 >>> (Int32.toUInt32 (1 : Int32) &&& Int32.toUInt32 31)).toInt32) &&& (1431655765 : Int32))).toUInt32 >>> (Int32.toUInt32 (2 : Int32) &&& Int32.toUInt32 31)).toInt32) &&& (858993459 : Int32))) + (((((l0 - (((l0.toUInt32 >>> (Int32.toUInt32 (1 : Int32) &&& Int32.toUInt32 31)).toInt32) &&& (1431655765 : Int32))) &&& (858993459 : Int32)) + ((((l0 - (((l0.toUInt32 >>> (Int32.toUInt32 (1 : Int32) &&& Int32.toUInt32 31)).toInt32) &&& (1431655765 : Int32))).toUInt32 >>> (Int32.toUInt32 (2 : Int32) &&& Int32.toUInt32 31)).toInt32) &&& (858993459 : Int32))).toUInt32 >>> (Int32.toUInt32 (4 : Int32) &&& Int32.toUInt32 31)).toInt32)) &&& (252645135 : Int32)) + (((((((l0 - (((l0.toUInt32 >>> (Int32.toUInt32 (1 : Int32) &&& Int32.toUInt32 31)).toInt32) &&& (1431655765 : Int32))) &&& (858993459 : Int32)) + ((((l0 - (((l0.toUInt32 >>> (Int32.toUInt32 (1 : Int32) &&& Int32.toUInt32 31)).toInt32) &&& (1431655765 : Int32))).toUInt32 >>> (Int32.toUInt32 (2 : Int32) &&& Int32.toUInt32 31)).toInt32) &&& (858993459 : Int32))) + (((((l0 - (((l0.toUInt32 >>> (Int32.toUInt32 (1 : Int32) &&& Int32.toUInt32 31)).toInt32) &&& (1431655765 : Int32))) &&& (858993459 : Int32)) + ((((l0 - (((l0.toUInt32 >>> (Int32.toUInt32 (1 : Int32) &&& Int32.toUInt32 31)).toInt32) &&& (1431655765 : Int32))).toUInt32 >>> (Int32.toUInt32 (2 : Int32) &&& Int32.toUInt32 31)).toInt32) &&& (858993459 : Int32))).toUInt32 >>> (Int32.toUInt32 (4 : Int32) &&& Int32.toUInt32 31)).toInt32)) &&& (252645135 : Int32)).toUInt32 >>> (Int32.toUInt32 (8 : Int32) &&& Int32.toUInt32 31)).toInt32)) + ((((((((l0 - (((l0.toUInt32 >>> (Int32.toUInt32 (1 : Int32) &&& Int32.toUInt32 31)).toInt32) &&& (1431655765 : Int32))) &&& (858993459 : Int32)) + ((((l0 - (((l0.toUInt32 >>> (Int32.toUInt32 (1 : Int32) &&& Int32.toUInt32 31)).toInt32) &&& (1431655765 : Int32))).toUInt32 >>> (Int32.toUInt32 (2 : Int32) &&& Int32.toUInt32 31)).toInt32) &&& (858993459 : Int32))) + (((((l0 - (((l0.toUInt32 >>> (Int32.toUInt32 (1 : Int32) &&& Int32.toUInt32 31)).toInt32) &&& (1431655765 : Int32))) &&& (858993459 : Int32)) + ((((l0 - (((l0.toUInt32 >>> (Int32.toUInt32 (1 : Int32) &&& Int32.toUInt32 31)).toInt32) &&& (1431655765 : Int32))).toUInt32 >>> (Int32.toUInt32 (2 : Int32) &&& Int32.toUInt32 31)).toInt32) &&& (858993459 : Int32))).toUInt32 >>> (Int32.toUInt32 (4 : Int32) &&& Int32.toUInt32 31)).toInt32)) &&& (252645135 : Int32)) + (((((((l0 - (((l0.toUInt32 >>> (Int32.toUInt32 (1 : Int32) &&& Int32.toUInt32 31)).toInt32) &&& (1431655765 : Int32))) &&& (858993459 : Int32)) + ((((l0 - (((l0.toUInt32 >>> (Int32.toUInt32 (1 : Int32) &&& Int32.toUInt32 31)).toInt32) &&& (1431655765 : Int32))).toUInt32 >>> (Int32.toUInt32 (2 : Int32) &&& Int32.toUInt32 31)).toInt32) &&& (858993459 : Int32))) + (((((l0 - (((l0.toUInt32 >>> (Int32.toUInt32 (1 : Int32) &&& Int32.toUInt32 31)).toInt32) &&& (1431655765 : Int32))) &&& (858993459 : Int32)) + ((((l0 - (((l0.toUInt32 >>> (Int32.toUInt32 (1 : Int32) &&& Int32.toUInt32 31)).toInt32) &&& (1431655765 : Int32))).toUInt32 >>> (Int32.toUInt32 (2 : Int32) &&& Int32.toUInt32 31)).toInt32) &&& (858993459 : Int32))).toUInt32 >>> (Int32.toUInt32 (4 : Int32) &&& Int32.toUInt32 31)).toInt32)) &&& (252645135 : Int32)).toUInt32 >>> (Int32.toUInt32 (8 : Int32) &&& Int32.toUInt32 31)).toInt32)).toUInt32 >>> (Int32.toUInt32 (16 : Int32) &&& Int32.toUInt32 31)).toInt32)) &&& (63 : Int32))
set_option maxRecDepth 20000 in
theorem rJ6_bitCount_0f7a4 (v : mE) (d : Nat) (l0 : Int32) : Rz v RJ6 cJ6_bitCount_0f7a4 1 (some .int) false emI (d + 0) 0 [(0, vI l0)] [] (fJ6_bitCount_0f7a4 l0) := by
  unfold fJ6_bitCount_0f7a4
  refine rz_iload_n 1 0 dJ6_bitCount_0f7a4_0 rfl rfl ?_
  refine rz_iload_n 2 0 dJ6_bitCount_0f7a4_1 rfl rfl ?_
  refine rz_iconst 3 dJ6_bitCount_0f7a4_2 rfl ci_1 ?_
  refine rz_iushr 4 dJ6_bitCount_0f7a4_3 rfl ?_
  refine rz_ldcw 7 dJ6_bitCount_0f7a4_4 rfl ct_J6_265 ?_
  refine rz_iand 8 dJ6_bitCount_0f7a4_7 rfl ?_
  refine rz_isub 9 dJ6_bitCount_0f7a4_8 rfl ?_
  refine rz_istore_n (lv' := [(0, vI (l0 - (((l0.toUInt32 >>> (Int32.toUInt32 (1 : Int32) &&& Int32.toUInt32 31)).toInt32) &&& (1431655765 : Int32))))]) 10 dJ6_bitCount_0f7a4_9 rfl rfl rfl ?_
  refine rz_iload_n 11 0 dJ6_bitCount_0f7a4_10 rfl rfl ?_
  refine rz_ldcw 14 dJ6_bitCount_0f7a4_11 rfl ct_J6_266 ?_
  refine rz_iand 15 dJ6_bitCount_0f7a4_14 rfl ?_
  refine rz_iload_n 16 0 dJ6_bitCount_0f7a4_15 rfl rfl ?_
  refine rz_iconst 17 dJ6_bitCount_0f7a4_16 rfl ci_2 ?_
  refine rz_iushr 18 dJ6_bitCount_0f7a4_17 rfl ?_
  refine rz_ldcw 21 dJ6_bitCount_0f7a4_18 rfl ct_J6_266 ?_
  refine rz_iand 22 dJ6_bitCount_0f7a4_21 rfl ?_
  refine rz_iadd 23 dJ6_bitCount_0f7a4_22 rfl ?_
  refine rz_istore_n (lv' := [(0, vI (((l0 - (((l0.toUInt32 >>> (Int32.toUInt32 (1 : Int32) &&& Int32.toUInt32 31)).toInt32) &&& (1431655765 : Int32))) &&& (858993459 : Int32)) + ((((l0 - (((l0.toUInt32 >>> (Int32.toUInt32 (1 : Int32) &&& Int32.toUInt32 31)).toInt32) &&& (1431655765 : Int32))).toUInt32 >>> (Int32.toUInt32 (2 : Int32) &&& Int32.toUInt32 31)).toInt32) &&& (858993459 : Int32))))]) 24 dJ6_bitCount_0f7a4_23 rfl rfl rfl ?_
  refine rz_iload_n 25 0 dJ6_bitCount_0f7a4_24 rfl rfl ?_
  refine rz_iload_n 26 0 dJ6_bitCount_0f7a4_25 rfl rfl ?_
  refine rz_iconst 27 dJ6_bitCount_0f7a4_26 rfl ci_4 ?_
  refine rz_iushr 28 dJ6_bitCount_0f7a4_27 rfl ?_
  refine rz_iadd 29 dJ6_bitCount_0f7a4_28 rfl ?_
  refine rz_ldcw 32 dJ6_bitCount_0f7a4_29 rfl ct_J6_267 ?_
  refine rz_iand 33 dJ6_bitCount_0f7a4_32 rfl ?_
  refine rz_istore_n (lv' := [(0, vI (((((l0 - (((l0.toUInt32 >>> (Int32.toUInt32 (1 : Int32) &&& Int32.toUInt32 31)).toInt32) &&& (1431655765 : Int32))) &&& (858993459 : Int32)) + ((((l0 - (((l0.toUInt32 >>> (Int32.toUInt32 (1 : Int32) &&& Int32.toUInt32 31)).toInt32) &&& (1431655765 : Int32))).toUInt32 >>> (Int32.toUInt32 (2 : Int32) &&& Int32.toUInt32 31)).toInt32) &&& (858993459 : Int32))) + (((((l0 - (((l0.toUInt32 >>> (Int32.toUInt32 (1 : Int32) &&& Int32.toUInt32 31)).toInt32) &&& (1431655765 : Int32))) &&& (858993459 : Int32)) + ((((l0 - (((l0.toUInt32 >>> (Int32.toUInt32 (1 : Int32) &&& Int32.toUInt32 31)).toInt32) &&& (1431655765 : Int32))).toUInt32 >>> (Int32.toUInt32 (2 : Int32) &&& Int32.toUInt32 31)).toInt32) &&& (858993459 : Int32))).toUInt32 >>> (Int32.toUInt32 (4 : Int32) &&& Int32.toUInt32 31)).toInt32)) &&& (252645135 : Int32)))]) 34 dJ6_bitCount_0f7a4_33 rfl rfl rfl ?_
  refine rz_iload_n 35 0 dJ6_bitCount_0f7a4_34 rfl rfl ?_
  refine rz_iload_n 36 0 dJ6_bitCount_0f7a4_35 rfl rfl ?_
  refine rz_bipush 38 dJ6_bitCount_0f7a4_36 rfl cb_8 ?_
  refine rz_iushr 39 dJ6_bitCount_0f7a4_38 rfl ?_
  refine rz_iadd 40 dJ6_bitCount_0f7a4_39 rfl ?_
  refine rz_istore_n (lv' := [(0, vI ((((((l0 - (((l0.toUInt32 >>> (Int32.toUInt32 (1 : Int32) &&& Int32.toUInt32 31)).toInt32) &&& (1431655765 : Int32))) &&& (858993459 : Int32)) + ((((l0 - (((l0.toUInt32 >>> (Int32.toUInt32 (1 : Int32) &&& Int32.toUInt32 31)).toInt32) &&& (1431655765 : Int32))).toUInt32 >>> (Int32.toUInt32 (2 : Int32) &&& Int32.toUInt32 31)).toInt32) &&& (858993459 : Int32))) + (((((l0 - (((l0.toUInt32 >>> (Int32.toUInt32 (1 : Int32) &&& Int32.toUInt32 31)).toInt32) &&& (1431655765 : Int32))) &&& (858993459 : Int32)) + ((((l0 - (((l0.toUInt32 >>> (Int32.toUInt32 (1 : Int32) &&& Int32.toUInt32 31)).toInt32) &&& (1431655765 : Int32))).toUInt32 >>> (Int32.toUInt32 (2 : Int32) &&& Int32.toUInt32 31)).toInt32) &&& (858993459 : Int32))).toUInt32 >>> (Int32.toUInt32 (4 : Int32) &&& Int32.toUInt32 31)).toInt32)) &&& (252645135 : Int32)) + (((((((l0 - (((l0.toUInt32 >>> (Int32.toUInt32 (1 : Int32) &&& Int32.toUInt32 31)).toInt32) &&& (1431655765 : Int32))) &&& (858993459 : Int32)) + ((((l0 - (((l0.toUInt32 >>> (Int32.toUInt32 (1 : Int32) &&& Int32.toUInt32 31)).toInt32) &&& (1431655765 : Int32))).toUInt32 >>> (Int32.toUInt32 (2 : Int32) &&& Int32.toUInt32 31)).toInt32) &&& (858993459 : Int32))) + (((((l0 - (((l0.toUInt32 >>> (Int32.toUInt32 (1 : Int32) &&& Int32.toUInt32 31)).toInt32) &&& (1431655765 : Int32))) &&& (858993459 : Int32)) + ((((l0 - (((l0.toUInt32 >>> (Int32.toUInt32 (1 : Int32) &&& Int32.toUInt32 31)).toInt32) &&& (1431655765 : Int32))).toUInt32 >>> (Int32.toUInt32 (2 : Int32) &&& Int32.toUInt32 31)).toInt32) &&& (858993459 : Int32))).toUInt32 >>> (Int32.toUInt32 (4 : Int32) &&& Int32.toUInt32 31)).toInt32)) &&& (252645135 : Int32)).toUInt32 >>> (Int32.toUInt32 (8 : Int32) &&& Int32.toUInt32 31)).toInt32)))]) 41 dJ6_bitCount_0f7a4_40 rfl rfl rfl ?_
  refine rz_iload_n 42 0 dJ6_bitCount_0f7a4_41 rfl rfl ?_
  refine rz_iload_n 43 0 dJ6_bitCount_0f7a4_42 rfl rfl ?_
  refine rz_bipush 45 dJ6_bitCount_0f7a4_43 rfl cb_16 ?_
  refine rz_iushr 46 dJ6_bitCount_0f7a4_45 rfl ?_
  refine rz_iadd 47 dJ6_bitCount_0f7a4_46 rfl ?_
  refine rz_istore_n (lv' := [(0, vI (((((((l0 - (((l0.toUInt32 >>> (Int32.toUInt32 (1 : Int32) &&& Int32.toUInt32 31)).toInt32) &&& (1431655765 : Int32))) &&& (858993459 : Int32)) + ((((l0 - (((l0.toUInt32 >>> (Int32.toUInt32 (1 : Int32) &&& Int32.toUInt32 31)).toInt32) &&& (1431655765 : Int32))).toUInt32 >>> (Int32.toUInt32 (2 : Int32) &&& Int32.toUInt32 31)).toInt32) &&& (858993459 : Int32))) + (((((l0 - (((l0.toUInt32 >>> (Int32.toUInt32 (1 : Int32) &&& Int32.toUInt32 31)).toInt32) &&& (1431655765 : Int32))) &&& (858993459 : Int32)) + ((((l0 - (((l0.toUInt32 >>> (Int32.toUInt32 (1 : Int32) &&& Int32.toUInt32 31)).toInt32) &&& (1431655765 : Int32))).toUInt32 >>> (Int32.toUInt32 (2 : Int32) &&& Int32.toUInt32 31)).toInt32) &&& (858993459 : Int32))).toUInt32 >>> (Int32.toUInt32 (4 : Int32) &&& Int32.toUInt32 31)).toInt32)) &&& (252645135 : Int32)) + (((((((l0 - (((l0.toUInt32 >>> (Int32.toUInt32 (1 : Int32) &&& Int32.toUInt32 31)).toInt32) &&& (1431655765 : Int32))) &&& (858993459 : Int32)) + ((((l0 - (((l0.toUInt32 >>> (Int32.toUInt32 (1 : Int32) &&& Int32.toUInt32 31)).toInt32) &&& (1431655765 : Int32))).toUInt32 >>> (Int32.toUInt32 (2 : Int32) &&& Int32.toUInt32 31)).toInt32) &&& (858993459 : Int32))) + (((((l0 - (((l0.toUInt32 >>> (Int32.toUInt32 (1 : Int32) &&& Int32.toUInt32 31)).toInt32) &&& (1431655765 : Int32))) &&& (858993459 : Int32)) + ((((l0 - (((l0.toUInt32 >>> (Int32.toUInt32 (1 : Int32) &&& Int32.toUInt32 31)).toInt32) &&& (1431655765 : Int32))).toUInt32 >>> (Int32.toUInt32 (2 : Int32) &&& Int32.toUInt32 31)).toInt32) &&& (858993459 : Int32))).toUInt32 >>> (Int32.toUInt32 (4 : Int32) &&& Int32.toUInt32 31)).toInt32)) &&& (252645135 : Int32)).toUInt32 >>> (Int32.toUInt32 (8 : Int32) &&& Int32.toUInt32 31)).toInt32)) + ((((((((l0 - (((l0.toUInt32 >>> (Int32.toUInt32 (1 : Int32) &&& Int32.toUInt32 31)).toInt32) &&& (1431655765 : Int32))) &&& (858993459 : Int32)) + ((((l0 - (((l0.toUInt32 >>> (Int32.toUInt32 (1 : Int32) &&& Int32.toUInt32 31)).toInt32) &&& (1431655765 : Int32))).toUInt32 >>> (Int32.toUInt32 (2 : Int32) &&& Int32.toUInt32 31)).toInt32) &&& (858993459 : Int32))) + (((((l0 - (((l0.toUInt32 >>> (Int32.toUInt32 (1 : Int32) &&& Int32.toUInt32 31)).toInt32) &&& (1431655765 : Int32))) &&& (858993459 : Int32)) + ((((l0 - (((l0.toUInt32 >>> (Int32.toUInt32 (1 : Int32) &&& Int32.toUInt32 31)).toInt32) &&& (1431655765 : Int32))).toUInt32 >>> (Int32.toUInt32 (2 : Int32) &&& Int32.toUInt32 31)).toInt32) &&& (858993459 : Int32))).toUInt32 >>> (Int32.toUInt32 (4 : Int32) &&& Int32.toUInt32 31)).toInt32)) &&& (252645135 : Int32)) + (((((((l0 - (((l0.toUInt32 >>> (Int32.toUInt32 (1 : Int32) &&& Int32.toUInt32 31)).toInt32) &&& (1431655765 : Int32))) &&& (858993459 : Int32)) + ((((l0 - (((l0.toUInt32 >>> (Int32.toUInt32 (1 : Int32) &&& Int32.toUInt32 31)).toInt32) &&& (1431655765 : Int32))).toUInt32 >>> (Int32.toUInt32 (2 : Int32) &&& Int32.toUInt32 31)).toInt32) &&& (858993459 : Int32))) + (((((l0 - (((l0.toUInt32 >>> (Int32.toUInt32 (1 : Int32) &&& Int32.toUInt32 31)).toInt32) &&& (1431655765 : Int32))) &&& (858993459 : Int32)) + ((((l0 - (((l0.toUInt32 >>> (Int32.toUInt32 (1 : Int32) &&& Int32.toUInt32 31)).toInt32) &&& (1431655765 : Int32))).toUInt32 >>> (Int32.toUInt32 (2 : Int32) &&& Int32.toUInt32 31)).toInt32) &&& (858993459 : Int32))).toUInt32 >>> (Int32.toUInt32 (4 : Int32) &&& Int32.toUInt32 31)).toInt32)) &&& (252645135 : Int32)).toUInt32 >>> (Int32.toUInt32 (8 : Int32) &&& Int32.toUInt32 31)).toInt32)).toUInt32 >>> (Int32.toUInt32 (16 : Int32) &&& Int32.toUInt32 31)).toInt32)))]) 48 dJ6_bitCount_0f7a4_47 rfl rfl rfl ?_
  refine rz_iload_n 49 0 dJ6_bitCount_0f7a4_48 rfl rfl ?_
  refine rz_bipush 51 dJ6_bitCount_0f7a4_49 rfl cb_63 ?_
  refine rz_iand 52 dJ6_bitCount_0f7a4_51 rfl ?_
  exact rz_ireturn rfl rfl dJ6_bitCount_0f7a4_52
theorem tJ6_bitCount_0f7a4 (v : mE) (d : Nat) (l0 : Int32) : Mt v yJ6_bitCount_0f7a4 cJ6_bitCount_0f7a4 1 (some .int) emI (d + 0) [vI l0] (fJ6_bitCount_0f7a4 l0) := mt_of rfl rfl (fun h => by cases h) rfl rfl (rJ6_bitCount_0f7a4 v d l0)
theorem dJ0_coder_7d493_0 : decode cJ0_coder_7d493 0 = .ok (.getstatic 38, 3) := by decide +kernel
theorem dJ0_coder_7d493_3 : decode cJ0_coder_7d493 3 = .ok (.ifCond .eq 10, 3) := by decide +kernel
theorem dJ0_coder_7d493_6 : decode cJ0_coder_7d493 6 = .ok (.aload_n 0, 1) := by decide +kernel
theorem dJ0_coder_7d493_7 : decode cJ0_coder_7d493 7 = .ok (.getfield 15, 3) := by decide +kernel
theorem dJ0_coder_7d493_10 : decode cJ0_coder_7d493 10 = .ok (.goto 4, 3) := by decide +kernel
theorem dJ0_coder_7d493_13 : decode cJ0_coder_7d493 13 = .ok (.iconst 1, 1) := by decide +kernel
theorem dJ0_coder_7d493_14 : decode cJ0_coder_7d493 14 = .ok (.ireturn, 1) := by decide +kernel
def fJ0_coder_7d493 (l0 : Nat) : mM Int32 := bIf ((1 : Int32) = 0) (bRetN .byte (1 : Int32)) (bXk l0 (bRetN .byte (0 : Int32)))
set_option maxRecDepth 20000 in
theorem rJ0_coder_7d493 (v : mE) (d : Nat) (l0 : Nat) : Rz v RJ0 cJ0_coder_7d493 1 (some .byte) false emI (d + 0) 0 [(0, vX l0)] [] (fJ0_coder_7d493 l0) := by
  unfold fJ0_coder_7d493
  refine rz_xcs 3 dJ0_coder_7d493_0 rfl fl_J0_38 ?_
  refine rz_if_eq 13 6 dJ0_coder_7d493_3 rfl rfl ?_ ?_
  · refine rz_iconst 14 dJ0_coder_7d493_13 rfl ci_1 ?_
    exact rz_nreturn rfl (by decide) rfl dJ0_coder_7d493_14
  · refine rz_xload_n 7 0 dJ0_coder_7d493_6 rfl rfl ?_
    refine rz_xcod 10 dJ0_coder_7d493_7 rfl fl_J0_15 ?_
    refine rz_goto 14 dJ0_coder_7d493_10 rfl ?_
    exact rz_nreturn rfl (by decide) rfl dJ0_coder_7d493_14
theorem tJ0_coder_7d493 (v : mE) (d : Nat) (l0 : Nat) : Mt v yJ0_coder_7d493 cJ0_coder_7d493 1 (some .byte) emI (d + 0) [vX l0] (fJ0_coder_7d493 l0) := mt_of rfl rfl (fun h => by cases h) rfl rfl (rJ0_coder_7d493 v d l0)
theorem dJ0_length_8abf5_0 : decode cJ0_length_8abf5 0 = .ok (.aload_n 0, 1) := by decide +kernel
theorem dJ0_length_8abf5_1 : decode cJ0_length_8abf5 1 = .ok (.getfield 9, 3) := by decide +kernel
theorem dJ0_length_8abf5_4 : decode cJ0_length_8abf5 4 = .ok (.arraylength, 1) := by decide +kernel
theorem dJ0_length_8abf5_5 : decode cJ0_length_8abf5 5 = .ok (.aload_n 0, 1) := by decide +kernel
theorem dJ0_length_8abf5_6 : decode cJ0_length_8abf5 6 = .ok (.invokevirtual 335, 3) := by decide +kernel
theorem dJ0_length_8abf5_9 : decode cJ0_length_8abf5 9 = .ok (.ishr, 1) := by decide +kernel
theorem dJ0_length_8abf5_10 : decode cJ0_length_8abf5 10 = .ok (.ireturn, 1) := by decide +kernel
def fJ0_length_8abf5 (l0 : Nat) : mM Int32 := bXk l0 (bXl (36 + l0) (fun x1 => bCallX l0 (fJ0_coder_7d493 l0) (fun x2 => bRet (x1 >>> (x2 &&& 31)))))
set_option maxRecDepth 20000 in
theorem rJ0_length_8abf5 (v : mE) (d : Nat) (l0 : Nat) : Rz v RJ0 cJ0_length_8abf5 1 (some .int) false emI (d + 1) 0 [(0, vX l0)] [] (fJ0_length_8abf5 l0) := by
  unfold fJ0_length_8abf5
  refine rz_xload_n 1 0 dJ0_length_8abf5_0 rfl rfl ?_
  refine rz_xval 4 dJ0_length_8abf5_1 rfl fl_J0_9 ?_
  refine rz_xlen 5 dJ0_length_8abf5_4 rfl (fun x1 => ?_)
  refine rz_xload_n 6 0 dJ0_length_8abf5_5 rfl rfl ?_
  refine rz_callX 9 dJ0_length_8abf5_6 rfl (tJ0_coder_7d493 v (d + 0) l0) rfl rfl rfl ml_J0_335 im_J0_coder_7d493 se_J0_J0_coder_7d493 in_J0 co_J0_coder_7d493 rfl rfl (fun x2 => ?_)
  refine rz_ishr 10 dJ0_length_8abf5_9 rfl ?_
  exact rz_ireturn rfl rfl dJ0_length_8abf5_10
theorem tJ0_length_8abf5 (v : mE) (d : Nat) (l0 : Nat) : Mt v yJ0_length_8abf5 cJ0_length_8abf5 1 (some .int) emI (d + 1) [vX l0] (fJ0_length_8abf5 l0) := mt_of rfl rfl (fun h => by cases h) rfl rfl (rJ0_length_8abf5 v d l0)
theorem dJ0_isLatin1_aae02_0 : decode cJ0_isLatin1_aae02 0 = .ok (.getstatic 38, 3) := by decide +kernel
theorem dJ0_isLatin1_aae02_3 : decode cJ0_isLatin1_aae02 3 = .ok (.ifCond .eq 14, 3) := by decide +kernel
theorem dJ0_isLatin1_aae02_6 : decode cJ0_isLatin1_aae02 6 = .ok (.aload_n 0, 1) := by decide +kernel
theorem dJ0_isLatin1_aae02_7 : decode cJ0_isLatin1_aae02 7 = .ok (.getfield 15, 3) := by decide +kernel
theorem dJ0_isLatin1_aae02_10 : decode cJ0_isLatin1_aae02 10 = .ok (.ifCond .ne 7, 3) := by decide +kernel
theorem dJ0_isLatin1_aae02_13 : decode cJ0_isLatin1_aae02 13 = .ok (.iconst 1, 1) := by decide +kernel
theorem dJ0_isLatin1_aae02_14 : decode cJ0_isLatin1_aae02 14 = .ok (.goto 4, 3) := by decide +kernel
theorem dJ0_isLatin1_aae02_17 : decode cJ0_isLatin1_aae02 17 = .ok (.iconst 0, 1) := by decide +kernel
theorem dJ0_isLatin1_aae02_18 : decode cJ0_isLatin1_aae02 18 = .ok (.ireturn, 1) := by decide +kernel
def fJ0_isLatin1_aae02 (l0 : Nat) : mM Int32 := bIf ((1 : Int32) = 0) (bRetZ (0 : Int32)) (bXk l0 (bIf ((0 : Int32) = 0) (bRetZ (1 : Int32)) (bRetZ (0 : Int32))))
set_option maxRecDepth 20000 in
theorem rJ0_isLatin1_aae02 (v : mE) (d : Nat) (l0 : Nat) : Rz v RJ0 cJ0_isLatin1_aae02 1 (some .boolean) false emI (d + 0) 0 [(0, vX l0)] [] (fJ0_isLatin1_aae02 l0) := by
  unfold fJ0_isLatin1_aae02
  refine rz_xcs 3 dJ0_isLatin1_aae02_0 rfl fl_J0_38 ?_
  refine rz_if_eq 17 6 dJ0_isLatin1_aae02_3 rfl rfl ?_ ?_
  · refine rz_iconst 18 dJ0_isLatin1_aae02_17 rfl ci_0 ?_
    exact rz_zreturn rfl rfl dJ0_isLatin1_aae02_18
  · refine rz_xload_n 7 0 dJ0_isLatin1_aae02_6 rfl rfl ?_
    refine rz_xcod 10 dJ0_isLatin1_aae02_7 rfl fl_J0_15 ?_
    refine rz_if_ne 17 13 dJ0_isLatin1_aae02_10 rfl rfl ?_ ?_
    · refine rz_iconst 18 dJ0_isLatin1_aae02_17 rfl ci_0 ?_
      exact rz_zreturn rfl rfl dJ0_isLatin1_aae02_18
    · refine rz_iconst 14 dJ0_isLatin1_aae02_13 rfl ci_1 ?_
      refine rz_goto 18 dJ0_isLatin1_aae02_14 rfl ?_
      exact rz_zreturn rfl rfl dJ0_isLatin1_aae02_18
theorem tJ0_isLatin1_aae02 (v : mE) (d : Nat) (l0 : Nat) : Mt v yJ0_isLatin1_aae02 cJ0_isLatin1_aae02 1 (some .boolean) emI (d + 0) [vX l0] (fJ0_isLatin1_aae02 l0) := mt_of rfl rfl (fun h => by cases h) rfl rfl (rJ0_isLatin1_aae02 v d l0)
theorem dJ3_checkIndex_8e157_0 : decode cJ3_checkIndex_8e157 0 = .ok (.iload_n 0, 1) := by decide +kernel
theorem dJ3_checkIndex_8e157_1 : decode cJ3_checkIndex_8e157 1 = .ok (.ifCond .lt 8, 3) := by decide +kernel
theorem dJ3_checkIndex_8e157_4 : decode cJ3_checkIndex_8e157 4 = .ok (.iload_n 0, 1) := by decide +kernel
theorem dJ3_checkIndex_8e157_5 : decode cJ3_checkIndex_8e157 5 = .ok (.iload_n 1, 1) := by decide +kernel
theorem dJ3_checkIndex_8e157_6 : decode cJ3_checkIndex_8e157 6 = .ok (.if_icmp .lt 10, 3) := by decide +kernel
theorem dJ3_checkIndex_8e157_9 : decode cJ3_checkIndex_8e157 9 = .ok (.aload_n 2, 1) := by decide +kernel
theorem dJ3_checkIndex_8e157_16 : decode cJ3_checkIndex_8e157 16 = .ok (.iload_n 0, 1) := by decide +kernel
theorem dJ3_checkIndex_8e157_17 : decode cJ3_checkIndex_8e157 17 = .ok (.ireturn, 1) := by decide +kernel
def fJ3_checkIndex_8e157 (l0 : Int32) (l1 : Int32) : mM Int32 := bIf (l0 < 0) (bFail) (bIf (l0 < l1) (bRet l0) (bFail))
set_option maxRecDepth 20000 in
theorem rJ3_checkIndex_8e157 (v : mE) (d : Nat) (l0 : Int32) (l1 : Int32) : Rz v RJ3 cJ3_checkIndex_8e157 3 (some .int) false emI (d + 0) 0 [(0, vI l0), (1, vI l1), (2, vW)] [] (fJ3_checkIndex_8e157 l0 l1) := by
  unfold fJ3_checkIndex_8e157
  refine rz_iload_n 1 0 dJ3_checkIndex_8e157_0 rfl rfl ?_
  refine rz_if_lt 9 4 dJ3_checkIndex_8e157_1 rfl rfl ?_ ?_
  · exact rz_fail
  · refine rz_iload_n 5 0 dJ3_checkIndex_8e157_4 rfl rfl ?_
    refine rz_iload_n 6 1 dJ3_checkIndex_8e157_5 rfl rfl ?_
    refine rz_icmp_lt 16 9 dJ3_checkIndex_8e157_6 rfl rfl ?_ ?_
    · refine rz_iload_n 17 0 dJ3_checkIndex_8e157_16 rfl rfl ?_
      exact rz_ireturn rfl rfl dJ3_checkIndex_8e157_17
    · exact rz_fail
theorem tJ3_checkIndex_8e157 (v : mE) (d : Nat) (l0 : Int32) (l1 : Int32) : Mt v yJ3_checkIndex_8e157 cJ3_checkIndex_8e157 3 (some .int) emI (d + 0) [vI l0, vI l1, vW] (fJ3_checkIndex_8e157 l0 l1) := mt_of rfl rfl (fun h => by cases h) rfl rfl (rJ3_checkIndex_8e157 v d l0 l1)
theorem dJ0_checkIndex_df160_0 : decode cJ0_checkIndex_df160 0 = .ok (.iload_n 0, 1) := by decide +kernel
theorem dJ0_checkIndex_df160_1 : decode cJ0_checkIndex_df160 1 = .ok (.iload_n 1, 1) := by decide +kernel
theorem dJ0_checkIndex_df160_2 : decode cJ0_checkIndex_df160 2 = .ok (.getstatic 1053, 3) := by decide +kernel
theorem dJ0_checkIndex_df160_5 : decode cJ0_checkIndex_df160 5 = .ok (.invokestatic 1059, 3) := by decide +kernel
theorem dJ0_checkIndex_df160_8 : decode cJ0_checkIndex_df160 8 = .ok (.pop, 1) := by decide +kernel
theorem dJ0_checkIndex_df160_9 : decode cJ0_checkIndex_df160 9 = .ok (.return_, 1) := by decide +kernel
def fJ0_checkIndex_df160 (l0 : Int32) (l1 : Int32) : mM Unit := bCall (fJ3_checkIndex_8e157 l0 l1) (fun x1 => bRet ())
set_option maxRecDepth 20000 in
theorem rJ0_checkIndex_df160 (v : mE) (d : Nat) (l0 : Int32) (l1 : Int32) : Rz v RJ0 cJ0_checkIndex_df160 2 none false emU (d + 1) 0 [(0, vI l0), (1, vI l1)] [] (fJ0_checkIndex_df160 l0 l1) := by
  unfold fJ0_checkIndex_df160
  refine rz_iload_n 1 0 dJ0_checkIndex_df160_0 rfl rfl ?_
  refine rz_iload_n 2 1 dJ0_checkIndex_df160_1 rfl rfl ?_
  refine rz_xsf 5 dJ0_checkIndex_df160_2 rfl fl_J0_1053 ?_
  refine rz_callS 8 dJ0_checkIndex_df160_5 rfl (tJ3_checkIndex_8e157 v (d + 0) l0 l1) rfl rfl ml_J0_1059 sm_J3_checkIndex_8e157 in_J3 co_J3_checkIndex_8e157 rfl rfl (fun x1 => ?_)
  refine rz_pop 9 dJ0_checkIndex_df160_8 rfl rfl ?_
  exact rz_return rfl rfl dJ0_checkIndex_df160_9
theorem tJ0_checkIndex_df160 (v : mE) (d : Nat) (l0 : Int32) (l1 : Int32) : Mt v yJ0_checkIndex_df160 cJ0_checkIndex_df160 2 none emU (d + 1) [vI l0, vI l1] (fJ0_checkIndex_df160 l0 l1) := mt_of rfl rfl (fun h => by cases h) rfl rfl (rJ0_checkIndex_df160 v d l0 l1)
theorem dJ1_charAt_3b067_0 : decode cJ1_charAt_3b067 0 = .ok (.iload_n 1, 1) := by decide +kernel
theorem dJ1_charAt_3b067_1 : decode cJ1_charAt_3b067 1 = .ok (.aload_n 0, 1) := by decide +kernel
theorem dJ1_charAt_3b067_2 : decode cJ1_charAt_3b067 2 = .ok (.arraylength, 1) := by decide +kernel
theorem dJ1_charAt_3b067_3 : decode cJ1_charAt_3b067 3 = .ok (.invokestatic 9, 3) := by decide +kernel
theorem dJ1_charAt_3b067_6 : decode cJ1_charAt_3b067 6 = .ok (.aload_n 0, 1) := by decide +kernel
theorem dJ1_charAt_3b067_7 : decode cJ1_charAt_3b067 7 = .ok (.iload_n 1, 1) := by decide +kernel
theorem dJ1_charAt_3b067_8 : decode cJ1_charAt_3b067 8 = .ok (.baload, 1) := by decide +kernel
theorem dJ1_charAt_3b067_9 : decode cJ1_charAt_3b067 9 = .ok (.sipush 255, 3) := by decide +kernel
theorem dJ1_charAt_3b067_12 : decode cJ1_charAt_3b067 12 = .ok (.iand, 1) := by decide +kernel
theorem dJ1_charAt_3b067_13 : decode cJ1_charAt_3b067 13 = .ok (.i2c, 1) := by decide +kernel
theorem dJ1_charAt_3b067_14 : decode cJ1_charAt_3b067 14 = .ok (.ireturn, 1) := by decide +kernel
def fJ1_charAt_3b067 (l0 : Nat) (l1 : Int32) : mM Int32 := bXl l0 (fun x1 => bCall (fJ0_checkIndex_df160 l1 x1) (fun _ => bXb l0 l1 (fun x2 => bRetN .char (((Int32.toUInt32 (x2 &&& (255 : Int32))) % 65536).toInt32))))
set_option maxRecDepth 20000 in
theorem rJ1_charAt_3b067 (v : mE) (d : Nat) (l0 : Nat) (l1 : Int32) : Rz v RJ1 cJ1_charAt_3b067 2 (some .char) false emI (d + 2) 0 [(0, vX l0), (1, vI l1)] [] (fJ1_charAt_3b067 l0 l1) := by
  unfold fJ1_charAt_3b067
  refine rz_iload_n 1 1 dJ1_charAt_3b067_0 rfl rfl ?_
  refine rz_xload_n 2 0 dJ1_charAt_3b067_1 rfl rfl ?_
  refine rz_xlen 3 dJ1_charAt_3b067_2 rfl (fun x1 => ?_)
  refine rz_callS 6 dJ1_charAt_3b067_3 rfl (tJ0_checkIndex_df160 v (d + 0) l1 x1) rfl rfl ml_J1_9 sm_J0_checkIndex_df160 in_J0 co_J0_checkIndex_df160 rfl rfl (fun _ => ?_)
  refine rz_xload_n 7 0 dJ1_charAt_3b067_6 rfl rfl ?_
  refine rz_iload_n 8 1 dJ1_charAt_3b067_7 rfl rfl ?_
  refine rz_xald 9 dJ1_charAt_3b067_8 rfl (fun x2 => ?_)
  refine rz_sipush 12 dJ1_charAt_3b067_9 rfl cs_255 ?_
  refine rz_iand 13 dJ1_charAt_3b067_12 rfl ?_
  refine rz_i2c 14 dJ1_charAt_3b067_13 rfl ?_
  exact rz_nreturn rfl (by decide) rfl dJ1_charAt_3b067_14
theorem tJ1_charAt_3b067 (v : mE) (d : Nat) (l0 : Nat) (l1 : Int32) : Mt v yJ1_charAt_3b067 cJ1_charAt_3b067 2 (some .char) emI (d + 2) [vX l0, vI l1] (fJ1_charAt_3b067 l0 l1) := mt_of rfl rfl (fun h => by cases h) rfl rfl (rJ1_charAt_3b067 v d l0 l1)
theorem dJ0_charAt_5068e_0 : decode cJ0_charAt_5068e 0 = .ok (.aload_n 0, 1) := by decide +kernel
theorem dJ0_charAt_5068e_1 : decode cJ0_charAt_5068e 1 = .ok (.invokevirtual 492, 3) := by decide +kernel
theorem dJ0_charAt_5068e_4 : decode cJ0_charAt_5068e 4 = .ok (.ifCond .eq 12, 3) := by decide +kernel
theorem dJ0_charAt_5068e_7 : decode cJ0_charAt_5068e 7 = .ok (.aload_n 0, 1) := by decide +kernel
theorem dJ0_charAt_5068e_8 : decode cJ0_charAt_5068e 8 = .ok (.getfield 9, 3) := by decide +kernel
theorem dJ0_charAt_5068e_11 : decode cJ0_charAt_5068e 11 = .ok (.iload_n 1, 1) := by decide +kernel
theorem dJ0_charAt_5068e_12 : decode cJ0_charAt_5068e 12 = .ok (.invokestatic 495, 3) := by decide +kernel
theorem dJ0_charAt_5068e_15 : decode cJ0_charAt_5068e 15 = .ok (.ireturn, 1) := by decide +kernel
theorem dJ0_charAt_5068e_16 : decode cJ0_charAt_5068e 16 = .ok (.aload_n 0, 1) := by decide +kernel
def fJ0_charAt_5068e (l0 : Nat) (l1 : Int32) : mM Int32 := bCallX l0 (fJ0_isLatin1_aae02 l0) (fun x1 => bIf (x1 = 0) (bFail) (bXk l0 (bCall (fJ1_charAt_3b067 (36 + l0) l1) (fun x2 => bRetN .char x2))))
set_option maxRecDepth 20000 in
theorem rJ0_charAt_5068e (v : mE) (d : Nat) (l0 : Nat) (l1 : Int32) : Rz v RJ0 cJ0_charAt_5068e 2 (some .char) false emI (d + 3) 0 [(0, vX l0), (1, vI l1)] [] (fJ0_charAt_5068e l0 l1) := by
  unfold fJ0_charAt_5068e
  refine rz_xload_n 1 0 dJ0_charAt_5068e_0 rfl rfl ?_
  refine rz_callX 4 dJ0_charAt_5068e_1 rfl (tJ0_isLatin1_aae02 v (d + 2) l0) rfl rfl rfl ml_J0_492 im_J0_isLatin1_aae02 se_J0_J0_isLatin1_aae02 in_J0 co_J0_isLatin1_aae02 rfl rfl (fun x1 => ?_)
  refine rz_if_eq 16 7 dJ0_charAt_5068e_4 rfl rfl ?_ ?_
  · exact rz_fail
  · refine rz_xload_n 8 0 dJ0_charAt_5068e_7 rfl rfl ?_
    refine rz_xval 11 dJ0_charAt_5068e_8 rfl fl_J0_9 ?_
    refine rz_iload_n 12 1 dJ0_charAt_5068e_11 rfl rfl ?_
    refine rz_callS 15 dJ0_charAt_5068e_12 rfl (tJ1_charAt_3b067 v (d + 0) (36 + l0) l1) rfl rfl ml_J0_495 sm_J1_charAt_3b067 in_J1 co_J1_charAt_3b067 rfl rfl (fun x2 => ?_)
    exact rz_nreturn rfl (by decide) rfl dJ0_charAt_5068e_15
theorem tJ0_charAt_5068e (v : mE) (d : Nat) (l0 : Nat) (l1 : Int32) : Mt v yJ0_charAt_5068e cJ0_charAt_5068e 2 (some .char) emI (d + 3) [vX l0, vI l1] (fJ0_charAt_5068e l0 l1) := mt_of rfl rfl (fun h => by cases h) rfl rfl (rJ0_charAt_5068e v d l0 l1)
theorem dJ1_canEncode_9a6ad_0 : decode cJ1_canEncode_9a6ad 0 = .ok (.iload_n 0, 1) := by decide +kernel
theorem dJ1_canEncode_9a6ad_1 : decode cJ1_canEncode_9a6ad 1 = .ok (.ifCond .lt 14, 3) := by decide +kernel
theorem dJ1_canEncode_9a6ad_4 : decode cJ1_canEncode_9a6ad 4 = .ok (.iload_n 0, 1) := by decide +kernel
theorem dJ1_canEncode_9a6ad_5 : decode cJ1_canEncode_9a6ad 5 = .ok (.sipush 255, 3) := by decide +kernel
theorem dJ1_canEncode_9a6ad_8 : decode cJ1_canEncode_9a6ad 8 = .ok (.if_icmp .gt 7, 3) := by decide +kernel
theorem dJ1_canEncode_9a6ad_11 : decode cJ1_canEncode_9a6ad 11 = .ok (.iconst 1, 1) := by decide +kernel
theorem dJ1_canEncode_9a6ad_12 : decode cJ1_canEncode_9a6ad 12 = .ok (.goto 4, 3) := by decide +kernel
theorem dJ1_canEncode_9a6ad_15 : decode cJ1_canEncode_9a6ad 15 = .ok (.iconst 0, 1) := by decide +kernel
theorem dJ1_canEncode_9a6ad_16 : decode cJ1_canEncode_9a6ad 16 = .ok (.ireturn, 1) := by decide +kernel
def fJ1_canEncode_9a6ad (l0 : Int32) : mM Int32 := bIf (l0 < 0) (bRetZ (0 : Int32)) (bIf ((255 : Int32) < l0) (bRetZ (0 : Int32)) (bRetZ (1 : Int32)))
set_option maxRecDepth 20000 in
theorem rJ1_canEncode_9a6ad (v : mE) (d : Nat) (l0 : Int32) : Rz v RJ1 cJ1_canEncode_9a6ad 1 (some .boolean) false emI (d + 0) 0 [(0, vI l0)] [] (fJ1_canEncode_9a6ad l0) := by
  unfold fJ1_canEncode_9a6ad
  refine rz_iload_n 1 0 dJ1_canEncode_9a6ad_0 rfl rfl ?_
  refine rz_if_lt 15 4 dJ1_canEncode_9a6ad_1 rfl rfl ?_ ?_
  · refine rz_iconst 16 dJ1_canEncode_9a6ad_15 rfl ci_0 ?_
    exact rz_zreturn rfl rfl dJ1_canEncode_9a6ad_16
  · refine rz_iload_n 5 0 dJ1_canEncode_9a6ad_4 rfl rfl ?_
    refine rz_sipush 8 dJ1_canEncode_9a6ad_5 rfl cs_255 ?_
    refine rz_icmp_gt 15 11 dJ1_canEncode_9a6ad_8 rfl rfl ?_ ?_
    · refine rz_iconst 16 dJ1_canEncode_9a6ad_15 rfl ci_0 ?_
      exact rz_zreturn rfl rfl dJ1_canEncode_9a6ad_16
    · refine rz_iconst 12 dJ1_canEncode_9a6ad_11 rfl ci_1 ?_
      refine rz_goto 16 dJ1_canEncode_9a6ad_12 rfl ?_
      exact rz_zreturn rfl rfl dJ1_canEncode_9a6ad_16
theorem tJ1_canEncode_9a6ad (v : mE) (d : Nat) (l0 : Int32) : Mt v yJ1_canEncode_9a6ad cJ1_canEncode_9a6ad 1 (some .boolean) emI (d + 0) [vI l0] (fJ1_canEncode_9a6ad l0) := mt_of rfl rfl (fun h => by cases h) rfl rfl (rJ1_canEncode_9a6ad v d l0)
theorem dJ1_indexOfChar_4cfef_0 : decode cJ1_indexOfChar_4cfef 0 = .ok (.iload_n 1, 1) := by decide +kernel
theorem dJ1_indexOfChar_4cfef_1 : decode cJ1_indexOfChar_4cfef 1 = .ok (.i2b, 1) := by decide +kernel
theorem dJ1_indexOfChar_4cfef_2 : decode cJ1_indexOfChar_4cfef 2 = .ok (.istore 4, 2) := by decide +kernel
theorem dJ1_indexOfChar_4cfef_4 : decode cJ1_indexOfChar_4cfef 4 = .ok (.iload_n 2, 1) := by decide +kernel
theorem dJ1_indexOfChar_4cfef_5 : decode cJ1_indexOfChar_4cfef 5 = .ok (.istore 5, 2) := by decide +kernel
theorem dJ1_indexOfChar_4cfef_7 : decode cJ1_indexOfChar_4cfef 7 = .ok (.iload 5, 2) := by decide +kernel
theorem dJ1_indexOfChar_4cfef_9 : decode cJ1_indexOfChar_4cfef 9 = .ok (.iload_n 3, 1) := by decide +kernel
theorem dJ1_indexOfChar_4cfef_10 : decode cJ1_indexOfChar_4cfef 10 = .ok (.if_icmp .ge 21, 3) := by decide +kernel
theorem dJ1_indexOfChar_4cfef_13 : decode cJ1_indexOfChar_4cfef 13 = .ok (.aload_n 0, 1) := by decide +kernel
theorem dJ1_indexOfChar_4cfef_14 : decode cJ1_indexOfChar_4cfef 14 = .ok (.iload 5, 2) := by decide +kernel
theorem dJ1_indexOfChar_4cfef_16 : decode cJ1_indexOfChar_4cfef 16 = .ok (.baload, 1) := by decide +kernel
theorem dJ1_indexOfChar_4cfef_17 : decode cJ1_indexOfChar_4cfef 17 = .ok (.iload 4, 2) := by decide +kernel
theorem dJ1_indexOfChar_4cfef_19 : decode cJ1_indexOfChar_4cfef 19 = .ok (.if_icmp .ne 6, 3) := by decide +kernel
theorem dJ1_indexOfChar_4cfef_22 : decode cJ1_indexOfChar_4cfef 22 = .ok (.iload 5, 2) := by decide +kernel
theorem dJ1_indexOfChar_4cfef_24 : decode cJ1_indexOfChar_4cfef 24 = .ok (.ireturn, 1) := by decide +kernel
theorem dJ1_indexOfChar_4cfef_25 : decode cJ1_indexOfChar_4cfef 25 = .ok (.iinc 5 1, 3) := by decide +kernel
theorem dJ1_indexOfChar_4cfef_28 : decode cJ1_indexOfChar_4cfef 28 = .ok (.goto (-21), 3) := by decide +kernel
theorem dJ1_indexOfChar_4cfef_31 : decode cJ1_indexOfChar_4cfef 31 = .ok (.iconst (-1), 1) := by decide +kernel
theorem dJ1_indexOfChar_4cfef_32 : decode cJ1_indexOfChar_4cfef 32 = .ok (.ireturn, 1) := by decide +kernel
def fJ1_indexOfChar_4cfef_7 : Nat → Nat → Int32 → Int32 → Int32 → mM Int32
  | 0 => fun _ _ _ _ => fun _ => none
  | n + 1 => fun l0 l3 l4 l5 => let r7 := fJ1_indexOfChar_4cfef_7 n; bIf (l3 ≤ l5) (bRet (-1 : Int32)) (bXb l0 l5 (fun x1 => bIf (x1 = l4) (bRet l5) (r7 l0 l3 l4 (l5 + 1))))
theorem qJ1_indexOfChar_4cfef_7  (n : Nat) (l0 : Nat) (l3 : Int32) (l4 : Int32) (l5 : Int32) : fJ1_indexOfChar_4cfef_7 (n + 1) l0 l3 l4 l5 = bIf (l3 ≤ l5) (bRet (-1 : Int32)) (bXb l0 l5 (fun x1 => bIf (x1 = l4) (bRet l5) ((fJ1_indexOfChar_4cfef_7 n) l0 l3 l4 (l5 + 1)))) := rfl
set_option maxRecDepth 20000 in
theorem rJ1_indexOfChar_4cfef_7 (v : mE) (d : Nat) : ∀ (n : Nat) (l0 : Nat) (l3 : Int32) (l4 : Int32) (l5 : Int32), Rz v RJ1 cJ1_indexOfChar_4cfef 6 (some .int) false emI (d + 0) 7 [(0, vX l0), (3, vI l3), (4, vI l4), (5, vI l5)] [] (fJ1_indexOfChar_4cfef_7 n l0 l3 l4 l5)
  | 0, _, _, _, _ => fun _ _ _ hm => by cases hm
  | n + 1, l0, l3, l4, l5 => by
    have h7 := rJ1_indexOfChar_4cfef_7 v d n
    unfold fJ1_indexOfChar_4cfef_7
    generalize fJ1_indexOfChar_4cfef_7 n = r7 at h7 ⊢
    refine rz_iload 9 3 dJ1_indexOfChar_4cfef_7 rfl rfl ?_
    refine rz_iload_n 10 1 dJ1_indexOfChar_4cfef_9 rfl rfl ?_
    refine rz_icmp_ge 31 13 dJ1_indexOfChar_4cfef_10 rfl rfl ?_ ?_
    · refine rz_iconst 32 dJ1_indexOfChar_4cfef_31 rfl ci_m1 ?_
      exact rz_ireturn rfl rfl dJ1_indexOfChar_4cfef_32
    · refine rz_xload_n 14 0 dJ1_indexOfChar_4cfef_13 rfl rfl ?_
      refine rz_iload 16 3 dJ1_indexOfChar_4cfef_14 rfl rfl ?_
      refine rz_xald 17 dJ1_indexOfChar_4cfef_16 rfl (fun x1 => ?_)
      refine rz_iload 19 2 dJ1_indexOfChar_4cfef_17 rfl rfl ?_
      refine rz_icmp_ne 25 22 dJ1_indexOfChar_4cfef_19 rfl rfl ?_ ?_
      · refine rz_iinc (lv' := [(5, vI (l5 + 1)), (0, vX l0), (3, vI l3), (4, vI l4)]) 28 3 dJ1_indexOfChar_4cfef_25 rfl rfl (cn_1 _) rfl rfl ?_
        refine rz_goto 7 dJ1_indexOfChar_4cfef_28 rfl ?_
        exact rz_sub [1, 2, 3, 0] rfl (h7 l0 l3 l4 (l5 + 1))
      · refine rz_iload 24 3 dJ1_indexOfChar_4cfef_22 rfl rfl ?_
        exact rz_ireturn rfl rfl dJ1_indexOfChar_4cfef_24
def fJ1_indexOfChar_4cfef (l0 : Nat) (l1 : Int32) (l2 : Int32) (l3 : Int32) : mM Int32 := fJ1_indexOfChar_4cfef_7 fu l0 l3 ((Int32.toInt8 l1).toInt32) l2
set_option maxRecDepth 20000 in
theorem rJ1_indexOfChar_4cfef (v : mE) (d : Nat) (l0 : Nat) (l1 : Int32) (l2 : Int32) (l3 : Int32) : Rz v RJ1 cJ1_indexOfChar_4cfef 6 (some .int) false emI (d + 0) 0 [(0, vX l0), (1, vI l1), (2, vI l2), (3, vI l3)] [] (fJ1_indexOfChar_4cfef l0 l1 l2 l3) := by
  unfold fJ1_indexOfChar_4cfef
  refine rz_iload_n 1 1 dJ1_indexOfChar_4cfef_0 rfl rfl ?_
  refine rz_i2b 2 dJ1_indexOfChar_4cfef_1 rfl ?_
  refine rz_istore (lv' := [(4, vI ((Int32.toInt8 l1).toInt32)), (0, vX l0), (1, vI l1), (2, vI l2), (3, vI l3)]) 4 dJ1_indexOfChar_4cfef_2 rfl rfl rfl ?_
  refine rz_iload_n 5 3 dJ1_indexOfChar_4cfef_4 rfl rfl ?_
  refine rz_istore (lv' := [(5, vI l2), (4, vI ((Int32.toInt8 l1).toInt32)), (0, vX l0), (1, vI l1), (2, vI l2), (3, vI l3)]) 7 dJ1_indexOfChar_4cfef_5 rfl rfl rfl ?_
  exact rz_sub [2, 5, 1, 0] rfl (rJ1_indexOfChar_4cfef_7 v d fu l0 l3 ((Int32.toInt8 l1).toInt32) l2)
theorem tJ1_indexOfChar_4cfef (v : mE) (d : Nat) (l0 : Nat) (l1 : Int32) (l2 : Int32) (l3 : Int32) : Mt v yJ1_indexOfChar_4cfef cJ1_indexOfChar_4cfef 6 (some .int) emI (d + 0) [vX l0, vI l1, vI l2, vI l3] (fJ1_indexOfChar_4cfef l0 l1 l2 l3) := mt_of rfl rfl (fun h => by cases h) rfl rfl (rJ1_indexOfChar_4cfef v d l0 l1 l2 l3)
theorem dJ1_indexOf_4cfef_0 : decode cJ1_indexOf_4cfef 0 = .ok (.iload_n 1, 1) := by decide +kernel
theorem dJ1_indexOf_4cfef_1 : decode cJ1_indexOf_4cfef 1 = .ok (.invokestatic 88, 3) := by decide +kernel
theorem dJ1_indexOf_4cfef_4 : decode cJ1_indexOf_4cfef 4 = .ok (.ifCond .ne 5, 3) := by decide +kernel
theorem dJ1_indexOf_4cfef_7 : decode cJ1_indexOf_4cfef 7 = .ok (.iconst (-1), 1) := by decide +kernel
theorem dJ1_indexOf_4cfef_8 : decode cJ1_indexOf_4cfef 8 = .ok (.ireturn, 1) := by decide +kernel
theorem dJ1_indexOf_4cfef_9 : decode cJ1_indexOf_4cfef 9 = .ok (.iload_n 2, 1) := by decide +kernel
theorem dJ1_indexOf_4cfef_10 : decode cJ1_indexOf_4cfef 10 = .ok (.iconst 0, 1) := by decide +kernel
theorem dJ1_indexOf_4cfef_11 : decode cJ1_indexOf_4cfef 11 = .ok (.invokestatic 92, 3) := by decide +kernel
theorem dJ1_indexOf_4cfef_14 : decode cJ1_indexOf_4cfef 14 = .ok (.istore_n 2, 1) := by decide +kernel
theorem dJ1_indexOf_4cfef_15 : decode cJ1_indexOf_4cfef 15 = .ok (.iload_n 3, 1) := by decide +kernel
theorem dJ1_indexOf_4cfef_16 : decode cJ1_indexOf_4cfef 16 = .ok (.aload_n 0, 1) := by decide +kernel
theorem dJ1_indexOf_4cfef_17 : decode cJ1_indexOf_4cfef 17 = .ok (.arraylength, 1) := by decide +kernel
theorem dJ1_indexOf_4cfef_18 : decode cJ1_indexOf_4cfef 18 = .ok (.invokestatic 38, 3) := by decide +kernel
theorem dJ1_indexOf_4cfef_21 : decode cJ1_indexOf_4cfef 21 = .ok (.istore_n 3, 1) := by decide +kernel
theorem dJ1_indexOf_4cfef_22 : decode cJ1_indexOf_4cfef 22 = .ok (.iload_n 2, 1) := by decide +kernel
theorem dJ1_indexOf_4cfef_23 : decode cJ1_indexOf_4cfef 23 = .ok (.iload_n 3, 1) := by decide +kernel
theorem dJ1_indexOf_4cfef_24 : decode cJ1_indexOf_4cfef 24 = .ok (.if_icmp .lt 5, 3) := by decide +kernel
theorem dJ1_indexOf_4cfef_27 : decode cJ1_indexOf_4cfef 27 = .ok (.iconst (-1), 1) := by decide +kernel
theorem dJ1_indexOf_4cfef_28 : decode cJ1_indexOf_4cfef 28 = .ok (.ireturn, 1) := by decide +kernel
theorem dJ1_indexOf_4cfef_29 : decode cJ1_indexOf_4cfef 29 = .ok (.aload_n 0, 1) := by decide +kernel
theorem dJ1_indexOf_4cfef_30 : decode cJ1_indexOf_4cfef 30 = .ok (.iload_n 1, 1) := by decide +kernel
theorem dJ1_indexOf_4cfef_31 : decode cJ1_indexOf_4cfef 31 = .ok (.iload_n 2, 1) := by decide +kernel
theorem dJ1_indexOf_4cfef_32 : decode cJ1_indexOf_4cfef 32 = .ok (.iload_n 3, 1) := by decide +kernel
theorem dJ1_indexOf_4cfef_33 : decode cJ1_indexOf_4cfef 33 = .ok (.invokestatic 95, 3) := by decide +kernel
theorem dJ1_indexOf_4cfef_36 : decode cJ1_indexOf_4cfef 36 = .ok (.ireturn, 1) := by decide +kernel
def fJ1_indexOf_4cfef (l0 : Nat) (l1 : Int32) (l2 : Int32) (l3 : Int32) : mM Int32 := bCall (fJ1_canEncode_9a6ad l1) (fun x1 => bIf (x1 = 0) (bRet (-1 : Int32)) (bXl l0 (fun x2 => bIf ((jMax l2 (0 : Int32)) < (jMin l3 x2)) (bCall (fJ1_indexOfChar_4cfef l0 l1 (jMax l2 (0 : Int32)) (jMin l3 x2)) (fun x3 => bRet x3)) (bRet (-1 : Int32)))))
set_option maxRecDepth 20000 in
theorem rJ1_indexOf_4cfef (v : mE) (d : Nat) (l0 : Nat) (l1 : Int32) (l2 : Int32) (l3 : Int32) : Rz v RJ1 cJ1_indexOf_4cfef 4 (some .int) false emI (d + 1) 0 [(0, vX l0), (1, vI l1), (2, vI l2), (3, vI l3)] [] (fJ1_indexOf_4cfef l0 l1 l2 l3) := by
  unfold fJ1_indexOf_4cfef
  refine rz_iload_n 1 1 dJ1_indexOf_4cfef_0 rfl rfl ?_
  refine rz_callS 4 dJ1_indexOf_4cfef_1 rfl (tJ1_canEncode_9a6ad v (d + 0) l1) rfl rfl ml_J1_88 sm_J1_canEncode_9a6ad in_J1 co_J1_canEncode_9a6ad rfl rfl (fun x1 => ?_)
  refine rz_if_ne 9 7 dJ1_indexOf_4cfef_4 rfl rfl ?_ ?_
  · refine rz_iload_n 10 2 dJ1_indexOf_4cfef_9 rfl rfl ?_
    refine rz_iconst 11 dJ1_indexOf_4cfef_10 rfl ci_0 ?_
    refine rz_mmax 14 dJ1_indexOf_4cfef_11 rfl ml_J1_92 rfl rfl ?_
    refine rz_istore_n (lv' := [(2, vI (jMax l2 (0 : Int32))), (0, vX l0), (1, vI l1), (3, vI l3)]) 15 dJ1_indexOf_4cfef_14 rfl rfl rfl ?_
    refine rz_iload_n 16 3 dJ1_indexOf_4cfef_15 rfl rfl ?_
    refine rz_xload_n 17 1 dJ1_indexOf_4cfef_16 rfl rfl ?_
    refine rz_xlen 18 dJ1_indexOf_4cfef_17 rfl (fun x2 => ?_)
    refine rz_mmin 21 dJ1_indexOf_4cfef_18 rfl ml_J1_38 rfl rfl ?_
    refine rz_istore_n (lv' := [(3, vI (jMin l3 x2)), (2, vI (jMax l2 (0 : Int32))), (0, vX l0), (1, vI l1)]) 22 dJ1_indexOf_4cfef_21 rfl rfl rfl ?_
    refine rz_iload_n 23 1 dJ1_indexOf_4cfef_22 rfl rfl ?_
    refine rz_iload_n 24 0 dJ1_indexOf_4cfef_23 rfl rfl ?_
    refine rz_icmp_lt 29 27 dJ1_indexOf_4cfef_24 rfl rfl ?_ ?_
    · refine rz_xload_n 30 2 dJ1_indexOf_4cfef_29 rfl rfl ?_
      refine rz_iload_n 31 3 dJ1_indexOf_4cfef_30 rfl rfl ?_
      refine rz_iload_n 32 1 dJ1_indexOf_4cfef_31 rfl rfl ?_
      refine rz_iload_n 33 0 dJ1_indexOf_4cfef_32 rfl rfl ?_
      refine rz_callS 36 dJ1_indexOf_4cfef_33 rfl (tJ1_indexOfChar_4cfef v (d + 0) l0 l1 (jMax l2 (0 : Int32)) (jMin l3 x2)) rfl rfl ml_J1_95 sm_J1_indexOfChar_4cfef in_J1 co_J1_indexOfChar_4cfef rfl rfl (fun x3 => ?_)
      exact rz_ireturn rfl rfl dJ1_indexOf_4cfef_36
    · refine rz_iconst 28 dJ1_indexOf_4cfef_27 rfl ci_m1 ?_
      exact rz_ireturn rfl rfl dJ1_indexOf_4cfef_28
  · refine rz_iconst 8 dJ1_indexOf_4cfef_7 rfl ci_m1 ?_
    exact rz_ireturn rfl rfl dJ1_indexOf_4cfef_8
theorem tJ1_indexOf_4cfef (v : mE) (d : Nat) (l0 : Nat) (l1 : Int32) (l2 : Int32) (l3 : Int32) : Mt v yJ1_indexOf_4cfef cJ1_indexOf_4cfef 4 (some .int) emI (d + 1) [vX l0, vI l1, vI l2, vI l3] (fJ1_indexOf_4cfef l0 l1 l2 l3) := mt_of rfl rfl (fun h => by cases h) rfl rfl (rJ1_indexOf_4cfef v d l0 l1 l2 l3)
theorem dJ0_indexOf_7cf53_0 : decode cJ0_indexOf_7cf53 0 = .ok (.aload_n 0, 1) := by decide +kernel
theorem dJ0_indexOf_7cf53_1 : decode cJ0_indexOf_7cf53 1 = .ok (.invokevirtual 492, 3) := by decide +kernel
theorem dJ0_indexOf_7cf53_4 : decode cJ0_indexOf_7cf53 4 = .ok (.ifCond .eq 19, 3) := by decide +kernel
theorem dJ0_indexOf_7cf53_7 : decode cJ0_indexOf_7cf53 7 = .ok (.aload_n 0, 1) := by decide +kernel
theorem dJ0_indexOf_7cf53_8 : decode cJ0_indexOf_7cf53 8 = .ok (.getfield 9, 3) := by decide +kernel
theorem dJ0_indexOf_7cf53_11 : decode cJ0_indexOf_7cf53 11 = .ok (.iload_n 1, 1) := by decide +kernel
theorem dJ0_indexOf_7cf53_12 : decode cJ0_indexOf_7cf53 12 = .ok (.iload_n 2, 1) := by decide +kernel
theorem dJ0_indexOf_7cf53_13 : decode cJ0_indexOf_7cf53 13 = .ok (.aload_n 0, 1) := by decide +kernel
theorem dJ0_indexOf_7cf53_14 : decode cJ0_indexOf_7cf53 14 = .ok (.invokevirtual 505, 3) := by decide +kernel
theorem dJ0_indexOf_7cf53_17 : decode cJ0_indexOf_7cf53 17 = .ok (.invokestatic 637, 3) := by decide +kernel
theorem dJ0_indexOf_7cf53_20 : decode cJ0_indexOf_7cf53 20 = .ok (.goto 16, 3) := by decide +kernel
theorem dJ0_indexOf_7cf53_23 : decode cJ0_indexOf_7cf53 23 = .ok (.aload_n 0, 1) := by decide +kernel
theorem dJ0_indexOf_7cf53_36 : decode cJ0_indexOf_7cf53 36 = .ok (.ireturn, 1) := by decide +kernel
def fJ0_indexOf_7cf53 (l0 : Nat) (l1 : Int32) (l2 : Int32) : mM Int32 := bCallX l0 (fJ0_isLatin1_aae02 l0) (fun x1 => bIf (x1 = 0) (bFail) (bXk l0 (bCallX l0 (fJ0_length_8abf5 l0) (fun x2 => bCall (fJ1_indexOf_4cfef (36 + l0) l1 l2 x2) (fun x3 => bRet x3)))))
set_option maxRecDepth 20000 in
theorem rJ0_indexOf_7cf53 (v : mE) (d : Nat) (l0 : Nat) (l1 : Int32) (l2 : Int32) : Rz v RJ0 cJ0_indexOf_7cf53 3 (some .int) false emI (d + 2) 0 [(0, vX l0), (1, vI l1), (2, vI l2)] [] (fJ0_indexOf_7cf53 l0 l1 l2) := by
  unfold fJ0_indexOf_7cf53
  refine rz_xload_n 1 0 dJ0_indexOf_7cf53_0 rfl rfl ?_
  refine rz_callX 4 dJ0_indexOf_7cf53_1 rfl (tJ0_isLatin1_aae02 v (d + 1) l0) rfl rfl rfl ml_J0_492 im_J0_isLatin1_aae02 se_J0_J0_isLatin1_aae02 in_J0 co_J0_isLatin1_aae02 rfl rfl (fun x1 => ?_)
  refine rz_if_eq 23 7 dJ0_indexOf_7cf53_4 rfl rfl ?_ ?_
  · exact rz_fail
  · refine rz_xload_n 8 0 dJ0_indexOf_7cf53_7 rfl rfl ?_
    refine rz_xval 11 dJ0_indexOf_7cf53_8 rfl fl_J0_9 ?_
    refine rz_iload_n 12 1 dJ0_indexOf_7cf53_11 rfl rfl ?_
    refine rz_iload_n 13 2 dJ0_indexOf_7cf53_12 rfl rfl ?_
    refine rz_xload_n 14 0 dJ0_indexOf_7cf53_13 rfl rfl ?_
    refine rz_callX 17 dJ0_indexOf_7cf53_14 rfl (tJ0_length_8abf5 v (d + 0) l0) rfl rfl rfl ml_J0_505 im_J0_length_8abf5 se_J0_J0_length_8abf5 in_J0 co_J0_length_8abf5 rfl rfl (fun x2 => ?_)
    refine rz_callS 20 dJ0_indexOf_7cf53_17 rfl (tJ1_indexOf_4cfef v (d + 0) (36 + l0) l1 l2 x2) rfl rfl ml_J0_637 sm_J1_indexOf_4cfef in_J1 co_J1_indexOf_4cfef rfl rfl (fun x3 => ?_)
    refine rz_goto 36 dJ0_indexOf_7cf53_20 rfl ?_
    exact rz_ireturn rfl rfl dJ0_indexOf_7cf53_36
theorem tJ0_indexOf_7cf53 (v : mE) (d : Nat) (l0 : Nat) (l1 : Int32) (l2 : Int32) : Mt v yJ0_indexOf_7cf53 cJ0_indexOf_7cf53 3 (some .int) emI (d + 2) [vX l0, vI l1, vI l2] (fJ0_indexOf_7cf53 l0 l1 l2) := mt_of rfl rfl (fun h => by cases h) rfl rfl (rJ0_indexOf_7cf53 v d l0 l1 l2)
theorem dJ0_indexOf_0f7a4_0 : decode cJ0_indexOf_0f7a4 0 = .ok (.aload_n 0, 1) := by decide +kernel
theorem dJ0_indexOf_0f7a4_1 : decode cJ0_indexOf_0f7a4 1 = .ok (.iload_n 1, 1) := by decide +kernel
theorem dJ0_indexOf_0f7a4_2 : decode cJ0_indexOf_0f7a4 2 = .ok (.iconst 0, 1) := by decide +kernel
theorem dJ0_indexOf_0f7a4_3 : decode cJ0_indexOf_0f7a4 3 = .ok (.invokevirtual 633, 3) := by decide +kernel
theorem dJ0_indexOf_0f7a4_6 : decode cJ0_indexOf_0f7a4 6 = .ok (.ireturn, 1) := by decide +kernel
def fJ0_indexOf_0f7a4 (l0 : Nat) (l1 : Int32) : mM Int32 := bCallX l0 (fJ0_indexOf_7cf53 l0 l1 (0 : Int32)) (fun x1 => bRet x1)
set_option maxRecDepth 20000 in
theorem rJ0_indexOf_0f7a4 (v : mE) (d : Nat) (l0 : Nat) (l1 : Int32) : Rz v RJ0 cJ0_indexOf_0f7a4 2 (some .int) false emI (d + 3) 0 [(0, vX l0), (1, vI l1)] [] (fJ0_indexOf_0f7a4 l0 l1) := by
  unfold fJ0_indexOf_0f7a4
  refine rz_xload_n 1 0 dJ0_indexOf_0f7a4_0 rfl rfl ?_
  refine rz_iload_n 2 1 dJ0_indexOf_0f7a4_1 rfl rfl ?_
  refine rz_iconst 3 dJ0_indexOf_0f7a4_2 rfl ci_0 ?_
  refine rz_callX 6 dJ0_indexOf_0f7a4_3 rfl (tJ0_indexOf_7cf53 v (d + 0) l0 l1 (0 : Int32)) rfl rfl rfl ml_J0_633 im_J0_indexOf_7cf53 se_J0_J0_indexOf_7cf53 in_J0 co_J0_indexOf_7cf53 rfl rfl (fun x1 => ?_)
  exact rz_ireturn rfl rfl dJ0_indexOf_0f7a4_6
theorem tJ0_indexOf_0f7a4 (v : mE) (d : Nat) (l0 : Nat) (l1 : Int32) : Mt v yJ0_indexOf_0f7a4 cJ0_indexOf_0f7a4 2 (some .int) emI (d + 3) [vX l0, vI l1] (fJ0_indexOf_0f7a4 l0 l1) := mt_of rfl rfl (fun h => by cases h) rfl rfl (rJ0_indexOf_0f7a4 v d l0 l1)
theorem dJ7_fill_d0a16_0 : decode cJ7_fill_d0a16 0 = .ok (.iconst 0, 1) := by decide +kernel
theorem dJ7_fill_d0a16_1 : decode cJ7_fill_d0a16 1 = .ok (.istore_n 3, 1) := by decide +kernel
theorem dJ7_fill_d0a16_2 : decode cJ7_fill_d0a16 2 = .ok (.aload_n 0, 1) := by decide +kernel
theorem dJ7_fill_d0a16_3 : decode cJ7_fill_d0a16 3 = .ok (.arraylength, 1) := by decide +kernel
theorem dJ7_fill_d0a16_4 : decode cJ7_fill_d0a16 4 = .ok (.istore 4, 2) := by decide +kernel
theorem dJ7_fill_d0a16_6 : decode cJ7_fill_d0a16 6 = .ok (.iload_n 3, 1) := by decide +kernel
theorem dJ7_fill_d0a16_7 : decode cJ7_fill_d0a16 7 = .ok (.iload 4, 2) := by decide +kernel
theorem dJ7_fill_d0a16_9 : decode cJ7_fill_d0a16 9 = .ok (.if_icmp .ge 13, 3) := by decide +kernel
theorem dJ7_fill_d0a16_12 : decode cJ7_fill_d0a16 12 = .ok (.aload_n 0, 1) := by decide +kernel
theorem dJ7_fill_d0a16_13 : decode cJ7_fill_d0a16 13 = .ok (.iload_n 3, 1) := by decide +kernel
theorem dJ7_fill_d0a16_14 : decode cJ7_fill_d0a16 14 = .ok (.lload_n 1, 1) := by decide +kernel
theorem dJ7_fill_d0a16_15 : decode cJ7_fill_d0a16 15 = .ok (.lastore, 1) := by decide +kernel
theorem dJ7_fill_d0a16_16 : decode cJ7_fill_d0a16 16 = .ok (.iinc 3 1, 3) := by decide +kernel
theorem dJ7_fill_d0a16_19 : decode cJ7_fill_d0a16 19 = .ok (.goto (-13), 3) := by decide +kernel
theorem dJ7_fill_d0a16_22 : decode cJ7_fill_d0a16 22 = .ok (.return_, 1) := by decide +kernel
def fJ7_fill_d0a16_6 : Nat → Nat → Int64 → Int32 → Int32 → mM Unit
  | 0 => fun _ _ _ _ => fun _ => none
  | n + 1 => fun l0 l1 l3 l4 => let r6 := fJ7_fill_d0a16_6 n; bIf (l4 ≤ l3) (bRet ()) (bSL l0 l3 l1 (r6 l0 l1 (l3 + 1) l4))
theorem qJ7_fill_d0a16_6  (n : Nat) (l0 : Nat) (l1 : Int64) (l3 : Int32) (l4 : Int32) : fJ7_fill_d0a16_6 (n + 1) l0 l1 l3 l4 = bIf (l4 ≤ l3) (bRet ()) (bSL l0 l3 l1 ((fJ7_fill_d0a16_6 n) l0 l1 (l3 + 1) l4)) := rfl
set_option maxRecDepth 20000 in
theorem rJ7_fill_d0a16_6 (v : mE) (d : Nat) : ∀ (n : Nat) (l0 : Nat) (l1 : Int64) (l3 : Int32) (l4 : Int32), Rz v RJ7 cJ7_fill_d0a16 5 none false emU (d + 0) 6 [(0, vR l0), (1, vL l1), (3, vI l3), (4, vI l4)] [] (fJ7_fill_d0a16_6 n l0 l1 l3 l4)
  | 0, _, _, _, _ => fun _ _ _ hm => by cases hm
  | n + 1, l0, l1, l3, l4 => by
    have h6 := rJ7_fill_d0a16_6 v d n
    unfold fJ7_fill_d0a16_6
    generalize fJ7_fill_d0a16_6 n = r6 at h6 ⊢
    refine rz_iload_n 7 2 dJ7_fill_d0a16_6 rfl rfl ?_
    refine rz_iload 9 3 dJ7_fill_d0a16_7 rfl rfl ?_
    refine rz_icmp_ge 22 12 dJ7_fill_d0a16_9 rfl rfl ?_ ?_
    · exact rz_return rfl rfl dJ7_fill_d0a16_22
    · refine rz_aload_n 13 0 dJ7_fill_d0a16_12 rfl rfl ?_
      refine rz_iload_n 14 2 dJ7_fill_d0a16_13 rfl rfl ?_
      refine rz_lload_n 15 1 dJ7_fill_d0a16_14 rfl rfl ?_
      refine rz_last 16 dJ7_fill_d0a16_15 rfl ?_
      refine rz_iinc (lv' := [(3, vI (l3 + 1)), (0, vR l0), (1, vL l1), (4, vI l4)]) 19 2 dJ7_fill_d0a16_16 rfl rfl (cn_1 _) rfl rfl ?_
      refine rz_goto 6 dJ7_fill_d0a16_19 rfl ?_
      exact rz_sub [1, 2, 0, 3] rfl (h6 l0 l1 (l3 + 1) l4)
def fJ7_fill_d0a16 (l0 : Nat) (l1 : Int64) : mM Unit := bLen 12 l0 (fun x1 => fJ7_fill_d0a16_6 fu l0 l1 (0 : Int32) x1)
set_option maxRecDepth 20000 in
theorem rJ7_fill_d0a16 (v : mE) (d : Nat) (l0 : Nat) (l1 : Int64) : Rz v RJ7 cJ7_fill_d0a16 5 none false emU (d + 0) 0 [(0, vR l0), (1, vL l1)] [] (fJ7_fill_d0a16 l0 l1) := by
  unfold fJ7_fill_d0a16
  refine rz_iconst 1 dJ7_fill_d0a16_0 rfl ci_0 ?_
  refine rz_istore_n (lv' := [(3, vI (0 : Int32)), (0, vR l0), (1, vL l1)]) 2 dJ7_fill_d0a16_1 rfl rfl rfl ?_
  refine rz_aload_n 3 1 dJ7_fill_d0a16_2 rfl rfl ?_
  refine rz_alenL 4 dJ7_fill_d0a16_3 rfl (fun x1 => ?_)
  refine rz_istore (lv' := [(4, vI x1), (3, vI (0 : Int32)), (0, vR l0), (1, vL l1)]) 6 dJ7_fill_d0a16_4 rfl rfl rfl ?_
  exact rz_sub [2, 3, 1, 0] rfl (rJ7_fill_d0a16_6 v d fu l0 l1 (0 : Int32) x1)
theorem tJ7_fill_d0a16 (v : mE) (d : Nat) (l0 : Nat) (l1 : Int64) : Mt v yJ7_fill_d0a16 cJ7_fill_d0a16 5 none emU (d + 0) [vR l0, vL l1] (fJ7_fill_d0a16 l0 l1) := mt_of rfl rfl (fun h => by cases h) rfl rfl (rJ7_fill_d0a16 v d l0 l1)
theorem dJ7_fill_53178_0 : decode cJ7_fill_53178 0 = .ok (.iconst 0, 1) := by decide +kernel
theorem dJ7_fill_53178_1 : decode cJ7_fill_53178 1 = .ok (.istore_n 2, 1) := by decide +kernel
theorem dJ7_fill_53178_2 : decode cJ7_fill_53178 2 = .ok (.aload_n 0, 1) := by decide +kernel
theorem dJ7_fill_53178_3 : decode cJ7_fill_53178 3 = .ok (.arraylength, 1) := by decide +kernel
theorem dJ7_fill_53178_4 : decode cJ7_fill_53178 4 = .ok (.istore_n 3, 1) := by decide +kernel
theorem dJ7_fill_53178_5 : decode cJ7_fill_53178 5 = .ok (.iload_n 2, 1) := by decide +kernel
theorem dJ7_fill_53178_6 : decode cJ7_fill_53178 6 = .ok (.iload_n 3, 1) := by decide +kernel
theorem dJ7_fill_53178_7 : decode cJ7_fill_53178 7 = .ok (.if_icmp .ge 13, 3) := by decide +kernel
theorem dJ7_fill_53178_10 : decode cJ7_fill_53178 10 = .ok (.aload_n 0, 1) := by decide +kernel
theorem dJ7_fill_53178_11 : decode cJ7_fill_53178 11 = .ok (.iload_n 2, 1) := by decide +kernel
theorem dJ7_fill_53178_12 : decode cJ7_fill_53178 12 = .ok (.iload_n 1, 1) := by decide +kernel
theorem dJ7_fill_53178_13 : decode cJ7_fill_53178 13 = .ok (.iastore, 1) := by decide +kernel
theorem dJ7_fill_53178_14 : decode cJ7_fill_53178 14 = .ok (.iinc 2 1, 3) := by decide +kernel
theorem dJ7_fill_53178_17 : decode cJ7_fill_53178 17 = .ok (.goto (-12), 3) := by decide +kernel
theorem dJ7_fill_53178_20 : decode cJ7_fill_53178 20 = .ok (.return_, 1) := by decide +kernel
def fJ7_fill_53178_5 : Nat → Nat → Int32 → Int32 → Int32 → mM Unit
  | 0 => fun _ _ _ _ => fun _ => none
  | n + 1 => fun l0 l1 l2 l3 => let r5 := fJ7_fill_53178_5 n; bIf (l3 ≤ l2) (bRet ()) (bSI l0 l2 l1 (r5 l0 l1 (l2 + 1) l3))
theorem qJ7_fill_53178_5  (n : Nat) (l0 : Nat) (l1 : Int32) (l2 : Int32) (l3 : Int32) : fJ7_fill_53178_5 (n + 1) l0 l1 l2 l3 = bIf (l3 ≤ l2) (bRet ()) (bSI l0 l2 l1 ((fJ7_fill_53178_5 n) l0 l1 (l2 + 1) l3)) := rfl
set_option maxRecDepth 20000 in
theorem rJ7_fill_53178_5 (v : mE) (d : Nat) : ∀ (n : Nat) (l0 : Nat) (l1 : Int32) (l2 : Int32) (l3 : Int32), Rz v RJ7 cJ7_fill_53178 4 none false emU (d + 0) 5 [(0, vR l0), (1, vI l1), (2, vI l2), (3, vI l3)] [] (fJ7_fill_53178_5 n l0 l1 l2 l3)
  | 0, _, _, _, _ => fun _ _ _ hm => by cases hm
  | n + 1, l0, l1, l2, l3 => by
    have h5 := rJ7_fill_53178_5 v d n
    unfold fJ7_fill_53178_5
    generalize fJ7_fill_53178_5 n = r5 at h5 ⊢
    refine rz_iload_n 6 2 dJ7_fill_53178_5 rfl rfl ?_
    refine rz_iload_n 7 3 dJ7_fill_53178_6 rfl rfl ?_
    refine rz_icmp_ge 20 10 dJ7_fill_53178_7 rfl rfl ?_ ?_
    · exact rz_return rfl rfl dJ7_fill_53178_20
    · refine rz_aload_n 11 0 dJ7_fill_53178_10 rfl rfl ?_
      refine rz_iload_n 12 2 dJ7_fill_53178_11 rfl rfl ?_
      refine rz_iload_n 13 1 dJ7_fill_53178_12 rfl rfl ?_
      refine rz_iast 14 dJ7_fill_53178_13 rfl ?_
      refine rz_iinc (lv' := [(2, vI (l2 + 1)), (0, vR l0), (1, vI l1), (3, vI l3)]) 17 2 dJ7_fill_53178_14 rfl rfl (cn_1 _) rfl rfl ?_
      refine rz_goto 5 dJ7_fill_53178_17 rfl ?_
      exact rz_sub [1, 2, 0, 3] rfl (h5 l0 l1 (l2 + 1) l3)
def fJ7_fill_53178 (l0 : Nat) (l1 : Int32) : mM Unit := bLen 11 l0 (fun x1 => fJ7_fill_53178_5 fu l0 l1 (0 : Int32) x1)
set_option maxRecDepth 20000 in
theorem rJ7_fill_53178 (v : mE) (d : Nat) (l0 : Nat) (l1 : Int32) : Rz v RJ7 cJ7_fill_53178 4 none false emU (d + 0) 0 [(0, vR l0), (1, vI l1)] [] (fJ7_fill_53178 l0 l1) := by
  unfold fJ7_fill_53178
  refine rz_iconst 1 dJ7_fill_53178_0 rfl ci_0 ?_
  refine rz_istore_n (lv' := [(2, vI (0 : Int32)), (0, vR l0), (1, vI l1)]) 2 dJ7_fill_53178_1 rfl rfl rfl ?_
  refine rz_aload_n 3 1 dJ7_fill_53178_2 rfl rfl ?_
  refine rz_alen 4 dJ7_fill_53178_3 rfl (by decide) (fun x1 => ?_)
  refine rz_istore_n (lv' := [(3, vI x1), (2, vI (0 : Int32)), (0, vR l0), (1, vI l1)]) 5 dJ7_fill_53178_4 rfl rfl rfl ?_
  exact rz_sub [2, 3, 1, 0] rfl (rJ7_fill_53178_5 v d fu l0 l1 (0 : Int32) x1)
theorem tJ7_fill_53178 (v : mE) (d : Nat) (l0 : Nat) (l1 : Int32) : Mt v yJ7_fill_53178 cJ7_fill_53178 4 none emU (d + 0) [vR l0, vI l1] (fJ7_fill_53178 l0 l1) := mt_of rfl rfl (fun h => by cases h) rfl rfl (rJ7_fill_53178 v d l0 l1)
theorem dJ7_copyOf_59c91_0 : decode cJ7_copyOf_59c91 0 = .ok (.iload_n 1, 1) := by decide +kernel
theorem dJ7_copyOf_59c91_1 : decode cJ7_copyOf_59c91 1 = .ok (.aload_n 0, 1) := by decide +kernel
theorem dJ7_copyOf_59c91_2 : decode cJ7_copyOf_59c91 2 = .ok (.arraylength, 1) := by decide +kernel
theorem dJ7_copyOf_59c91_3 : decode cJ7_copyOf_59c91 3 = .ok (.if_icmp .ne 11, 3) := by decide +kernel
theorem dJ7_copyOf_59c91_6 : decode cJ7_copyOf_59c91 6 = .ok (.aload_n 0, 1) := by decide +kernel
theorem dJ7_copyOf_59c91_7 : decode cJ7_copyOf_59c91 7 = .ok (.invokevirtual 316, 3) := by decide +kernel
theorem dJ7_copyOf_59c91_14 : decode cJ7_copyOf_59c91 14 = .ok (.iload_n 1, 1) := by decide +kernel
theorem dJ7_copyOf_59c91_15 : decode cJ7_copyOf_59c91 15 = .ok (.newarray .int, 2) := by decide +kernel
theorem dJ7_copyOf_59c91_17 : decode cJ7_copyOf_59c91 17 = .ok (.astore_n 2, 1) := by decide +kernel
theorem dJ7_copyOf_59c91_18 : decode cJ7_copyOf_59c91 18 = .ok (.aload_n 0, 1) := by decide +kernel
theorem dJ7_copyOf_59c91_19 : decode cJ7_copyOf_59c91 19 = .ok (.iconst 0, 1) := by decide +kernel
theorem dJ7_copyOf_59c91_20 : decode cJ7_copyOf_59c91 20 = .ok (.aload_n 2, 1) := by decide +kernel
theorem dJ7_copyOf_59c91_21 : decode cJ7_copyOf_59c91 21 = .ok (.iconst 0, 1) := by decide +kernel
theorem dJ7_copyOf_59c91_22 : decode cJ7_copyOf_59c91 22 = .ok (.aload_n 0, 1) := by decide +kernel
theorem dJ7_copyOf_59c91_23 : decode cJ7_copyOf_59c91 23 = .ok (.arraylength, 1) := by decide +kernel
theorem dJ7_copyOf_59c91_24 : decode cJ7_copyOf_59c91 24 = .ok (.iload_n 1, 1) := by decide +kernel
theorem dJ7_copyOf_59c91_25 : decode cJ7_copyOf_59c91 25 = .ok (.invokestatic 304, 3) := by decide +kernel
theorem dJ7_copyOf_59c91_28 : decode cJ7_copyOf_59c91 28 = .ok (.invokestatic 150, 3) := by decide +kernel
theorem dJ7_copyOf_59c91_31 : decode cJ7_copyOf_59c91 31 = .ok (.aload_n 2, 1) := by decide +kernel
theorem dJ7_copyOf_59c91_32 : decode cJ7_copyOf_59c91 32 = .ok (.areturn, 1) := by decide +kernel
def fJ7_copyOf_59c91 (l0 : Nat) (l1 : Int32) : mM Nat := bLen 11 l0 (fun x1 => bIf (l1 = x1) (bFail) (bNa 11 l1 (fun x2 => bLen 11 l0 (fun x3 => bCpI l0 (0 : Int32) x2 (0 : Int32) (jMin x3 l1) (bRet x2)))))
set_option maxRecDepth 20000 in
theorem rJ7_copyOf_59c91 (v : mE) (d : Nat) (l0 : Nat) (l1 : Int32) : Rz v RJ7 cJ7_copyOf_59c91 3 (some (.array .int)) false emR (d + 1) 0 [(0, vR l0), (1, vI l1)] [] (fJ7_copyOf_59c91 l0 l1) := by
  unfold fJ7_copyOf_59c91
  refine rz_iload_n 1 1 dJ7_copyOf_59c91_0 rfl rfl ?_
  refine rz_aload_n 2 0 dJ7_copyOf_59c91_1 rfl rfl ?_
  refine rz_alen 3 dJ7_copyOf_59c91_2 rfl (by decide) (fun x1 => ?_)
  refine rz_icmp_ne 14 6 dJ7_copyOf_59c91_3 rfl rfl ?_ ?_
  · refine rz_iload_n 15 1 dJ7_copyOf_59c91_14 rfl rfl ?_
    refine rz_newa 17 dJ7_copyOf_59c91_15 rfl (by decide) ac_int (fun x2 => ?_)
    refine rz_astore_n (lv' := [(2, vR x2), (0, vR l0), (1, vI l1)]) 18 dJ7_copyOf_59c91_17 rfl rfl rfl ?_
    refine rz_aload_n 19 1 dJ7_copyOf_59c91_18 rfl rfl ?_
    refine rz_iconst 20 dJ7_copyOf_59c91_19 rfl ci_0 ?_
    refine rz_aload_n 21 0 dJ7_copyOf_59c91_20 rfl rfl ?_
    refine rz_iconst 22 dJ7_copyOf_59c91_21 rfl ci_0 ?_
    refine rz_aload_n 23 1 dJ7_copyOf_59c91_22 rfl rfl ?_
    refine rz_alen 24 dJ7_copyOf_59c91_23 rfl (by decide) (fun x3 => ?_)
    refine rz_iload_n 25 2 dJ7_copyOf_59c91_24 rfl rfl ?_
    refine rz_mmin 28 dJ7_copyOf_59c91_25 rfl ml_J7_304 rfl rfl ?_
    refine rz_copyI 31 dJ7_copyOf_59c91_28 rfl ml_J7_150 rfl rfl ?_
    refine rz_aload_n 32 0 dJ7_copyOf_59c91_31 rfl rfl ?_
    exact rz_areturn rfl (by first | exact Or.inl ⟨_, rfl⟩ | exact Or.inr ⟨_, rfl⟩) rfl dJ7_copyOf_59c91_32
  · refine rz_aload_n 7 0 dJ7_copyOf_59c91_6 rfl rfl ?_
    exact rz_fail
theorem tJ7_copyOf_59c91 (v : mE) (d : Nat) (l0 : Nat) (l1 : Int32) : Mt v yJ7_copyOf_59c91 cJ7_copyOf_59c91 3 (some (.array .int)) emR (d + 1) [vR l0, vI l1] (fJ7_copyOf_59c91 l0 l1) := mt_of rfl rfl (fun h => by cases h) rfl rfl (rJ7_copyOf_59c91 v d l0 l1)

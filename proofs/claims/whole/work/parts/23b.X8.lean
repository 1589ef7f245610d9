theorem dX8_dig_0 : decode cX8_dig 0 = .ok (.iload_n 1, 1) := by decide +kernel
theorem dX8_dig_1 : decode cX8_dig 1 = .ok (.ifCond .eq 15, 3) := by decide +kernel
theorem dX8_dig_4 : decode cX8_dig 4 = .ok (.iload_n 1, 1) := by decide +kernel
theorem dX8_dig_5 : decode cX8_dig 5 = .ok (.bipush (-99), 2) := by decide +kernel
theorem dX8_dig_7 : decode cX8_dig 7 = .ok (.if_icmp .lt 9, 3) := by decide +kernel
theorem dX8_dig_10 : decode cX8_dig 10 = .ok (.iload_n 1, 1) := by decide +kernel
theorem dX8_dig_11 : decode cX8_dig 11 = .ok (.bipush 99, 2) := by decide +kernel
theorem dX8_dig_13 : decode cX8_dig 13 = .ok (.if_icmp .le 9, 3) := by decide +kernel
theorem dX8_dig_16 : decode cX8_dig 16 = .ok (.aload_n 0, 1) := by decide +kernel
theorem dX8_dig_17 : decode cX8_dig 17 = .ok (.iconst 5, 1) := by decide +kernel
theorem dX8_dig_18 : decode cX8_dig 18 = .ok (.invokevirtual 114, 3) := by decide +kernel
theorem dX8_dig_21 : decode cX8_dig 21 = .ok (.ireturn, 1) := by decide +kernel
theorem dX8_dig_22 : decode cX8_dig 22 = .ok (.aload_n 0, 1) := by decide +kernel
theorem dX8_dig_23 : decode cX8_dig 23 = .ok (.getfield 26, 3) := by decide +kernel
theorem dX8_dig_26 : decode cX8_dig 26 = .ok (.iconst 0, 1) := by decide +kernel
theorem dX8_dig_27 : decode cX8_dig 27 = .ok (.sipush 999, 3) := by decide +kernel
theorem dX8_dig_30 : decode cX8_dig 30 = .ok (.aload_n 0, 1) := by decide +kernel
theorem dX8_dig_31 : decode cX8_dig 31 = .ok (.getfield 26, 3) := by decide +kernel
theorem dX8_dig_34 : decode cX8_dig 34 = .ok (.getfield 201, 3) := by decide +kernel
theorem dX8_dig_37 : decode cX8_dig 37 = .ok (.iload_n 1, 1) := by decide +kernel
theorem dX8_dig_38 : decode cX8_dig 38 = .ok (.iadd, 1) := by decide +kernel
theorem dX8_dig_39 : decode cX8_dig 39 = .ok (.invokestatic 298, 3) := by decide +kernel
theorem dX8_dig_42 : decode cX8_dig 42 = .ok (.invokestatic 327, 3) := by decide +kernel
theorem dX8_dig_45 : decode cX8_dig 45 = .ok (.putfield 201, 3) := by decide +kernel
theorem dX8_dig_48 : decode cX8_dig 48 = .ok (.aload_n 0, 1) := by decide +kernel
theorem dX8_dig_49 : decode cX8_dig 49 = .ok (.aload_n 0, 1) := by decide +kernel
theorem dX8_dig_50 : decode cX8_dig 50 = .ok (.getfield 26, 3) := by decide +kernel
theorem dX8_dig_53 : decode cX8_dig 53 = .ok (.getfield 201, 3) := by decide +kernel
theorem dX8_dig_56 : decode cX8_dig 56 = .ok (.invokevirtual 166, 3) := by decide +kernel
theorem dX8_dig_59 : decode cX8_dig 59 = .ok (.ireturn, 1) := by decide +kernel
def fX8_dig_16 (l0 : Nat) : mM Int32 := bCallV 8 l0 (fX8_none l0 (5 : Int32)) (fun x1 => bRet x1)
set_option maxRecDepth 20000 in
theorem rX8_dig_16 (v : mE) (d : Nat) (l0 : Nat) : Rz v RX8 cX8_dig 2 (some .int) false emI (d + 1) 16 [(0, vR l0)] [] (fX8_dig_16 l0) := by
  unfold fX8_dig_16
  refine rz_aload_n 17 0 dX8_dig_16 rfl rfl ?_
  refine rz_iconst 18 dX8_dig_17 rfl ci_5 ?_
  refine rz_callV 21 dX8_dig_18 rfl (tX8_none v (d + 0) l0 (5 : Int32)) rfl rfl rfl rfl ml_X8_114 im_X8_none se_X8_X8_none in_X8 co_X8_none rfl rfl (fun x1 => ?_)
  exact rz_ireturn rfl rfl dX8_dig_21
def fX8_dig (l0 : Nat) (l1 : Int32) : mM Int32 := bIf (l1 = 0) (fX8_dig_16 l0) (bIf (l1 < (-99 : Int32)) (fX8_dig_16 l0) (bIf (l1 ≤ (99 : Int32)) (bGR 8 l0 3 (fun x1 => bGR 8 l0 3 (fun x2 => bGI 7 x2 2 (fun x3 => bPI 7 x1 2 (jMax (0 : Int32) (jMin (999 : Int32) (x3 + l1))) (bGR 8 l0 3 (fun x4 => bGI 7 x4 2 (fun x5 => bCallV 8 l0 (fX8_tell l0 x5) (fun x6 => bRet x6)))))))) (fX8_dig_16 l0)))
set_option maxRecDepth 20000 in
theorem rX8_dig (v : mE) (d : Nat) (l0 : Nat) (l1 : Int32) : Rz v RX8 cX8_dig 2 (some .int) false emI (d + 1) 0 [(0, vR l0), (1, vI l1)] [] (fX8_dig l0 l1) := by
  unfold fX8_dig
  refine rz_iload_n 1 1 dX8_dig_0 rfl rfl ?_
  refine rz_if_eq 16 4 dX8_dig_1 rfl rfl ?_ ?_
  · exact rz_sub [0] rfl (rX8_dig_16 v d l0)
  · refine rz_iload_n 5 1 dX8_dig_4 rfl rfl ?_
    refine rz_bipush 7 dX8_dig_5 rfl cb_m99 ?_
    refine rz_icmp_lt 16 10 dX8_dig_7 rfl rfl ?_ ?_
    · exact rz_sub [0] rfl (rX8_dig_16 v d l0)
    · refine rz_iload_n 11 1 dX8_dig_10 rfl rfl ?_
      refine rz_bipush 13 dX8_dig_11 rfl cb_99 ?_
      refine rz_icmp_le 22 16 dX8_dig_13 rfl rfl ?_ ?_
      · refine rz_aload_n 23 0 dX8_dig_22 rfl rfl ?_
        refine rz_gR 26 dX8_dig_23 rfl rfl fl_X8_26 (fun x1 => ?_)
        refine rz_iconst 27 dX8_dig_26 rfl ci_0 ?_
        refine rz_sipush 30 dX8_dig_27 rfl cs_999 ?_
        refine rz_aload_n 31 0 dX8_dig_30 rfl rfl ?_
        refine rz_gR 34 dX8_dig_31 rfl rfl fl_X8_26 (fun x2 => ?_)
        refine rz_gI 37 dX8_dig_34 rfl rfl fl_X8_201 (fun x3 => ?_)
        refine rz_iload_n 38 1 dX8_dig_37 rfl rfl ?_
        refine rz_iadd 39 dX8_dig_38 rfl ?_
        refine rz_mmin 42 dX8_dig_39 rfl ml_X8_298 rfl rfl ?_
        refine rz_mmax 45 dX8_dig_42 rfl ml_X8_327 rfl rfl ?_
        refine rz_pI 48 dX8_dig_45 rfl rfl rfl rfl fl_X8_201 ?_
        refine rz_aload_n 49 0 dX8_dig_48 rfl rfl ?_
        refine rz_aload_n 50 0 dX8_dig_49 rfl rfl ?_
        refine rz_gR 53 dX8_dig_50 rfl rfl fl_X8_26 (fun x4 => ?_)
        refine rz_gI 56 dX8_dig_53 rfl rfl fl_X8_201 (fun x5 => ?_)
        refine rz_callV 59 dX8_dig_56 rfl (tX8_tell v (d + 0) l0 x5) rfl rfl rfl rfl ml_X8_166 im_X8_tell se_X8_X8_tell in_X8 co_X8_tell rfl rfl (fun x6 => ?_)
        exact rz_ireturn rfl rfl dX8_dig_59
      · exact rz_sub [0] rfl (rX8_dig_16 v d l0)
theorem tX8_dig (v : mE) (d : Nat) (l0 : Nat) (l1 : Int32) : Mt v yX8_dig cX8_dig 2 (some .int) emI (d + 1) [vR l0, vI l1] (fX8_dig l0 l1) := mt_of rfl rfl (fun h => by cases h) rfl rfl (rX8_dig v d l0 l1)
theorem dX8_led_0 : decode cX8_led 0 = .ok (.aload_n 0, 1) := by decide +kernel
theorem dX8_led_1 : decode cX8_led 1 = .ok (.iload_n 1, 1) := by decide +kernel
theorem dX8_led_2 : decode cX8_led 2 = .ok (.invokevirtual 232, 3) := by decide +kernel
theorem dX8_led_5 : decode cX8_led 5 = .ok (.ifCond .ne 9, 3) := by decide +kernel
theorem dX8_led_8 : decode cX8_led 8 = .ok (.aload_n 0, 1) := by decide +kernel
theorem dX8_led_9 : decode cX8_led 9 = .ok (.iconst 2, 1) := by decide +kernel
theorem dX8_led_10 : decode cX8_led 10 = .ok (.invokevirtual 114, 3) := by decide +kernel
theorem dX8_led_13 : decode cX8_led 13 = .ok (.ireturn, 1) := by decide +kernel
theorem dX8_led_14 : decode cX8_led 14 = .ok (.aload_n 0, 1) := by decide +kernel
theorem dX8_led_15 : decode cX8_led 15 = .ok (.getfield 26, 3) := by decide +kernel
theorem dX8_led_18 : decode cX8_led 18 = .ok (.getfield 235, 3) := by decide +kernel
theorem dX8_led_21 : decode cX8_led 21 = .ok (.iload_n 1, 1) := by decide +kernel
theorem dX8_led_22 : decode cX8_led 22 = .ok (.aaload, 1) := by decide +kernel
theorem dX8_led_23 : decode cX8_led 23 = .ok (.astore_n 3, 1) := by decide +kernel
theorem dX8_led_24 : decode cX8_led 24 = .ok (.iload_n 2, 1) := by decide +kernel
theorem dX8_led_25 : decode cX8_led 25 = .ok (.ifCond .ge 7, 3) := by decide +kernel
theorem dX8_led_28 : decode cX8_led 28 = .ok (.iconst (-1), 1) := by decide +kernel
theorem dX8_led_29 : decode cX8_led 29 = .ok (.goto 8, 3) := by decide +kernel
theorem dX8_led_32 : decode cX8_led 32 = .ok (.aload_n 3, 1) := by decide +kernel
theorem dX8_led_33 : decode cX8_led 33 = .ok (.iload_n 2, 1) := by decide +kernel
theorem dX8_led_34 : decode cX8_led 34 = .ok (.invokevirtual 330, 3) := by decide +kernel
theorem dX8_led_37 : decode cX8_led 37 = .ok (.istore 4, 2) := by decide +kernel
theorem dX8_led_39 : decode cX8_led 39 = .ok (.iload 4, 2) := by decide +kernel
theorem dX8_led_41 : decode cX8_led 41 = .ok (.iconst (-1), 1) := by decide +kernel
theorem dX8_led_42 : decode cX8_led 42 = .ok (.if_icmp .ne 11, 3) := by decide +kernel
theorem dX8_led_45 : decode cX8_led 45 = .ok (.aload_n 0, 1) := by decide +kernel
theorem dX8_led_46 : decode cX8_led 46 = .ok (.iconst 5, 1) := by decide +kernel
theorem dX8_led_47 : decode cX8_led 47 = .ok (.invokevirtual 114, 3) := by decide +kernel
theorem dX8_led_50 : decode cX8_led 50 = .ok (.goto 22, 3) := by decide +kernel
theorem dX8_led_53 : decode cX8_led 53 = .ok (.aload_n 0, 1) := by decide +kernel
theorem dX8_led_54 : decode cX8_led 54 = .ok (.aload_n 3, 1) := by decide +kernel
theorem dX8_led_55 : decode cX8_led 55 = .ok (.getfield 267, 3) := by decide +kernel
theorem dX8_led_58 : decode cX8_led 58 = .ok (.iload 4, 2) := by decide +kernel
theorem dX8_led_60 : decode cX8_led 60 = .ok (.iaload, 1) := by decide +kernel
theorem dX8_led_61 : decode cX8_led 61 = .ok (.aload_n 0, 1) := by decide +kernel
theorem dX8_led_62 : decode cX8_led 62 = .ok (.getfield 26, 3) := by decide +kernel
theorem dX8_led_65 : decode cX8_led 65 = .ok (.getfield 195, 3) := by decide +kernel
theorem dX8_led_68 : decode cX8_led 68 = .ok (.iadd, 1) := by decide +kernel
theorem dX8_led_69 : decode cX8_led 69 = .ok (.invokevirtual 166, 3) := by decide +kernel
theorem dX8_led_72 : decode cX8_led 72 = .ok (.ireturn, 1) := by decide +kernel
def fX8_led_37 (l0 : Nat) (l3 : Nat) (s0 : Int32) : mM Int32 := bIf (s0 = (-1 : Int32)) (bCallV 8 l0 (fX8_none l0 (5 : Int32)) (fun x6 => bRet x6)) (bGR 3 l3 7 (fun x1 => bAI 11 x1 s0 (fun x2 => bGR 8 l0 3 (fun x3 => bGI 7 x3 0 (fun x4 => bCallV 8 l0 (fX8_tell l0 (x2 + x4)) (fun x5 => bRet x5))))))
set_option maxRecDepth 20000 in
theorem rX8_led_37 (v : mE) (d : Nat) (l0 : Nat) (l3 : Nat) (s0 : Int32) : Rz v RX8 cX8_led 5 (some .int) false emI (d + 2) 37 [(0, vR l0), (3, vR l3)] [vI s0] (fX8_led_37 l0 l3 s0) := by
  unfold fX8_led_37
  refine rz_istore (lv' := [(4, vI s0), (0, vR l0), (3, vR l3)]) 39 dX8_led_37 rfl rfl rfl ?_
  refine rz_iload 41 0 dX8_led_39 rfl rfl ?_
  refine rz_iconst 42 dX8_led_41 rfl ci_m1 ?_
  refine rz_icmp_ne 53 45 dX8_led_42 rfl rfl ?_ ?_
  · refine rz_aload_n 54 1 dX8_led_53 rfl rfl ?_
    refine rz_aload_n 55 2 dX8_led_54 rfl rfl ?_
    refine rz_gR 58 dX8_led_55 rfl rfl fl_X8_267 (fun x1 => ?_)
    refine rz_iload 60 0 dX8_led_58 rfl rfl ?_
    refine rz_iald 61 dX8_led_60 rfl (fun x2 => ?_)
    refine rz_aload_n 62 1 dX8_led_61 rfl rfl ?_
    refine rz_gR 65 dX8_led_62 rfl rfl fl_X8_26 (fun x3 => ?_)
    refine rz_gI 68 dX8_led_65 rfl rfl fl_X8_195 (fun x4 => ?_)
    refine rz_iadd 69 dX8_led_68 rfl ?_
    refine rz_callV 72 dX8_led_69 rfl (tX8_tell v (d + 1) l0 (x2 + x4)) rfl rfl rfl rfl ml_X8_166 im_X8_tell se_X8_X8_tell in_X8 co_X8_tell rfl rfl (fun x5 => ?_)
    exact rz_ireturn rfl rfl dX8_led_72
  · refine rz_aload_n 46 1 dX8_led_45 rfl rfl ?_
    refine rz_iconst 47 dX8_led_46 rfl ci_5 ?_
    refine rz_callV 50 dX8_led_47 rfl (tX8_none v (d + 1) l0 (5 : Int32)) rfl rfl rfl rfl ml_X8_114 im_X8_none se_X8_X8_none in_X8 co_X8_none rfl rfl (fun x6 => ?_)
    refine rz_goto 72 dX8_led_50 rfl ?_
    exact rz_ireturn rfl rfl dX8_led_72
def fX8_led (l0 : Nat) (l1 : Int32) (l2 : Int32) : mM Int32 := bCallV 8 l0 (fX8_isRope l0 l1) (fun x1 => bIf (x1 = 0) (bCallV 8 l0 (fX8_none l0 (2 : Int32)) (fun x6 => bRet x6)) (bGR 8 l0 3 (fun x2 => bGR 7 x2 10 (fun x3 => bAR 14 x3 l1 (fun x4 => bIf (0 ≤ l2) (bCallV 3 x4 (fX3_pieceAt x4 l2) (fun x5 => fX8_led_37 l0 x4 x5)) (fX8_led_37 l0 x4 (-1 : Int32)))))))
set_option maxRecDepth 20000 in
theorem rX8_led (v : mE) (d : Nat) (l0 : Nat) (l1 : Int32) (l2 : Int32) : Rz v RX8 cX8_led 5 (some .int) false emI (d + 2) 0 [(0, vR l0), (1, vI l1), (2, vI l2)] [] (fX8_led l0 l1 l2) := by
  unfold fX8_led
  refine rz_aload_n 1 0 dX8_led_0 rfl rfl ?_
  refine rz_iload_n 2 1 dX8_led_1 rfl rfl ?_
  refine rz_callV 5 dX8_led_2 rfl (tX8_isRope v (d + 0) l0 l1) rfl rfl rfl rfl ml_X8_232 im_X8_isRope se_X8_X8_isRope in_X8 co_X8_isRope rfl rfl (fun x1 => ?_)
  refine rz_if_ne 14 8 dX8_led_5 rfl rfl ?_ ?_
  · refine rz_aload_n 15 0 dX8_led_14 rfl rfl ?_
    refine rz_gR 18 dX8_led_15 rfl rfl fl_X8_26 (fun x2 => ?_)
    refine rz_gR 21 dX8_led_18 rfl rfl fl_X8_235 (fun x3 => ?_)
    refine rz_iload_n 22 1 dX8_led_21 rfl rfl ?_
    refine rz_aald 23 dX8_led_22 rfl (by decide) (fun x4 => ?_)
    refine rz_astore_n (lv' := [(3, vR x4), (0, vR l0), (1, vI l1), (2, vI l2)]) 24 dX8_led_23 rfl rfl rfl ?_
    refine rz_iload_n 25 3 dX8_led_24 rfl rfl ?_
    refine rz_if_ge 32 28 dX8_led_25 rfl rfl ?_ ?_
    · refine rz_aload_n 33 0 dX8_led_32 rfl rfl ?_
      refine rz_iload_n 34 3 dX8_led_33 rfl rfl ?_
      refine rz_callV 37 dX8_led_34 rfl (tX3_pieceAt v (d + 1) x4 l2) rfl rfl rfl rfl ml_X8_330 im_X3_pieceAt se_X3_X3_pieceAt in_X3 co_X3_pieceAt rfl rfl (fun x5 => ?_)
      exact rz_sub [1, 0] rfl (rX8_led_37 v d l0 x4 x5)
    · refine rz_iconst 29 dX8_led_28 rfl ci_m1 ?_
      refine rz_goto 37 dX8_led_29 rfl ?_
      exact rz_sub [1, 0] rfl (rX8_led_37 v d l0 x4 (-1 : Int32))
  · refine rz_aload_n 9 0 dX8_led_8 rfl rfl ?_
    refine rz_iconst 10 dX8_led_9 rfl ci_2 ?_
    refine rz_callV 13 dX8_led_10 rfl (tX8_none v (d + 1) l0 (2 : Int32)) rfl rfl rfl rfl ml_X8_114 im_X8_none se_X8_X8_none in_X8 co_X8_none rfl rfl (fun x6 => ?_)
    exact rz_ireturn rfl rfl dX8_led_13
theorem tX8_led (v : mE) (d : Nat) (l0 : Nat) (l1 : Int32) (l2 : Int32) : Mt v yX8_led cX8_led 5 (some .int) emI (d + 2) [vR l0, vI l1, vI l2] (fX8_led l0 l1 l2) := mt_of rfl rfl (fun h => by cases h) rfl rfl (rX8_led v d l0 l1 l2)
theorem dX8_share_0 : decode cX8_share 0 = .ok (.aload_n 0, 1) := by decide +kernel
theorem dX8_share_1 : decode cX8_share 1 = .ok (.iload_n 1, 1) := by decide +kernel
theorem dX8_share_2 : decode cX8_share 2 = .ok (.invokevirtual 207, 3) := by decide +kernel
theorem dX8_share_5 : decode cX8_share 5 = .ok (.ifCond .ne 9, 3) := by decide +kernel
theorem dX8_share_8 : decode cX8_share 8 = .ok (.aload_n 0, 1) := by decide +kernel
theorem dX8_share_9 : decode cX8_share 9 = .ok (.iconst 2, 1) := by decide +kernel
theorem dX8_share_10 : decode cX8_share 10 = .ok (.invokevirtual 95, 3) := by decide +kernel
theorem dX8_share_13 : decode cX8_share 13 = .ok (.ireturn, 1) := by decide +kernel
theorem dX8_share_14 : decode cX8_share 14 = .ok (.aload_n 0, 1) := by decide +kernel
theorem dX8_share_15 : decode cX8_share 15 = .ok (.getfield 26, 3) := by decide +kernel
theorem dX8_share_18 : decode cX8_share 18 = .ok (.invokevirtual 333, 3) := by decide +kernel
theorem dX8_share_21 : decode cX8_share 21 = .ok (.istore_n 2, 1) := by decide +kernel
theorem dX8_share_22 : decode cX8_share 22 = .ok (.iload_n 2, 1) := by decide +kernel
theorem dX8_share_23 : decode cX8_share 23 = .ok (.ifCond .ne 12, 3) := by decide +kernel
theorem dX8_share_26 : decode cX8_share 26 = .ok (.aload_n 0, 1) := by decide +kernel
theorem dX8_share_27 : decode cX8_share 27 = .ok (.bipush 8, 2) := by decide +kernel
theorem dX8_share_29 : decode cX8_share 29 = .ok (.invokevirtual 95, 3) := by decide +kernel
theorem dX8_share_32 : decode cX8_share 32 = .ok (.goto 18, 3) := by decide +kernel
theorem dX8_share_35 : decode cX8_share 35 = .ok (.aload_n 0, 1) := by decide +kernel
theorem dX8_share_36 : decode cX8_share 36 = .ok (.aload_n 0, 1) := by decide +kernel
theorem dX8_share_37 : decode cX8_share 37 = .ok (.getfield 26, 3) := by decide +kernel
theorem dX8_share_40 : decode cX8_share 40 = .ok (.iload_n 1, 1) := by decide +kernel
theorem dX8_share_41 : decode cX8_share 41 = .ok (.invokevirtual 223, 3) := by decide +kernel
theorem dX8_share_44 : decode cX8_share 44 = .ok (.i2l, 1) := by decide +kernel
theorem dX8_share_45 : decode cX8_share 45 = .ok (.iload_n 2, 1) := by decide +kernel
theorem dX8_share_46 : decode cX8_share 46 = .ok (.i2l, 1) := by decide +kernel
theorem dX8_share_47 : decode cX8_share 47 = .ok (.invokevirtual 294, 3) := by decide +kernel
theorem dX8_share_50 : decode cX8_share 50 = .ok (.ireturn, 1) := by decide +kernel
def fX8_share (l0 : Nat) (l1 : Int32) : mM Int32 := bCallV 8 l0 (fX8_isPerson l0 l1) (fun x1 => bIf (x1 = 0) (bCallV 8 l0 (fX8_refuse l0 (2 : Int32)) (fun x8 => bRetZ x8)) (bGR 8 l0 3 (fun x2 => bCallV 7 x2 (fX7_allYards x2) (fun x3 => bIf (x3 = 0) (bCallV 8 l0 (fX8_refuse l0 (8 : Int32)) (fun x7 => bRetZ x7)) (bGR 8 l0 3 (fun x4 => bCallV 7 x4 (fX7_ownYards x4 l1) (fun x5 => bCallV 8 l0 (fX8_tellFraction l0 (Int32.toInt64 x5) (Int32.toInt64 x3)) (fun x6 => bRetZ x6))))))))
set_option maxRecDepth 20000 in
theorem rX8_share (v : mE) (d : Nat) (l0 : Nat) (l1 : Int32) : Rz v RX8 cX8_share 3 (some .boolean) false emI (d + 2) 0 [(0, vR l0), (1, vI l1)] [] (fX8_share l0 l1) := by
  unfold fX8_share
  refine rz_aload_n 1 0 dX8_share_0 rfl rfl ?_
  refine rz_iload_n 2 1 dX8_share_1 rfl rfl ?_
  refine rz_callV 5 dX8_share_2 rfl (tX8_isPerson v (d + 1) l0 l1) rfl rfl rfl rfl ml_X8_207 im_X8_isPerson se_X8_X8_isPerson in_X8 co_X8_isPerson rfl rfl (fun x1 => ?_)
  refine rz_if_ne 14 8 dX8_share_5 rfl rfl ?_ ?_
  · refine rz_aload_n 15 0 dX8_share_14 rfl rfl ?_
    refine rz_gR 18 dX8_share_15 rfl rfl fl_X8_26 (fun x2 => ?_)
    refine rz_callV 21 dX8_share_18 rfl (tX7_allYards v (d + 1) x2) rfl rfl rfl rfl ml_X8_333 im_X7_allYards se_X7_X7_allYards in_X7 co_X7_allYards rfl rfl (fun x3 => ?_)
    refine rz_istore_n (lv' := [(2, vI x3), (0, vR l0), (1, vI l1)]) 22 dX8_share_21 rfl rfl rfl ?_
    refine rz_iload_n 23 0 dX8_share_22 rfl rfl ?_
    refine rz_if_ne 35 26 dX8_share_23 rfl rfl ?_ ?_
    · refine rz_aload_n 36 1 dX8_share_35 rfl rfl ?_
      refine rz_aload_n 37 1 dX8_share_36 rfl rfl ?_
      refine rz_gR 40 dX8_share_37 rfl rfl fl_X8_26 (fun x4 => ?_)
      refine rz_iload_n 41 2 dX8_share_40 rfl rfl ?_
      refine rz_callV 44 dX8_share_41 rfl (tX7_ownYards v (d + 0) x4 l1) rfl rfl rfl rfl ml_X8_223 im_X7_ownYards se_X7_X7_ownYards in_X7 co_X7_ownYards rfl rfl (fun x5 => ?_)
      refine rz_i2l 45 dX8_share_44 rfl ?_
      refine rz_iload_n 46 0 dX8_share_45 rfl rfl ?_
      refine rz_i2l 47 dX8_share_46 rfl ?_
      refine rz_callV 50 dX8_share_47 rfl (tX8_tellFraction v (d + 0) l0 (Int32.toInt64 x5) (Int32.toInt64 x3)) rfl rfl rfl rfl ml_X8_294 im_X8_tellFraction se_X8_X8_tellFraction in_X8 co_X8_tellFraction rfl rfl (fun x6 => ?_)
      exact rz_zreturn rfl rfl dX8_share_50
    · refine rz_aload_n 27 1 dX8_share_26 rfl rfl ?_
      refine rz_bipush 29 dX8_share_27 rfl cb_8 ?_
      refine rz_callV 32 dX8_share_29 rfl (tX8_refuse v (d + 1) l0 (8 : Int32)) rfl rfl rfl rfl ml_X8_95 im_X8_refuse se_X8_X8_refuse in_X8 co_X8_refuse rfl rfl (fun x7 => ?_)
      refine rz_goto 50 dX8_share_32 rfl ?_
      exact rz_zreturn rfl rfl dX8_share_50
  · refine rz_aload_n 9 0 dX8_share_8 rfl rfl ?_
    refine rz_iconst 10 dX8_share_9 rfl ci_2 ?_
    refine rz_callV 13 dX8_share_10 rfl (tX8_refuse v (d + 1) l0 (2 : Int32)) rfl rfl rfl rfl ml_X8_95 im_X8_refuse se_X8_X8_refuse in_X8 co_X8_refuse rfl rfl (fun x8 => ?_)
    exact rz_zreturn rfl rfl dX8_share_13
theorem tX8_share (v : mE) (d : Nat) (l0 : Nat) (l1 : Int32) : Mt v yX8_share cX8_share 3 (some .boolean) emI (d + 2) [vR l0, vI l1] (fX8_share l0 l1) := mt_of rfl rfl (fun h => by cases h) rfl rfl (rX8_share v d l0 l1)
theorem dX8_heirloom_0 : decode cX8_heirloom 0 = .ok (.aload_n 0, 1) := by decide +kernel
theorem dX8_heirloom_1 : decode cX8_heirloom 1 = .ok (.iload_n 1, 1) := by decide +kernel
theorem dX8_heirloom_2 : decode cX8_heirloom 2 = .ok (.invokevirtual 207, 3) := by decide +kernel
theorem dX8_heirloom_5 : decode cX8_heirloom 5 = .ok (.ifCond .ne 9, 3) := by decide +kernel
theorem dX8_heirloom_8 : decode cX8_heirloom 8 = .ok (.aload_n 0, 1) := by decide +kernel
theorem dX8_heirloom_9 : decode cX8_heirloom 9 = .ok (.iconst 2, 1) := by decide +kernel
theorem dX8_heirloom_10 : decode cX8_heirloom 10 = .ok (.invokevirtual 114, 3) := by decide +kernel
theorem dX8_heirloom_13 : decode cX8_heirloom 13 = .ok (.ireturn, 1) := by decide +kernel
theorem dX8_heirloom_14 : decode cX8_heirloom 14 = .ok (.iconst (-1), 1) := by decide +kernel
theorem dX8_heirloom_15 : decode cX8_heirloom 15 = .ok (.istore_n 2, 1) := by decide +kernel
theorem dX8_heirloom_16 : decode cX8_heirloom 16 = .ok (.iconst (-1), 1) := by decide +kernel
theorem dX8_heirloom_17 : decode cX8_heirloom 17 = .ok (.istore_n 3, 1) := by decide +kernel
theorem dX8_heirloom_18 : decode cX8_heirloom 18 = .ok (.iconst 0, 1) := by decide +kernel
theorem dX8_heirloom_19 : decode cX8_heirloom 19 = .ok (.istore 4, 2) := by decide +kernel
theorem dX8_heirloom_21 : decode cX8_heirloom 21 = .ok (.iload 4, 2) := by decide +kernel
theorem dX8_heirloom_23 : decode cX8_heirloom 23 = .ok (.bipush 12, 2) := by decide +kernel
theorem dX8_heirloom_25 : decode cX8_heirloom 25 = .ok (.if_icmp .ge 56, 3) := by decide +kernel
theorem dX8_heirloom_28 : decode cX8_heirloom 28 = .ok (.aload_n 0, 1) := by decide +kernel
theorem dX8_heirloom_29 : decode cX8_heirloom 29 = .ok (.getfield 26, 3) := by decide +kernel
theorem dX8_heirloom_32 : decode cX8_heirloom 32 = .ok (.getfield 235, 3) := by decide +kernel
theorem dX8_heirloom_35 : decode cX8_heirloom 35 = .ok (.iload 4, 2) := by decide +kernel
theorem dX8_heirloom_37 : decode cX8_heirloom 37 = .ok (.aaload, 1) := by decide +kernel
theorem dX8_heirloom_38 : decode cX8_heirloom 38 = .ok (.astore 5, 2) := by decide +kernel
theorem dX8_heirloom_40 : decode cX8_heirloom 40 = .ok (.aload 5, 2) := by decide +kernel
theorem dX8_heirloom_42 : decode cX8_heirloom 42 = .ok (.invokevirtual 336, 3) := by decide +kernel
theorem dX8_heirloom_45 : decode cX8_heirloom 45 = .ok (.ifCond .eq 30, 3) := by decide +kernel
theorem dX8_heirloom_48 : decode cX8_heirloom 48 = .ok (.aload 5, 2) := by decide +kernel
theorem dX8_heirloom_50 : decode cX8_heirloom 50 = .ok (.getfield 239, 3) := by decide +kernel
theorem dX8_heirloom_53 : decode cX8_heirloom 53 = .ok (.iload_n 1, 1) := by decide +kernel
theorem dX8_heirloom_54 : decode cX8_heirloom 54 = .ok (.if_icmp .ne 21, 3) := by decide +kernel
theorem dX8_heirloom_57 : decode cX8_heirloom 57 = .ok (.aload 5, 2) := by decide +kernel
theorem dX8_heirloom_59 : decode cX8_heirloom 59 = .ok (.invokevirtual 254, 3) := by decide +kernel
theorem dX8_heirloom_62 : decode cX8_heirloom 62 = .ok (.iload_n 3, 1) := by decide +kernel
theorem dX8_heirloom_63 : decode cX8_heirloom 63 = .ok (.if_icmp .le 12, 3) := by decide +kernel
theorem dX8_heirloom_66 : decode cX8_heirloom 66 = .ok (.iload 4, 2) := by decide +kernel
theorem dX8_heirloom_68 : decode cX8_heirloom 68 = .ok (.istore_n 2, 1) := by decide +kernel
theorem dX8_heirloom_69 : decode cX8_heirloom 69 = .ok (.aload 5, 2) := by decide +kernel
theorem dX8_heirloom_71 : decode cX8_heirloom 71 = .ok (.invokevirtual 254, 3) := by decide +kernel
theorem dX8_heirloom_74 : decode cX8_heirloom 74 = .ok (.istore_n 3, 1) := by decide +kernel
theorem dX8_heirloom_75 : decode cX8_heirloom 75 = .ok (.iinc 4 1, 3) := by decide +kernel
theorem dX8_heirloom_78 : decode cX8_heirloom 78 = .ok (.goto (-57), 3) := by decide +kernel
theorem dX8_heirloom_81 : decode cX8_heirloom 81 = .ok (.aload_n 0, 1) := by decide +kernel
theorem dX8_heirloom_82 : decode cX8_heirloom 82 = .ok (.iload_n 2, 1) := by decide +kernel
theorem dX8_heirloom_83 : decode cX8_heirloom 83 = .ok (.iconst (-1), 1) := by decide +kernel
theorem dX8_heirloom_84 : decode cX8_heirloom 84 = .ok (.if_icmp .eq 7, 3) := by decide +kernel
theorem dX8_heirloom_87 : decode cX8_heirloom 87 = .ok (.iconst 1, 1) := by decide +kernel
theorem dX8_heirloom_88 : decode cX8_heirloom 88 = .ok (.goto 4, 3) := by decide +kernel
theorem dX8_heirloom_91 : decode cX8_heirloom 91 = .ok (.iconst 0, 1) := by decide +kernel
theorem dX8_heirloom_92 : decode cX8_heirloom 92 = .ok (.iload_n 2, 1) := by decide +kernel
theorem dX8_heirloom_93 : decode cX8_heirloom 93 = .ok (.invokevirtual 213, 3) := by decide +kernel
theorem dX8_heirloom_96 : decode cX8_heirloom 96 = .ok (.ireturn, 1) := by decide +kernel
def fX8_heirloom_92 (l2 : Int32) (s0 : Int32) (s1 : Nat) : mM Int32 := bCallV 8 s1 (fX8_tellIf s1 s0 l2) (fun x1 => bRet x1)
set_option maxRecDepth 20000 in
theorem rX8_heirloom_92 (v : mE) (d : Nat) (l2 : Int32) (s0 : Int32) (s1 : Nat) : Rz v RX8 cX8_heirloom 6 (some .int) false emI (d + 2) 92 [(2, vI l2)] [vI s0, vR s1] (fX8_heirloom_92 l2 s0 s1) := by
  unfold fX8_heirloom_92
  refine rz_iload_n 93 0 dX8_heirloom_92 rfl rfl ?_
  refine rz_callV 96 dX8_heirloom_93 rfl (tX8_tellIf v (d + 0) s1 s0 l2) rfl rfl rfl rfl ml_X8_213 im_X8_tellIf se_X8_X8_tellIf in_X8 co_X8_tellIf rfl rfl (fun x1 => ?_)
  exact rz_ireturn rfl rfl dX8_heirloom_96
def fX8_heirloom_81 (l0 : Nat) (l2 : Int32) : mM Int32 := bIf (l2 = (-1 : Int32)) (fX8_heirloom_92 l2 (0 : Int32) l0) (fX8_heirloom_92 l2 (1 : Int32) l0)
set_option maxRecDepth 20000 in
theorem rX8_heirloom_81 (v : mE) (d : Nat) (l0 : Nat) (l2 : Int32) : Rz v RX8 cX8_heirloom 6 (some .int) false emI (d + 2) 81 [(0, vR l0), (2, vI l2)] [] (fX8_heirloom_81 l0 l2) := by
  unfold fX8_heirloom_81
  refine rz_aload_n 82 0 dX8_heirloom_81 rfl rfl ?_
  refine rz_iload_n 83 1 dX8_heirloom_82 rfl rfl ?_
  refine rz_iconst 84 dX8_heirloom_83 rfl ci_m1 ?_
  refine rz_icmp_eq 91 87 dX8_heirloom_84 rfl rfl ?_ ?_
  · refine rz_iconst 92 dX8_heirloom_91 rfl ci_0 ?_
    exact rz_sub [1] rfl (rX8_heirloom_92 v d l2 (0 : Int32) l0)
  · refine rz_iconst 88 dX8_heirloom_87 rfl ci_1 ?_
    refine rz_goto 92 dX8_heirloom_88 rfl ?_
    exact rz_sub [1] rfl (rX8_heirloom_92 v d l2 (1 : Int32) l0)
def fX8_heirloom_21 : Nat → Nat → Int32 → Int32 → Int32 → Int32 → mM Int32
  | 0 => fun _ _ _ _ _ => fun _ => none
  | n + 1 => fun l0 l1 l2 l3 l4 => let r21 := fX8_heirloom_21 n; bIf ((12 : Int32) ≤ l4) (fX8_heirloom_81 l0 l2) (bGR 8 l0 3 (fun x1 => bGR 7 x1 10 (fun x2 => bAR 14 x2 l4 (fun x3 => bCallV 3 x3 (fX3_isThere x3) (fun x4 => bIf (x4 = 0) (r21 l0 l1 l2 l3 (l4 + 1)) (bGI 3 x3 0 (fun x5 => bIf (x5 = l1) (bCallV 3 x3 (fX3_oldest x3) (fun x6 => bIf (x6 ≤ l3) (r21 l0 l1 l2 l3 (l4 + 1)) (bCallV 3 x3 (fX3_oldest x3) (fun x7 => r21 l0 l1 l4 x7 (l4 + 1))))) (r21 l0 l1 l2 l3 (l4 + 1)))))))))
theorem qX8_heirloom_21  (n : Nat) (l0 : Nat) (l1 : Int32) (l2 : Int32) (l3 : Int32) (l4 : Int32) : fX8_heirloom_21 (n + 1) l0 l1 l2 l3 l4 = bIf ((12 : Int32) ≤ l4) (fX8_heirloom_81 l0 l2) (bGR 8 l0 3 (fun x1 => bGR 7 x1 10 (fun x2 => bAR 14 x2 l4 (fun x3 => bCallV 3 x3 (fX3_isThere x3) (fun x4 => bIf (x4 = 0) ((fX8_heirloom_21 n) l0 l1 l2 l3 (l4 + 1)) (bGI 3 x3 0 (fun x5 => bIf (x5 = l1) (bCallV 3 x3 (fX3_oldest x3) (fun x6 => bIf (x6 ≤ l3) ((fX8_heirloom_21 n) l0 l1 l2 l3 (l4 + 1)) (bCallV 3 x3 (fX3_oldest x3) (fun x7 => (fX8_heirloom_21 n) l0 l1 l4 x7 (l4 + 1))))) ((fX8_heirloom_21 n) l0 l1 l2 l3 (l4 + 1))))))))) := rfl
set_option maxRecDepth 20000 in
theorem rX8_heirloom_21 (v : mE) (d : Nat) : ∀ (n : Nat) (l0 : Nat) (l1 : Int32) (l2 : Int32) (l3 : Int32) (l4 : Int32), Rz v RX8 cX8_heirloom 6 (some .int) false emI (d + 2) 21 [(0, vR l0), (1, vI l1), (2, vI l2), (3, vI l3), (4, vI l4)] [] (fX8_heirloom_21 n l0 l1 l2 l3 l4)
  | 0, _, _, _, _, _ => fun _ _ _ hm => by cases hm
  | n + 1, l0, l1, l2, l3, l4 => by
    have h21 := rX8_heirloom_21 v d n
    unfold fX8_heirloom_21
    generalize fX8_heirloom_21 n = r21 at h21 ⊢
    refine rz_iload 23 4 dX8_heirloom_21 rfl rfl ?_
    refine rz_bipush 25 dX8_heirloom_23 rfl cb_12 ?_
    refine rz_icmp_ge 81 28 dX8_heirloom_25 rfl rfl ?_ ?_
    · exact rz_sub [0, 2] rfl (rX8_heirloom_81 v d l0 l2)
    · refine rz_aload_n 29 0 dX8_heirloom_28 rfl rfl ?_
      refine rz_gR 32 dX8_heirloom_29 rfl rfl fl_X8_26 (fun x1 => ?_)
      refine rz_gR 35 dX8_heirloom_32 rfl rfl fl_X8_235 (fun x2 => ?_)
      refine rz_iload 37 4 dX8_heirloom_35 rfl rfl ?_
      refine rz_aald 38 dX8_heirloom_37 rfl (by decide) (fun x3 => ?_)
      refine rz_astore (lv' := [(5, vR x3), (0, vR l0), (1, vI l1), (2, vI l2), (3, vI l3), (4, vI l4)]) 40 dX8_heirloom_38 rfl rfl rfl ?_
      refine rz_aload 42 0 dX8_heirloom_40 rfl rfl ?_
      refine rz_callV 45 dX8_heirloom_42 rfl (tX3_isThere v (d + 1) x3) rfl rfl rfl rfl ml_X8_336 im_X3_isThere se_X3_X3_isThere in_X3 co_X3_isThere rfl rfl (fun x4 => ?_)
      refine rz_if_eq 75 48 dX8_heirloom_45 rfl rfl ?_ ?_
      · refine rz_iinc (lv' := [(4, vI (l4 + 1)), (5, vR x3), (0, vR l0), (1, vI l1), (2, vI l2), (3, vI l3)]) 78 5 dX8_heirloom_75 rfl rfl (cn_1 _) rfl rfl ?_
        refine rz_goto 21 dX8_heirloom_78 rfl ?_
        exact rz_sub [2, 3, 4, 5, 0] rfl (h21 l0 l1 l2 l3 (l4 + 1))
      · refine rz_aload 50 0 dX8_heirloom_48 rfl rfl ?_
        refine rz_gI 53 dX8_heirloom_50 rfl rfl fl_X8_239 (fun x5 => ?_)
        refine rz_iload_n 54 2 dX8_heirloom_53 rfl rfl ?_
        refine rz_icmp_ne 75 57 dX8_heirloom_54 rfl rfl ?_ ?_
        · refine rz_iinc (lv' := [(4, vI (l4 + 1)), (5, vR x3), (0, vR l0), (1, vI l1), (2, vI l2), (3, vI l3)]) 78 5 dX8_heirloom_75 rfl rfl (cn_1 _) rfl rfl ?_
          refine rz_goto 21 dX8_heirloom_78 rfl ?_
          exact rz_sub [2, 3, 4, 5, 0] rfl (h21 l0 l1 l2 l3 (l4 + 1))
        · refine rz_aload 59 0 dX8_heirloom_57 rfl rfl ?_
          refine rz_callV 62 dX8_heirloom_59 rfl (tX3_oldest v (d + 0) x3) rfl rfl rfl rfl ml_X8_254 im_X3_oldest se_X3_X3_oldest in_X3 co_X3_oldest rfl rfl (fun x6 => ?_)
          refine rz_iload_n 63 4 dX8_heirloom_62 rfl rfl ?_
          refine rz_icmp_le 75 66 dX8_heirloom_63 rfl rfl ?_ ?_
          · refine rz_iinc (lv' := [(4, vI (l4 + 1)), (5, vR x3), (0, vR l0), (1, vI l1), (2, vI l2), (3, vI l3)]) 78 5 dX8_heirloom_75 rfl rfl (cn_1 _) rfl rfl ?_
            refine rz_goto 21 dX8_heirloom_78 rfl ?_
            exact rz_sub [2, 3, 4, 5, 0] rfl (h21 l0 l1 l2 l3 (l4 + 1))
          · refine rz_iload 68 5 dX8_heirloom_66 rfl rfl ?_
            refine rz_istore_n (lv' := [(2, vI l4), (5, vR x3), (0, vR l0), (1, vI l1), (3, vI l3), (4, vI l4)]) 69 dX8_heirloom_68 rfl rfl rfl ?_
            refine rz_aload 71 1 dX8_heirloom_69 rfl rfl ?_
            refine rz_callV 74 dX8_heirloom_71 rfl (tX3_oldest v (d + 0) x3) rfl rfl rfl rfl ml_X8_254 im_X3_oldest se_X3_X3_oldest in_X3 co_X3_oldest rfl rfl (fun x7 => ?_)
            refine rz_istore_n (lv' := [(3, vI x7), (2, vI l4), (5, vR x3), (0, vR l0), (1, vI l1), (4, vI l4)]) 75 dX8_heirloom_74 rfl rfl rfl ?_
            refine rz_iinc (lv' := [(4, vI (l4 + 1)), (3, vI x7), (2, vI l4), (5, vR x3), (0, vR l0), (1, vI l1)]) 78 5 dX8_heirloom_75 rfl rfl (cn_1 _) rfl rfl ?_
            refine rz_goto 21 dX8_heirloom_78 rfl ?_
            exact rz_sub [4, 5, 2, 1, 0] rfl (h21 l0 l1 l4 x7 (l4 + 1))
def fX8_heirloom (l0 : Nat) (l1 : Int32) : mM Int32 := bCallV 8 l0 (fX8_isPerson l0 l1) (fun x1 => bIf (x1 = 0) (bCallV 8 l0 (fX8_none l0 (2 : Int32)) (fun x2 => bRet x2)) (fX8_heirloom_21 fu l0 l1 (-1 : Int32) (-1 : Int32) (0 : Int32)))
set_option maxRecDepth 20000 in
theorem rX8_heirloom (v : mE) (d : Nat) (l0 : Nat) (l1 : Int32) : Rz v RX8 cX8_heirloom 6 (some .int) false emI (d + 2) 0 [(0, vR l0), (1, vI l1)] [] (fX8_heirloom l0 l1) := by
  unfold fX8_heirloom
  refine rz_aload_n 1 0 dX8_heirloom_0 rfl rfl ?_
  refine rz_iload_n 2 1 dX8_heirloom_1 rfl rfl ?_
  refine rz_callV 5 dX8_heirloom_2 rfl (tX8_isPerson v (d + 1) l0 l1) rfl rfl rfl rfl ml_X8_207 im_X8_isPerson se_X8_X8_isPerson in_X8 co_X8_isPerson rfl rfl (fun x1 => ?_)
  refine rz_if_ne 14 8 dX8_heirloom_5 rfl rfl ?_ ?_
  · refine rz_iconst 15 dX8_heirloom_14 rfl ci_m1 ?_
    refine rz_istore_n (lv' := [(2, vI (-1 : Int32)), (0, vR l0), (1, vI l1)]) 16 dX8_heirloom_15 rfl rfl rfl ?_
    refine rz_iconst 17 dX8_heirloom_16 rfl ci_m1 ?_
    refine rz_istore_n (lv' := [(3, vI (-1 : Int32)), (2, vI (-1 : Int32)), (0, vR l0), (1, vI l1)]) 18 dX8_heirloom_17 rfl rfl rfl ?_
    refine rz_iconst 19 dX8_heirloom_18 rfl ci_0 ?_
    refine rz_istore (lv' := [(4, vI (0 : Int32)), (3, vI (-1 : Int32)), (2, vI (-1 : Int32)), (0, vR l0), (1, vI l1)]) 21 dX8_heirloom_19 rfl rfl rfl ?_
    exact rz_sub [3, 4, 2, 1, 0] rfl (rX8_heirloom_21 v d fu l0 l1 (-1 : Int32) (-1 : Int32) (0 : Int32))
  · refine rz_aload_n 9 0 dX8_heirloom_8 rfl rfl ?_
    refine rz_iconst 10 dX8_heirloom_9 rfl ci_2 ?_
    refine rz_callV 13 dX8_heirloom_10 rfl (tX8_none v (d + 1) l0 (2 : Int32)) rfl rfl rfl rfl ml_X8_114 im_X8_none se_X8_X8_none in_X8 co_X8_none rfl rfl (fun x2 => ?_)
    exact rz_ireturn rfl rfl dX8_heirloom_13
theorem tX8_heirloom (v : mE) (d : Nat) (l0 : Nat) (l1 : Int32) : Mt v yX8_heirloom cX8_heirloom 6 (some .int) emI (d + 2) [vR l0, vI l1] (fX8_heirloom l0 l1) := mt_of rfl rfl (fun h => by cases h) rfl rfl (rX8_heirloom v d l0 l1)
theorem dX8_yardsOf_0 : decode cX8_yardsOf 0 = .ok (.iload_n 1, 1) := by decide +kernel
theorem dX8_yardsOf_1 : decode cX8_yardsOf 1 = .ok (.ifCond .lt 8, 3) := by decide +kernel
theorem dX8_yardsOf_4 : decode cX8_yardsOf 4 = .ok (.iload_n 2, 1) := by decide +kernel
theorem dX8_yardsOf_5 : decode cX8_yardsOf 5 = .ok (.iload_n 1, 1) := by decide +kernel
theorem dX8_yardsOf_6 : decode cX8_yardsOf 6 = .ok (.if_icmp .ge 9, 3) := by decide +kernel
theorem dX8_yardsOf_9 : decode cX8_yardsOf 9 = .ok (.aload_n 0, 1) := by decide +kernel
theorem dX8_yardsOf_10 : decode cX8_yardsOf 10 = .ok (.iconst 5, 1) := by decide +kernel
theorem dX8_yardsOf_11 : decode cX8_yardsOf 11 = .ok (.invokevirtual 114, 3) := by decide +kernel
theorem dX8_yardsOf_14 : decode cX8_yardsOf 14 = .ok (.ireturn, 1) := by decide +kernel
theorem dX8_yardsOf_15 : decode cX8_yardsOf 15 = .ok (.aload_n 0, 1) := by decide +kernel
theorem dX8_yardsOf_16 : decode cX8_yardsOf 16 = .ok (.aload_n 0, 1) := by decide +kernel
theorem dX8_yardsOf_17 : decode cX8_yardsOf 17 = .ok (.getfield 26, 3) := by decide +kernel
theorem dX8_yardsOf_20 : decode cX8_yardsOf 20 = .ok (.iload_n 1, 1) := by decide +kernel
theorem dX8_yardsOf_21 : decode cX8_yardsOf 21 = .ok (.iload_n 2, 1) := by decide +kernel
theorem dX8_yardsOf_22 : decode cX8_yardsOf 22 = .ok (.invokevirtual 339, 3) := by decide +kernel
theorem dX8_yardsOf_25 : decode cX8_yardsOf 25 = .ok (.invokevirtual 166, 3) := by decide +kernel
theorem dX8_yardsOf_28 : decode cX8_yardsOf 28 = .ok (.ireturn, 1) := by decide +kernel
def fX8_yardsOf_9 (l0 : Nat) : mM Int32 := bCallV 8 l0 (fX8_none l0 (5 : Int32)) (fun x1 => bRet x1)
set_option maxRecDepth 20000 in
theorem rX8_yardsOf_9 (v : mE) (d : Nat) (l0 : Nat) : Rz v RX8 cX8_yardsOf 3 (some .int) false emI (d + 1) 9 [(0, vR l0)] [] (fX8_yardsOf_9 l0) := by
  unfold fX8_yardsOf_9
  refine rz_aload_n 10 0 dX8_yardsOf_9 rfl rfl ?_
  refine rz_iconst 11 dX8_yardsOf_10 rfl ci_5 ?_
  refine rz_callV 14 dX8_yardsOf_11 rfl (tX8_none v (d + 0) l0 (5 : Int32)) rfl rfl rfl rfl ml_X8_114 im_X8_none se_X8_X8_none in_X8 co_X8_none rfl rfl (fun x1 => ?_)
  exact rz_ireturn rfl rfl dX8_yardsOf_14
def fX8_yardsOf (l0 : Nat) (l1 : Int32) (l2 : Int32) : mM Int32 := bIf (l1 < 0) (fX8_yardsOf_9 l0) (bIf (l1 ≤ l2) (bGR 8 l0 3 (fun x1 => bCallV 7 x1 (fX7_yardsAged x1 l1 l2) (fun x2 => bCallV 8 l0 (fX8_tell l0 x2) (fun x3 => bRet x3)))) (fX8_yardsOf_9 l0))
set_option maxRecDepth 20000 in
theorem rX8_yardsOf (v : mE) (d : Nat) (l0 : Nat) (l1 : Int32) (l2 : Int32) : Rz v RX8 cX8_yardsOf 3 (some .int) false emI (d + 1) 0 [(0, vR l0), (1, vI l1), (2, vI l2)] [] (fX8_yardsOf l0 l1 l2) := by
  unfold fX8_yardsOf
  refine rz_iload_n 1 1 dX8_yardsOf_0 rfl rfl ?_
  refine rz_if_lt 9 4 dX8_yardsOf_1 rfl rfl ?_ ?_
  · exact rz_sub [0] rfl (rX8_yardsOf_9 v d l0)
  · refine rz_iload_n 5 2 dX8_yardsOf_4 rfl rfl ?_
    refine rz_iload_n 6 1 dX8_yardsOf_5 rfl rfl ?_
    refine rz_icmp_ge 15 9 dX8_yardsOf_6 rfl rfl ?_ ?_
    · refine rz_aload_n 16 0 dX8_yardsOf_15 rfl rfl ?_
      refine rz_aload_n 17 0 dX8_yardsOf_16 rfl rfl ?_
      refine rz_gR 20 dX8_yardsOf_17 rfl rfl fl_X8_26 (fun x1 => ?_)
      refine rz_iload_n 21 1 dX8_yardsOf_20 rfl rfl ?_
      refine rz_iload_n 22 2 dX8_yardsOf_21 rfl rfl ?_
      refine rz_callV 25 dX8_yardsOf_22 rfl (tX7_yardsAged v (d + 0) x1 l1 l2) rfl rfl rfl rfl ml_X8_339 im_X7_yardsAged se_X7_X7_yardsAged in_X7 co_X7_yardsAged rfl rfl (fun x2 => ?_)
      refine rz_callV 28 dX8_yardsOf_25 rfl (tX8_tell v (d + 0) l0 x2) rfl rfl rfl rfl ml_X8_166 im_X8_tell se_X8_X8_tell in_X8 co_X8_tell rfl rfl (fun x3 => ?_)
      exact rz_ireturn rfl rfl dX8_yardsOf_28
    · exact rz_sub [0] rfl (rX8_yardsOf_9 v d l0)
theorem tX8_yardsOf (v : mE) (d : Nat) (l0 : Nat) (l1 : Int32) (l2 : Int32) : Mt v yX8_yardsOf cX8_yardsOf 3 (some .int) emI (d + 1) [vR l0, vI l1, vI l2] (fX8_yardsOf l0 l1 l2) := mt_of rfl rfl (fun h => by cases h) rfl rfl (rX8_yardsOf v d l0 l1 l2)
theorem dX8_needed_0 : decode cX8_needed 0 = .ok (.aload_n 0, 1) := by decide +kernel
theorem dX8_needed_1 : decode cX8_needed 1 = .ok (.aload_n 0, 1) := by decide +kernel
theorem dX8_needed_2 : decode cX8_needed 2 = .ok (.getfield 26, 3) := by decide +kernel
theorem dX8_needed_5 : decode cX8_needed 5 = .ok (.invokevirtual 342, 3) := by decide +kernel
theorem dX8_needed_8 : decode cX8_needed 8 = .ok (.invokevirtual 166, 3) := by decide +kernel
theorem dX8_needed_11 : decode cX8_needed 11 = .ok (.ireturn, 1) := by decide +kernel
def fX8_needed (l0 : Nat) : mM Int32 := bGR 8 l0 3 (fun x1 => bCallV 7 x1 (fX7_neededRopes x1) (fun x2 => bCallV 8 l0 (fX8_tell l0 x2) (fun x3 => bRet x3)))
set_option maxRecDepth 20000 in
theorem rX8_needed (v : mE) (d : Nat) (l0 : Nat) : Rz v RX8 cX8_needed 1 (some .int) false emI (d + 5) 0 [(0, vR l0)] [] (fX8_needed l0) := by
  unfold fX8_needed
  refine rz_aload_n 1 0 dX8_needed_0 rfl rfl ?_
  refine rz_aload_n 2 0 dX8_needed_1 rfl rfl ?_
  refine rz_gR 5 dX8_needed_2 rfl rfl fl_X8_26 (fun x1 => ?_)
  refine rz_callV 8 dX8_needed_5 rfl (tX7_neededRopes v (d + 0) x1) rfl rfl rfl rfl ml_X8_342 im_X7_neededRopes se_X7_X7_neededRopes in_X7 co_X7_neededRopes rfl rfl (fun x2 => ?_)
  refine rz_callV 11 dX8_needed_8 rfl (tX8_tell v (d + 4) l0 x2) rfl rfl rfl rfl ml_X8_166 im_X8_tell se_X8_X8_tell in_X8 co_X8_tell rfl rfl (fun x3 => ?_)
  exact rz_ireturn rfl rfl dX8_needed_11
theorem tX8_needed (v : mE) (d : Nat) (l0 : Nat) : Mt v yX8_needed cX8_needed 1 (some .int) emI (d + 5) [vR l0] (fX8_needed l0) := mt_of rfl rfl (fun h => by cases h) rfl rfl (rX8_needed v d l0)
theorem dX8_plan_0 : decode cX8_plan 0 = .ok (.aload_n 0, 1) := by decide +kernel
theorem dX8_plan_1 : decode cX8_plan 1 = .ok (.getfield 26, 3) := by decide +kernel
theorem dX8_plan_4 : decode cX8_plan 4 = .ok (.invokevirtual 345, 3) := by decide +kernel
theorem dX8_plan_7 : decode cX8_plan 7 = .ok (.istore_n 1, 1) := by decide +kernel
theorem dX8_plan_8 : decode cX8_plan 8 = .ok (.iload_n 1, 1) := by decide +kernel
theorem dX8_plan_9 : decode cX8_plan 9 = .ok (.ifCond .ne 10, 3) := by decide +kernel
theorem dX8_plan_12 : decode cX8_plan 12 = .ok (.aload_n 0, 1) := by decide +kernel
theorem dX8_plan_13 : decode cX8_plan 13 = .ok (.bipush 8, 2) := by decide +kernel
theorem dX8_plan_15 : decode cX8_plan 15 = .ok (.invokevirtual 114, 3) := by decide +kernel
theorem dX8_plan_18 : decode cX8_plan 18 = .ok (.ireturn, 1) := by decide +kernel
theorem dX8_plan_19 : decode cX8_plan 19 = .ok (.aload_n 0, 1) := by decide +kernel
theorem dX8_plan_20 : decode cX8_plan 20 = .ok (.getfield 43, 3) := by decide +kernel
theorem dX8_plan_23 : decode cX8_plan 23 = .ok (.aload_n 0, 1) := by decide +kernel
theorem dX8_plan_24 : decode cX8_plan 24 = .ok (.getfield 26, 3) := by decide +kernel
theorem dX8_plan_27 : decode cX8_plan 27 = .ok (.invokevirtual 348, 3) := by decide +kernel
theorem dX8_plan_30 : decode cX8_plan 30 = .ok (.aload_n 0, 1) := by decide +kernel
theorem dX8_plan_31 : decode cX8_plan 31 = .ok (.getfield 43, 3) := by decide +kernel
theorem dX8_plan_34 : decode cX8_plan 34 = .ok (.iload_n 1, 1) := by decide +kernel
theorem dX8_plan_35 : decode cX8_plan 35 = .ok (.invokevirtual 351, 3) := by decide +kernel
theorem dX8_plan_38 : decode cX8_plan 38 = .ok (.istore_n 2, 1) := by decide +kernel
theorem dX8_plan_39 : decode cX8_plan 39 = .ok (.iload_n 2, 1) := by decide +kernel
theorem dX8_plan_40 : decode cX8_plan 40 = .ok (.iconst (-1), 1) := by decide +kernel
theorem dX8_plan_41 : decode cX8_plan 41 = .ok (.if_icmp .ne 12, 3) := by decide +kernel
theorem dX8_plan_44 : decode cX8_plan 44 = .ok (.aload_n 0, 1) := by decide +kernel
theorem dX8_plan_45 : decode cX8_plan 45 = .ok (.bipush 9, 2) := by decide +kernel
theorem dX8_plan_47 : decode cX8_plan 47 = .ok (.invokevirtual 114, 3) := by decide +kernel
theorem dX8_plan_50 : decode cX8_plan 50 = .ok (.goto 8, 3) := by decide +kernel
theorem dX8_plan_53 : decode cX8_plan 53 = .ok (.aload_n 0, 1) := by decide +kernel
theorem dX8_plan_54 : decode cX8_plan 54 = .ok (.iload_n 2, 1) := by decide +kernel
theorem dX8_plan_55 : decode cX8_plan 55 = .ok (.invokevirtual 166, 3) := by decide +kernel
theorem dX8_plan_58 : decode cX8_plan 58 = .ok (.ireturn, 1) := by decide +kernel
def fX8_plan (l0 : Nat) : mM Int32 := bGR 8 l0 3 (fun x1 => bCallV 7 x1 (fX7_countAlive x1) (fun x2 => bIf (x2 = 0) (bCallV 8 l0 (fX8_none l0 (8 : Int32)) (fun x9 => bRet x9)) (bGR 8 l0 9 (fun x3 => bGR 8 l0 3 (fun x4 => bCallV 2 x3 (fX2_weigh x3 x4) (fun _ => bGR 8 l0 9 (fun x5 => bCallV 2 x5 (fX2_knotsFor x5 x2) (fun x6 => bIf (x6 = (-1 : Int32)) (bCallV 8 l0 (fX8_none l0 (9 : Int32)) (fun x8 => bRet x8)) (bCallV 8 l0 (fX8_tell l0 x6) (fun x7 => bRet x7))))))))))
set_option maxRecDepth 20000 in
theorem rX8_plan (v : mE) (d : Nat) (l0 : Nat) : Rz v RX8 cX8_plan 3 (some .int) false emI (d + 3) 0 [(0, vR l0)] [] (fX8_plan l0) := by
  unfold fX8_plan
  refine rz_aload_n 1 0 dX8_plan_0 rfl rfl ?_
  refine rz_gR 4 dX8_plan_1 rfl rfl fl_X8_26 (fun x1 => ?_)
  refine rz_callV 7 dX8_plan_4 rfl (tX7_countAlive v (d + 1) x1) rfl rfl rfl rfl ml_X8_345 im_X7_countAlive se_X7_X7_countAlive in_X7 co_X7_countAlive rfl rfl (fun x2 => ?_)
  refine rz_istore_n (lv' := [(1, vI x2), (0, vR l0)]) 8 dX8_plan_7 rfl rfl rfl ?_
  refine rz_iload_n 9 0 dX8_plan_8 rfl rfl ?_
  refine rz_if_ne 19 12 dX8_plan_9 rfl rfl ?_ ?_
  · refine rz_aload_n 20 1 dX8_plan_19 rfl rfl ?_
    refine rz_gR 23 dX8_plan_20 rfl rfl fl_X8_43 (fun x3 => ?_)
    refine rz_aload_n 24 1 dX8_plan_23 rfl rfl ?_
    refine rz_gR 27 dX8_plan_24 rfl rfl fl_X8_26 (fun x4 => ?_)
    refine rz_callV 30 dX8_plan_27 rfl (tX2_weigh v (d + 0) x3 x4) rfl rfl rfl rfl ml_X8_348 im_X2_weigh se_X2_X2_weigh in_X2 co_X2_weigh rfl rfl (fun _ => ?_)
    refine rz_aload_n 31 1 dX8_plan_30 rfl rfl ?_
    refine rz_gR 34 dX8_plan_31 rfl rfl fl_X8_43 (fun x5 => ?_)
    refine rz_iload_n 35 0 dX8_plan_34 rfl rfl ?_
    refine rz_callV 38 dX8_plan_35 rfl (tX2_knotsFor v (d + 1) x5 x2) rfl rfl rfl rfl ml_X8_351 im_X2_knotsFor se_X2_X2_knotsFor in_X2 co_X2_knotsFor rfl rfl (fun x6 => ?_)
    refine rz_istore_n (lv' := [(2, vI x6), (1, vI x2), (0, vR l0)]) 39 dX8_plan_38 rfl rfl rfl ?_
    refine rz_iload_n 40 0 dX8_plan_39 rfl rfl ?_
    refine rz_iconst 41 dX8_plan_40 rfl ci_m1 ?_
    refine rz_icmp_ne 53 44 dX8_plan_41 rfl rfl ?_ ?_
    · refine rz_aload_n 54 2 dX8_plan_53 rfl rfl ?_
      refine rz_iload_n 55 0 dX8_plan_54 rfl rfl ?_
      refine rz_callV 58 dX8_plan_55 rfl (tX8_tell v (d + 2) l0 x6) rfl rfl rfl rfl ml_X8_166 im_X8_tell se_X8_X8_tell in_X8 co_X8_tell rfl rfl (fun x7 => ?_)
      exact rz_ireturn rfl rfl dX8_plan_58
    · refine rz_aload_n 45 2 dX8_plan_44 rfl rfl ?_
      refine rz_bipush 47 dX8_plan_45 rfl cb_9 ?_
      refine rz_callV 50 dX8_plan_47 rfl (tX8_none v (d + 2) l0 (9 : Int32)) rfl rfl rfl rfl ml_X8_114 im_X8_none se_X8_X8_none in_X8 co_X8_none rfl rfl (fun x8 => ?_)
      refine rz_goto 58 dX8_plan_50 rfl ?_
      exact rz_ireturn rfl rfl dX8_plan_58
  · refine rz_aload_n 13 1 dX8_plan_12 rfl rfl ?_
    refine rz_bipush 15 dX8_plan_13 rfl cb_8 ?_
    refine rz_callV 18 dX8_plan_15 rfl (tX8_none v (d + 2) l0 (8 : Int32)) rfl rfl rfl rfl ml_X8_114 im_X8_none se_X8_X8_none in_X8 co_X8_none rfl rfl (fun x9 => ?_)
    exact rz_ireturn rfl rfl dX8_plan_18
theorem tX8_plan (v : mE) (d : Nat) (l0 : Nat) : Mt v yX8_plan cX8_plan 3 (some .int) emI (d + 3) [vR l0] (fX8_plan l0) := mt_of rfl rfl (fun h => by cases h) rfl rfl (rX8_plan v d l0)
theorem dX8_spread_0 : decode cX8_spread 0 = .ok (.iload_n 1, 1) := by decide +kernel
theorem dX8_spread_1 : decode cX8_spread 1 = .ok (.ifCond .lt 9, 3) := by decide +kernel
theorem dX8_spread_4 : decode cX8_spread 4 = .ok (.iload_n 1, 1) := by decide +kernel
theorem dX8_spread_5 : decode cX8_spread 5 = .ok (.bipush 12, 2) := by decide +kernel
theorem dX8_spread_7 : decode cX8_spread 7 = .ok (.if_icmp .lt 9, 3) := by decide +kernel
theorem dX8_spread_10 : decode cX8_spread 10 = .ok (.aload_n 0, 1) := by decide +kernel
theorem dX8_spread_11 : decode cX8_spread 11 = .ok (.iconst 5, 1) := by decide +kernel
theorem dX8_spread_12 : decode cX8_spread 12 = .ok (.invokevirtual 114, 3) := by decide +kernel
theorem dX8_spread_15 : decode cX8_spread 15 = .ok (.ireturn, 1) := by decide +kernel
theorem dX8_spread_16 : decode cX8_spread 16 = .ok (.aload_n 0, 1) := by decide +kernel
theorem dX8_spread_17 : decode cX8_spread 17 = .ok (.getfield 43, 3) := by decide +kernel
theorem dX8_spread_20 : decode cX8_spread 20 = .ok (.aload_n 0, 1) := by decide +kernel
theorem dX8_spread_21 : decode cX8_spread 21 = .ok (.getfield 26, 3) := by decide +kernel
theorem dX8_spread_24 : decode cX8_spread 24 = .ok (.invokevirtual 348, 3) := by decide +kernel
theorem dX8_spread_27 : decode cX8_spread 27 = .ok (.aload_n 0, 1) := by decide +kernel
theorem dX8_spread_28 : decode cX8_spread 28 = .ok (.getfield 26, 3) := by decide +kernel
theorem dX8_spread_31 : decode cX8_spread 31 = .ok (.invokevirtual 345, 3) := by decide +kernel
theorem dX8_spread_34 : decode cX8_spread 34 = .ok (.istore_n 2, 1) := by decide +kernel
theorem dX8_spread_35 : decode cX8_spread 35 = .ok (.iload_n 2, 1) := by decide +kernel
theorem dX8_spread_36 : decode cX8_spread 36 = .ok (.ifCond .le 34, 3) := by decide +kernel
theorem dX8_spread_39 : decode cX8_spread 39 = .ok (.aload_n 0, 1) := by decide +kernel
theorem dX8_spread_40 : decode cX8_spread 40 = .ok (.getfield 43, 3) := by decide +kernel
theorem dX8_spread_43 : decode cX8_spread 43 = .ok (.iload_n 2, 1) := by decide +kernel
theorem dX8_spread_44 : decode cX8_spread 44 = .ok (.invokevirtual 351, 3) := by decide +kernel
theorem dX8_spread_47 : decode cX8_spread 47 = .ok (.istore_n 3, 1) := by decide +kernel
theorem dX8_spread_48 : decode cX8_spread 48 = .ok (.iload_n 3, 1) := by decide +kernel
theorem dX8_spread_49 : decode cX8_spread 49 = .ok (.iconst (-1), 1) := by decide +kernel
theorem dX8_spread_50 : decode cX8_spread 50 = .ok (.if_icmp .eq 14, 3) := by decide +kernel
theorem dX8_spread_53 : decode cX8_spread 53 = .ok (.iload_n 3, 1) := by decide +kernel
theorem dX8_spread_54 : decode cX8_spread 54 = .ok (.iload_n 1, 1) := by decide +kernel
theorem dX8_spread_55 : decode cX8_spread 55 = .ok (.if_icmp .gt 9, 3) := by decide +kernel
theorem dX8_spread_58 : decode cX8_spread 58 = .ok (.aload_n 0, 1) := by decide +kernel
theorem dX8_spread_59 : decode cX8_spread 59 = .ok (.iload_n 2, 1) := by decide +kernel
theorem dX8_spread_60 : decode cX8_spread 60 = .ok (.invokevirtual 166, 3) := by decide +kernel
theorem dX8_spread_63 : decode cX8_spread 63 = .ok (.ireturn, 1) := by decide +kernel
theorem dX8_spread_64 : decode cX8_spread 64 = .ok (.iinc 2 (-1), 3) := by decide +kernel
theorem dX8_spread_67 : decode cX8_spread 67 = .ok (.goto (-32), 3) := by decide +kernel
theorem dX8_spread_70 : decode cX8_spread 70 = .ok (.aload_n 0, 1) := by decide +kernel
theorem dX8_spread_71 : decode cX8_spread 71 = .ok (.iconst 0, 1) := by decide +kernel
theorem dX8_spread_72 : decode cX8_spread 72 = .ok (.invokevirtual 166, 3) := by decide +kernel
theorem dX8_spread_75 : decode cX8_spread 75 = .ok (.ireturn, 1) := by decide +kernel
def fX8_spread_70 (l0 : Nat) : mM Int32 := bCallV 8 l0 (fX8_tell l0 (0 : Int32)) (fun x1 => bRet x1)
set_option maxRecDepth 20000 in
theorem rX8_spread_70 (v : mE) (d : Nat) (l0 : Nat) : Rz v RX8 cX8_spread 4 (some .int) false emI (d + 3) 70 [(0, vR l0)] [] (fX8_spread_70 l0) := by
  unfold fX8_spread_70
  refine rz_aload_n 71 0 dX8_spread_70 rfl rfl ?_
  refine rz_iconst 72 dX8_spread_71 rfl ci_0 ?_
  refine rz_callV 75 dX8_spread_72 rfl (tX8_tell v (d + 2) l0 (0 : Int32)) rfl rfl rfl rfl ml_X8_166 im_X8_tell se_X8_X8_tell in_X8 co_X8_tell rfl rfl (fun x1 => ?_)
  exact rz_ireturn rfl rfl dX8_spread_75
def fX8_spread_58 (l0 : Nat) (l2 : Int32) : mM Int32 := bCallV 8 l0 (fX8_tell l0 l2) (fun x1 => bRet x1)
set_option maxRecDepth 20000 in
theorem rX8_spread_58 (v : mE) (d : Nat) (l0 : Nat) (l2 : Int32) : Rz v RX8 cX8_spread 4 (some .int) false emI (d + 3) 58 [(0, vR l0), (2, vI l2)] [] (fX8_spread_58 l0 l2) := by
  unfold fX8_spread_58
  refine rz_aload_n 59 0 dX8_spread_58 rfl rfl ?_
  refine rz_iload_n 60 1 dX8_spread_59 rfl rfl ?_
  refine rz_callV 63 dX8_spread_60 rfl (tX8_tell v (d + 2) l0 l2) rfl rfl rfl rfl ml_X8_166 im_X8_tell se_X8_X8_tell in_X8 co_X8_tell rfl rfl (fun x1 => ?_)
  exact rz_ireturn rfl rfl dX8_spread_63
def fX8_spread_35 : Nat → Nat → Int32 → Int32 → mM Int32
  | 0 => fun _ _ _ => fun _ => none
  | n + 1 => fun l0 l1 l2 => let r35 := fX8_spread_35 n; bIf (l2 ≤ 0) (fX8_spread_70 l0) (bGR 8 l0 9 (fun x1 => bCallV 2 x1 (fX2_knotsFor x1 l2) (fun x2 => bIf (x2 = (-1 : Int32)) (r35 l0 l1 (l2 + (-1))) (bIf (l1 < x2) (r35 l0 l1 (l2 + (-1))) (fX8_spread_58 l0 l2)))))
theorem qX8_spread_35  (n : Nat) (l0 : Nat) (l1 : Int32) (l2 : Int32) : fX8_spread_35 (n + 1) l0 l1 l2 = bIf (l2 ≤ 0) (fX8_spread_70 l0) (bGR 8 l0 9 (fun x1 => bCallV 2 x1 (fX2_knotsFor x1 l2) (fun x2 => bIf (x2 = (-1 : Int32)) ((fX8_spread_35 n) l0 l1 (l2 + (-1))) (bIf (l1 < x2) ((fX8_spread_35 n) l0 l1 (l2 + (-1))) (fX8_spread_58 l0 l2))))) := rfl
set_option maxRecDepth 20000 in
theorem rX8_spread_35 (v : mE) (d : Nat) : ∀ (n : Nat) (l0 : Nat) (l1 : Int32) (l2 : Int32), Rz v RX8 cX8_spread 4 (some .int) false emI (d + 3) 35 [(0, vR l0), (1, vI l1), (2, vI l2)] [] (fX8_spread_35 n l0 l1 l2)
  | 0, _, _, _ => fun _ _ _ hm => by cases hm
  | n + 1, l0, l1, l2 => by
    have h35 := rX8_spread_35 v d n
    unfold fX8_spread_35
    generalize fX8_spread_35 n = r35 at h35 ⊢
    refine rz_iload_n 36 2 dX8_spread_35 rfl rfl ?_
    refine rz_if_le 70 39 dX8_spread_36 rfl rfl ?_ ?_
    · exact rz_sub [0] rfl (rX8_spread_70 v d l0)
    · refine rz_aload_n 40 0 dX8_spread_39 rfl rfl ?_
      refine rz_gR 43 dX8_spread_40 rfl rfl fl_X8_43 (fun x1 => ?_)
      refine rz_iload_n 44 2 dX8_spread_43 rfl rfl ?_
      refine rz_callV 47 dX8_spread_44 rfl (tX2_knotsFor v (d + 1) x1 l2) rfl rfl rfl rfl ml_X8_351 im_X2_knotsFor se_X2_X2_knotsFor in_X2 co_X2_knotsFor rfl rfl (fun x2 => ?_)
      refine rz_istore_n (lv' := [(3, vI x2), (0, vR l0), (1, vI l1), (2, vI l2)]) 48 dX8_spread_47 rfl rfl rfl ?_
      refine rz_iload_n 49 0 dX8_spread_48 rfl rfl ?_
      refine rz_iconst 50 dX8_spread_49 rfl ci_m1 ?_
      refine rz_icmp_eq 64 53 dX8_spread_50 rfl rfl ?_ ?_
      · refine rz_iinc (lv' := [(2, vI (l2 + (-1))), (3, vI x2), (0, vR l0), (1, vI l1)]) 67 3 dX8_spread_64 rfl rfl (cn_m1 _) rfl rfl ?_
        refine rz_goto 35 dX8_spread_67 rfl ?_
        exact rz_sub [2, 3, 0] rfl (h35 l0 l1 (l2 + (-1)))
      · refine rz_iload_n 54 0 dX8_spread_53 rfl rfl ?_
        refine rz_iload_n 55 2 dX8_spread_54 rfl rfl ?_
        refine rz_icmp_gt 64 58 dX8_spread_55 rfl rfl ?_ ?_
        · refine rz_iinc (lv' := [(2, vI (l2 + (-1))), (3, vI x2), (0, vR l0), (1, vI l1)]) 67 3 dX8_spread_64 rfl rfl (cn_m1 _) rfl rfl ?_
          refine rz_goto 35 dX8_spread_67 rfl ?_
          exact rz_sub [2, 3, 0] rfl (h35 l0 l1 (l2 + (-1)))
        · exact rz_sub [1, 3] rfl (rX8_spread_58 v d l0 l2)
def fX8_spread_10 (l0 : Nat) : mM Int32 := bCallV 8 l0 (fX8_none l0 (5 : Int32)) (fun x1 => bRet x1)
set_option maxRecDepth 20000 in
theorem rX8_spread_10 (v : mE) (d : Nat) (l0 : Nat) : Rz v RX8 cX8_spread 4 (some .int) false emI (d + 3) 10 [(0, vR l0)] [] (fX8_spread_10 l0) := by
  unfold fX8_spread_10
  refine rz_aload_n 11 0 dX8_spread_10 rfl rfl ?_
  refine rz_iconst 12 dX8_spread_11 rfl ci_5 ?_
  refine rz_callV 15 dX8_spread_12 rfl (tX8_none v (d + 2) l0 (5 : Int32)) rfl rfl rfl rfl ml_X8_114 im_X8_none se_X8_X8_none in_X8 co_X8_none rfl rfl (fun x1 => ?_)
  exact rz_ireturn rfl rfl dX8_spread_15
def fX8_spread (l0 : Nat) (l1 : Int32) : mM Int32 := bIf (l1 < 0) (fX8_spread_10 l0) (bIf (l1 < (12 : Int32)) (bGR 8 l0 9 (fun x1 => bGR 8 l0 3 (fun x2 => bCallV 2 x1 (fX2_weigh x1 x2) (fun _ => bGR 8 l0 3 (fun x3 => bCallV 7 x3 (fX7_countAlive x3) (fun x4 => fX8_spread_35 fu l0 l1 x4)))))) (fX8_spread_10 l0))
set_option maxRecDepth 20000 in
theorem rX8_spread (v : mE) (d : Nat) (l0 : Nat) (l1 : Int32) : Rz v RX8 cX8_spread 4 (some .int) false emI (d + 3) 0 [(0, vR l0), (1, vI l1)] [] (fX8_spread l0 l1) := by
  unfold fX8_spread
  refine rz_iload_n 1 1 dX8_spread_0 rfl rfl ?_
  refine rz_if_lt 10 4 dX8_spread_1 rfl rfl ?_ ?_
  · exact rz_sub [0] rfl (rX8_spread_10 v d l0)
  · refine rz_iload_n 5 1 dX8_spread_4 rfl rfl ?_
    refine rz_bipush 7 dX8_spread_5 rfl cb_12 ?_
    refine rz_icmp_lt 16 10 dX8_spread_7 rfl rfl ?_ ?_
    · refine rz_aload_n 17 0 dX8_spread_16 rfl rfl ?_
      refine rz_gR 20 dX8_spread_17 rfl rfl fl_X8_43 (fun x1 => ?_)
      refine rz_aload_n 21 0 dX8_spread_20 rfl rfl ?_
      refine rz_gR 24 dX8_spread_21 rfl rfl fl_X8_26 (fun x2 => ?_)
      refine rz_callV 27 dX8_spread_24 rfl (tX2_weigh v (d + 0) x1 x2) rfl rfl rfl rfl ml_X8_348 im_X2_weigh se_X2_X2_weigh in_X2 co_X2_weigh rfl rfl (fun _ => ?_)
      refine rz_aload_n 28 0 dX8_spread_27 rfl rfl ?_
      refine rz_gR 31 dX8_spread_28 rfl rfl fl_X8_26 (fun x3 => ?_)
      refine rz_callV 34 dX8_spread_31 rfl (tX7_countAlive v (d + 1) x3) rfl rfl rfl rfl ml_X8_345 im_X7_countAlive se_X7_X7_countAlive in_X7 co_X7_countAlive rfl rfl (fun x4 => ?_)
      refine rz_istore_n (lv' := [(2, vI x4), (0, vR l0), (1, vI l1)]) 35 dX8_spread_34 rfl rfl rfl ?_
      exact rz_sub [1, 2, 0] rfl (rX8_spread_35 v d fu l0 l1 x4)
    · exact rz_sub [0] rfl (rX8_spread_10 v d l0)
theorem tX8_spread (v : mE) (d : Nat) (l0 : Nat) (l1 : Int32) : Mt v yX8_spread cX8_spread 4 (some .int) emI (d + 3) [vR l0, vI l1] (fX8_spread l0 l1) := mt_of rfl rfl (fun h => by cases h) rfl rfl (rX8_spread v d l0 l1)
theorem dX8_holds_0 : decode cX8_holds 0 = .ok (.aload_n 0, 1) := by decide +kernel
theorem dX8_holds_1 : decode cX8_holds 1 = .ok (.iload_n 1, 1) := by decide +kernel
theorem dX8_holds_2 : decode cX8_holds 2 = .ok (.invokevirtual 232, 3) := by decide +kernel
theorem dX8_holds_5 : decode cX8_holds 5 = .ok (.ifCond .ne 9, 3) := by decide +kernel
theorem dX8_holds_8 : decode cX8_holds 8 = .ok (.aload_n 0, 1) := by decide +kernel
theorem dX8_holds_9 : decode cX8_holds 9 = .ok (.iconst 2, 1) := by decide +kernel
theorem dX8_holds_10 : decode cX8_holds 10 = .ok (.invokevirtual 95, 3) := by decide +kernel
theorem dX8_holds_13 : decode cX8_holds 13 = .ok (.ireturn, 1) := by decide +kernel
theorem dX8_holds_14 : decode cX8_holds 14 = .ok (.aload_n 0, 1) := by decide +kernel
theorem dX8_holds_15 : decode cX8_holds 15 = .ok (.getfield 26, 3) := by decide +kernel
theorem dX8_holds_18 : decode cX8_holds 18 = .ok (.getfield 235, 3) := by decide +kernel
theorem dX8_holds_21 : decode cX8_holds 21 = .ok (.iload_n 1, 1) := by decide +kernel
theorem dX8_holds_22 : decode cX8_holds 22 = .ok (.aaload, 1) := by decide +kernel
theorem dX8_holds_23 : decode cX8_holds 23 = .ok (.astore_n 2, 1) := by decide +kernel
theorem dX8_holds_24 : decode cX8_holds 24 = .ok (.aload_n 0, 1) := by decide +kernel
theorem dX8_holds_25 : decode cX8_holds 25 = .ok (.aload_n 2, 1) := by decide +kernel
theorem dX8_holds_26 : decode cX8_holds 26 = .ok (.invokevirtual 354, 3) := by decide +kernel
theorem dX8_holds_29 : decode cX8_holds 29 = .ok (.aload_n 2, 1) := by decide +kernel
theorem dX8_holds_30 : decode cX8_holds 30 = .ok (.invokevirtual 358, 3) := by decide +kernel
theorem dX8_holds_33 : decode cX8_holds 33 = .ok (.invokevirtual 294, 3) := by decide +kernel
theorem dX8_holds_36 : decode cX8_holds 36 = .ok (.ireturn, 1) := by decide +kernel
def fX8_holds (l0 : Nat) (l1 : Int32) : mM Int32 := bCallV 8 l0 (fX8_isRope l0 l1) (fun x1 => bIf (x1 = 0) (bCallV 8 l0 (fX8_refuse l0 (2 : Int32)) (fun x8 => bRetZ x8)) (bGR 8 l0 3 (fun x2 => bGR 7 x2 10 (fun x3 => bAR 14 x3 l1 (fun x4 => bCallV 3 x4 (fX3_holdsTop x4) (fun x5 => bCallV 3 x4 (fX3_holdsBottom x4) (fun x6 => bCallV 8 l0 (fX8_tellFraction l0 x5 x6) (fun x7 => bRetZ x7))))))))
set_option maxRecDepth 20000 in
theorem rX8_holds (v : mE) (d : Nat) (l0 : Nat) (l1 : Int32) : Rz v RX8 cX8_holds 3 (some .boolean) false emI (d + 2) 0 [(0, vR l0), (1, vI l1)] [] (fX8_holds l0 l1) := by
  unfold fX8_holds
  refine rz_aload_n 1 0 dX8_holds_0 rfl rfl ?_
  refine rz_iload_n 2 1 dX8_holds_1 rfl rfl ?_
  refine rz_callV 5 dX8_holds_2 rfl (tX8_isRope v (d + 0) l0 l1) rfl rfl rfl rfl ml_X8_232 im_X8_isRope se_X8_X8_isRope in_X8 co_X8_isRope rfl rfl (fun x1 => ?_)
  refine rz_if_ne 14 8 dX8_holds_5 rfl rfl ?_ ?_
  · refine rz_aload_n 15 0 dX8_holds_14 rfl rfl ?_
    refine rz_gR 18 dX8_holds_15 rfl rfl fl_X8_26 (fun x2 => ?_)
    refine rz_gR 21 dX8_holds_18 rfl rfl fl_X8_235 (fun x3 => ?_)
    refine rz_iload_n 22 1 dX8_holds_21 rfl rfl ?_
    refine rz_aald 23 dX8_holds_22 rfl (by decide) (fun x4 => ?_)
    refine rz_astore_n (lv' := [(2, vR x4), (0, vR l0), (1, vI l1)]) 24 dX8_holds_23 rfl rfl rfl ?_
    refine rz_aload_n 25 1 dX8_holds_24 rfl rfl ?_
    refine rz_aload_n 26 0 dX8_holds_25 rfl rfl ?_
    refine rz_callV 29 dX8_holds_26 rfl (tX3_holdsTop v (d + 0) x4) rfl rfl rfl rfl ml_X8_354 im_X3_holdsTop se_X3_X3_holdsTop in_X3 co_X3_holdsTop rfl rfl (fun x5 => ?_)
    refine rz_aload_n 30 0 dX8_holds_29 rfl rfl ?_
    refine rz_callV 33 dX8_holds_30 rfl (tX3_holdsBottom v (d + 0) x4) rfl rfl rfl rfl ml_X8_358 im_X3_holdsBottom se_X3_X3_holdsBottom in_X3 co_X3_holdsBottom rfl rfl (fun x6 => ?_)
    refine rz_callV 36 dX8_holds_33 rfl (tX8_tellFraction v (d + 0) l0 x5 x6) rfl rfl rfl rfl ml_X8_294 im_X8_tellFraction se_X8_X8_tellFraction in_X8 co_X8_tellFraction rfl rfl (fun x7 => ?_)
    exact rz_zreturn rfl rfl dX8_holds_36
  · refine rz_aload_n 9 0 dX8_holds_8 rfl rfl ?_
    refine rz_iconst 10 dX8_holds_9 rfl ci_2 ?_
    refine rz_callV 13 dX8_holds_10 rfl (tX8_refuse v (d + 1) l0 (2 : Int32)) rfl rfl rfl rfl ml_X8_95 im_X8_refuse se_X8_X8_refuse in_X8 co_X8_refuse rfl rfl (fun x8 => ?_)
    exact rz_zreturn rfl rfl dX8_holds_13
theorem tX8_holds (v : mE) (d : Nat) (l0 : Nat) (l1 : Int32) : Mt v yX8_holds cX8_holds 3 (some .boolean) emI (d + 2) [vR l0, vI l1] (fX8_holds l0 l1) := mt_of rfl rfl (fun h => by cases h) rfl rfl (rX8_holds v d l0 l1)
theorem dX8_best_0 : decode cX8_best 0 = .ok (.aload_n 0, 1) := by decide +kernel
theorem dX8_best_1 : decode cX8_best 1 = .ok (.iload_n 1, 1) := by decide +kernel
theorem dX8_best_2 : decode cX8_best 2 = .ok (.invokevirtual 207, 3) := by decide +kernel
theorem dX8_best_5 : decode cX8_best 5 = .ok (.ifCond .ne 9, 3) := by decide +kernel
theorem dX8_best_8 : decode cX8_best 8 = .ok (.aload_n 0, 1) := by decide +kernel
theorem dX8_best_9 : decode cX8_best 9 = .ok (.iconst 2, 1) := by decide +kernel
theorem dX8_best_10 : decode cX8_best 10 = .ok (.invokevirtual 114, 3) := by decide +kernel
theorem dX8_best_13 : decode cX8_best 13 = .ok (.ireturn, 1) := by decide +kernel
theorem dX8_best_14 : decode cX8_best 14 = .ok (.aload_n 0, 1) := by decide +kernel
theorem dX8_best_15 : decode cX8_best 15 = .ok (.getfield 26, 3) := by decide +kernel
theorem dX8_best_18 : decode cX8_best 18 = .ok (.iload_n 1, 1) := by decide +kernel
theorem dX8_best_19 : decode cX8_best 19 = .ok (.invokevirtual 276, 3) := by decide +kernel
theorem dX8_best_22 : decode cX8_best 22 = .ok (.ifCond .ne 10, 3) := by decide +kernel
theorem dX8_best_25 : decode cX8_best 25 = .ok (.aload_n 0, 1) := by decide +kernel
theorem dX8_best_26 : decode cX8_best 26 = .ok (.bipush 8, 2) := by decide +kernel
theorem dX8_best_28 : decode cX8_best 28 = .ok (.invokevirtual 114, 3) := by decide +kernel
theorem dX8_best_31 : decode cX8_best 31 = .ok (.ireturn, 1) := by decide +kernel
theorem dX8_best_32 : decode cX8_best 32 = .ok (.iconst (-1), 1) := by decide +kernel
theorem dX8_best_33 : decode cX8_best 33 = .ok (.istore_n 2, 1) := by decide +kernel
theorem dX8_best_34 : decode cX8_best 34 = .ok (.aload_n 0, 1) := by decide +kernel
theorem dX8_best_35 : decode cX8_best 35 = .ok (.getfield 26, 3) := by decide +kernel
theorem dX8_best_38 : decode cX8_best 38 = .ok (.invokevirtual 198, 3) := by decide +kernel
theorem dX8_best_41 : decode cX8_best 41 = .ok (.istore_n 3, 1) := by decide +kernel
theorem dX8_best_42 : decode cX8_best 42 = .ok (.iconst 0, 1) := by decide +kernel
theorem dX8_best_43 : decode cX8_best 43 = .ok (.istore 4, 2) := by decide +kernel
theorem dX8_best_45 : decode cX8_best 45 = .ok (.iload 4, 2) := by decide +kernel
theorem dX8_best_47 : decode cX8_best 47 = .ok (.bipush 12, 2) := by decide +kernel
theorem dX8_best_49 : decode cX8_best 49 = .ok (.if_icmp .ge 56, 3) := by decide +kernel
theorem dX8_best_52 : decode cX8_best 52 = .ok (.aload_n 0, 1) := by decide +kernel
theorem dX8_best_53 : decode cX8_best 53 = .ok (.getfield 26, 3) := by decide +kernel
theorem dX8_best_56 : decode cX8_best 56 = .ok (.iload 4, 2) := by decide +kernel
theorem dX8_best_58 : decode cX8_best 58 = .ok (.iload_n 1, 1) := by decide +kernel
theorem dX8_best_59 : decode cX8_best 59 = .ok (.iload_n 3, 1) := by decide +kernel
theorem dX8_best_60 : decode cX8_best 60 = .ok (.invokevirtual 361, 3) := by decide +kernel
theorem dX8_best_63 : decode cX8_best 63 = .ok (.ifCond .eq 36, 3) := by decide +kernel
theorem dX8_best_66 : decode cX8_best 66 = .ok (.iload_n 2, 1) := by decide +kernel
theorem dX8_best_67 : decode cX8_best 67 = .ok (.iconst (-1), 1) := by decide +kernel
theorem dX8_best_68 : decode cX8_best 68 = .ok (.if_icmp .eq 28, 3) := by decide +kernel
theorem dX8_best_71 : decode cX8_best 71 = .ok (.aload_n 0, 1) := by decide +kernel
theorem dX8_best_72 : decode cX8_best 72 = .ok (.getfield 26, 3) := by decide +kernel
theorem dX8_best_75 : decode cX8_best 75 = .ok (.getfield 235, 3) := by decide +kernel
theorem dX8_best_78 : decode cX8_best 78 = .ok (.iload 4, 2) := by decide +kernel
theorem dX8_best_80 : decode cX8_best 80 = .ok (.aaload, 1) := by decide +kernel
theorem dX8_best_81 : decode cX8_best 81 = .ok (.aload_n 0, 1) := by decide +kernel
theorem dX8_best_82 : decode cX8_best 82 = .ok (.getfield 26, 3) := by decide +kernel
theorem dX8_best_85 : decode cX8_best 85 = .ok (.getfield 235, 3) := by decide +kernel
theorem dX8_best_88 : decode cX8_best 88 = .ok (.iload_n 2, 1) := by decide +kernel
theorem dX8_best_89 : decode cX8_best 89 = .ok (.aaload, 1) := by decide +kernel
theorem dX8_best_90 : decode cX8_best 90 = .ok (.invokevirtual 365, 3) := by decide +kernel
theorem dX8_best_93 : decode cX8_best 93 = .ok (.ifCond .eq 6, 3) := by decide +kernel
theorem dX8_best_96 : decode cX8_best 96 = .ok (.iload 4, 2) := by decide +kernel
theorem dX8_best_98 : decode cX8_best 98 = .ok (.istore_n 2, 1) := by decide +kernel
theorem dX8_best_99 : decode cX8_best 99 = .ok (.iinc 4 1, 3) := by decide +kernel
theorem dX8_best_102 : decode cX8_best 102 = .ok (.goto (-57), 3) := by decide +kernel
theorem dX8_best_105 : decode cX8_best 105 = .ok (.aload_n 0, 1) := by decide +kernel
theorem dX8_best_106 : decode cX8_best 106 = .ok (.iload_n 2, 1) := by decide +kernel
theorem dX8_best_107 : decode cX8_best 107 = .ok (.iconst (-1), 1) := by decide +kernel
theorem dX8_best_108 : decode cX8_best 108 = .ok (.if_icmp .eq 7, 3) := by decide +kernel
theorem dX8_best_111 : decode cX8_best 111 = .ok (.iconst 1, 1) := by decide +kernel
theorem dX8_best_112 : decode cX8_best 112 = .ok (.goto 4, 3) := by decide +kernel
theorem dX8_best_115 : decode cX8_best 115 = .ok (.iconst 0, 1) := by decide +kernel
theorem dX8_best_116 : decode cX8_best 116 = .ok (.iload_n 2, 1) := by decide +kernel
theorem dX8_best_117 : decode cX8_best 117 = .ok (.invokevirtual 213, 3) := by decide +kernel
theorem dX8_best_120 : decode cX8_best 120 = .ok (.ireturn, 1) := by decide +kernel
def fX8_best_116 (l2 : Int32) (s0 : Int32) (s1 : Nat) : mM Int32 := bCallV 8 s1 (fX8_tellIf s1 s0 l2) (fun x1 => bRet x1)
set_option maxRecDepth 20000 in
theorem rX8_best_116 (v : mE) (d : Nat) (l2 : Int32) (s0 : Int32) (s1 : Nat) : Rz v RX8 cX8_best 5 (some .int) false emI (d + 5) 116 [(2, vI l2)] [vI s0, vR s1] (fX8_best_116 l2 s0 s1) := by
  unfold fX8_best_116
  refine rz_iload_n 117 0 dX8_best_116 rfl rfl ?_
  refine rz_callV 120 dX8_best_117 rfl (tX8_tellIf v (d + 3) s1 s0 l2) rfl rfl rfl rfl ml_X8_213 im_X8_tellIf se_X8_X8_tellIf in_X8 co_X8_tellIf rfl rfl (fun x1 => ?_)
  exact rz_ireturn rfl rfl dX8_best_120
def fX8_best_105 (l0 : Nat) (l2 : Int32) : mM Int32 := bIf (l2 = (-1 : Int32)) (fX8_best_116 l2 (0 : Int32) l0) (fX8_best_116 l2 (1 : Int32) l0)
set_option maxRecDepth 20000 in
theorem rX8_best_105 (v : mE) (d : Nat) (l0 : Nat) (l2 : Int32) : Rz v RX8 cX8_best 5 (some .int) false emI (d + 5) 105 [(0, vR l0), (2, vI l2)] [] (fX8_best_105 l0 l2) := by
  unfold fX8_best_105
  refine rz_aload_n 106 0 dX8_best_105 rfl rfl ?_
  refine rz_iload_n 107 1 dX8_best_106 rfl rfl ?_
  refine rz_iconst 108 dX8_best_107 rfl ci_m1 ?_
  refine rz_icmp_eq 115 111 dX8_best_108 rfl rfl ?_ ?_
  · refine rz_iconst 116 dX8_best_115 rfl ci_0 ?_
    exact rz_sub [1] rfl (rX8_best_116 v d l2 (0 : Int32) l0)
  · refine rz_iconst 112 dX8_best_111 rfl ci_1 ?_
    refine rz_goto 116 dX8_best_112 rfl ?_
    exact rz_sub [1] rfl (rX8_best_116 v d l2 (1 : Int32) l0)
def fX8_best_96 (r45 : Nat → Int32 → Int32 → Int32 → Int32 → mM Int32) (l0 : Nat) (l1 : Int32) (l3 : Int32) (l4 : Int32) : mM Int32 := r45 l0 l1 l4 l3 (l4 + 1)
set_option maxRecDepth 20000 in
theorem rX8_best_96 (v : mE) (d : Nat) (r45 : Nat → Int32 → Int32 → Int32 → Int32 → mM Int32) (h45 : ∀ (y0 : Nat) (y1 : Int32) (y2 : Int32) (y3 : Int32) (y4 : Int32), Rz v RX8 cX8_best 5 (some .int) false emI (d + 5) 45 [(0, vR y0), (1, vI y1), (2, vI y2), (3, vI y3), (4, vI y4)] [] (r45 y0 y1 y2 y3 y4)) (l0 : Nat) (l1 : Int32) (l3 : Int32) (l4 : Int32) : Rz v RX8 cX8_best 5 (some .int) false emI (d + 5) 96 [(0, vR l0), (1, vI l1), (3, vI l3), (4, vI l4)] [] (fX8_best_96 r45 l0 l1 l3 l4) := by
  unfold fX8_best_96
  refine rz_iload 98 3 dX8_best_96 rfl rfl ?_
  refine rz_istore_n (lv' := [(2, vI l4), (0, vR l0), (1, vI l1), (3, vI l3), (4, vI l4)]) 99 dX8_best_98 rfl rfl rfl ?_
  refine rz_iinc (lv' := [(4, vI (l4 + 1)), (2, vI l4), (0, vR l0), (1, vI l1), (3, vI l3)]) 102 4 dX8_best_99 rfl rfl (cn_1 _) rfl rfl ?_
  refine rz_goto 45 dX8_best_102 rfl ?_
  exact rz_sub [2, 3, 1, 4, 0] rfl (h45 l0 l1 l4 l3 (l4 + 1))
def fX8_best_45 : Nat → Nat → Int32 → Int32 → Int32 → Int32 → mM Int32
  | 0 => fun _ _ _ _ _ => fun _ => none
  | n + 1 => fun l0 l1 l2 l3 l4 => let r45 := fX8_best_45 n; bIf ((12 : Int32) ≤ l4) (fX8_best_105 l0 l2) (bGR 8 l0 3 (fun x1 => bCallV 7 x1 (fX7_servesFrom x1 l4 l1 l3) (fun x2 => bIf (x2 = 0) (r45 l0 l1 l2 l3 (l4 + 1)) (bIf (l2 = (-1 : Int32)) (fX8_best_96 r45 l0 l1 l3 l4) (bGR 8 l0 3 (fun x3 => bGR 7 x3 10 (fun x4 => bAR 14 x4 l4 (fun x5 => bGR 8 l0 3 (fun x6 => bGR 7 x6 10 (fun x7 => bAR 14 x7 l2 (fun x8 => bCallV 3 x5 (fX3_isSaferThan x5 x8) (fun x9 => bIf (x9 = 0) (r45 l0 l1 l2 l3 (l4 + 1)) (fX8_best_96 r45 l0 l1 l3 l4)))))))))))))
theorem qX8_best_45  (n : Nat) (l0 : Nat) (l1 : Int32) (l2 : Int32) (l3 : Int32) (l4 : Int32) : fX8_best_45 (n + 1) l0 l1 l2 l3 l4 = bIf ((12 : Int32) ≤ l4) (fX8_best_105 l0 l2) (bGR 8 l0 3 (fun x1 => bCallV 7 x1 (fX7_servesFrom x1 l4 l1 l3) (fun x2 => bIf (x2 = 0) ((fX8_best_45 n) l0 l1 l2 l3 (l4 + 1)) (bIf (l2 = (-1 : Int32)) (fX8_best_96 (fX8_best_45 n) l0 l1 l3 l4) (bGR 8 l0 3 (fun x3 => bGR 7 x3 10 (fun x4 => bAR 14 x4 l4 (fun x5 => bGR 8 l0 3 (fun x6 => bGR 7 x6 10 (fun x7 => bAR 14 x7 l2 (fun x8 => bCallV 3 x5 (fX3_isSaferThan x5 x8) (fun x9 => bIf (x9 = 0) ((fX8_best_45 n) l0 l1 l2 l3 (l4 + 1)) (fX8_best_96 (fX8_best_45 n) l0 l1 l3 l4))))))))))))) := rfl
set_option maxRecDepth 20000 in
theorem rX8_best_45 (v : mE) (d : Nat) : ∀ (n : Nat) (l0 : Nat) (l1 : Int32) (l2 : Int32) (l3 : Int32) (l4 : Int32), Rz v RX8 cX8_best 5 (some .int) false emI (d + 5) 45 [(0, vR l0), (1, vI l1), (2, vI l2), (3, vI l3), (4, vI l4)] [] (fX8_best_45 n l0 l1 l2 l3 l4)
  | 0, _, _, _, _, _ => fun _ _ _ hm => by cases hm
  | n + 1, l0, l1, l2, l3, l4 => by
    have h45 := rX8_best_45 v d n
    unfold fX8_best_45
    generalize fX8_best_45 n = r45 at h45 ⊢
    refine rz_iload 47 4 dX8_best_45 rfl rfl ?_
    refine rz_bipush 49 dX8_best_47 rfl cb_12 ?_
    refine rz_icmp_ge 105 52 dX8_best_49 rfl rfl ?_ ?_
    · exact rz_sub [0, 2] rfl (rX8_best_105 v d l0 l2)
    · refine rz_aload_n 53 0 dX8_best_52 rfl rfl ?_
      refine rz_gR 56 dX8_best_53 rfl rfl fl_X8_26 (fun x1 => ?_)
      refine rz_iload 58 4 dX8_best_56 rfl rfl ?_
      refine rz_iload_n 59 1 dX8_best_58 rfl rfl ?_
      refine rz_iload_n 60 3 dX8_best_59 rfl rfl ?_
      refine rz_callV 63 dX8_best_60 rfl (tX7_servesFrom v (d + 2) x1 l4 l1 l3) rfl rfl rfl rfl ml_X8_361 im_X7_servesFrom se_X7_X7_servesFrom in_X7 co_X7_servesFrom rfl rfl (fun x2 => ?_)
      refine rz_if_eq 99 66 dX8_best_63 rfl rfl ?_ ?_
      · refine rz_iinc (lv' := [(4, vI (l4 + 1)), (0, vR l0), (1, vI l1), (2, vI l2), (3, vI l3)]) 102 4 dX8_best_99 rfl rfl (cn_1 _) rfl rfl ?_
        refine rz_goto 45 dX8_best_102 rfl ?_
        exact rz_sub [1, 2, 3, 4, 0] rfl (h45 l0 l1 l2 l3 (l4 + 1))
      · refine rz_iload_n 67 2 dX8_best_66 rfl rfl ?_
        refine rz_iconst 68 dX8_best_67 rfl ci_m1 ?_
        refine rz_icmp_eq 96 71 dX8_best_68 rfl rfl ?_ ?_
        · exact rz_sub [0, 1, 3, 4] rfl (rX8_best_96 v d r45 h45 l0 l1 l3 l4)
        · refine rz_aload_n 72 0 dX8_best_71 rfl rfl ?_
          refine rz_gR 75 dX8_best_72 rfl rfl fl_X8_26 (fun x3 => ?_)
          refine rz_gR 78 dX8_best_75 rfl rfl fl_X8_235 (fun x4 => ?_)
          refine rz_iload 80 4 dX8_best_78 rfl rfl ?_
          refine rz_aald 81 dX8_best_80 rfl (by decide) (fun x5 => ?_)
          refine rz_aload_n 82 0 dX8_best_81 rfl rfl ?_
          refine rz_gR 85 dX8_best_82 rfl rfl fl_X8_26 (fun x6 => ?_)
          refine rz_gR 88 dX8_best_85 rfl rfl fl_X8_235 (fun x7 => ?_)
          refine rz_iload_n 89 2 dX8_best_88 rfl rfl ?_
          refine rz_aald 90 dX8_best_89 rfl (by decide) (fun x8 => ?_)
          refine rz_callV 93 dX8_best_90 rfl (tX3_isSaferThan v (d + 2) x5 x8) rfl rfl rfl rfl ml_X8_365 im_X3_isSaferThan se_X3_X3_isSaferThan in_X3 co_X3_isSaferThan rfl rfl (fun x9 => ?_)
          refine rz_if_eq 99 96 dX8_best_93 rfl rfl ?_ ?_
          · refine rz_iinc (lv' := [(4, vI (l4 + 1)), (0, vR l0), (1, vI l1), (2, vI l2), (3, vI l3)]) 102 4 dX8_best_99 rfl rfl (cn_1 _) rfl rfl ?_
            refine rz_goto 45 dX8_best_102 rfl ?_
            exact rz_sub [1, 2, 3, 4, 0] rfl (h45 l0 l1 l2 l3 (l4 + 1))
          · exact rz_sub [0, 1, 3, 4] rfl (rX8_best_96 v d r45 h45 l0 l1 l3 l4)
def fX8_best (l0 : Nat) (l1 : Int32) : mM Int32 := bCallV 8 l0 (fX8_isPerson l0 l1) (fun x1 => bIf (x1 = 0) (bCallV 8 l0 (fX8_none l0 (2 : Int32)) (fun x7 => bRet x7)) (bGR 8 l0 3 (fun x2 => bCallV 7 x2 (fX7_isDrinking x2 l1) (fun x3 => bIf (x3 = 0) (bCallV 8 l0 (fX8_none l0 (8 : Int32)) (fun x6 => bRet x6)) (bGR 8 l0 3 (fun x4 => bCallV 7 x4 (fX7_depthNow x4) (fun x5 => fX8_best_45 fu l0 l1 (-1 : Int32) x5 (0 : Int32))))))))
set_option maxRecDepth 20000 in
theorem rX8_best (v : mE) (d : Nat) (l0 : Nat) (l1 : Int32) : Rz v RX8 cX8_best 5 (some .int) false emI (d + 5) 0 [(0, vR l0), (1, vI l1)] [] (fX8_best l0 l1) := by
  unfold fX8_best
  refine rz_aload_n 1 0 dX8_best_0 rfl rfl ?_
  refine rz_iload_n 2 1 dX8_best_1 rfl rfl ?_
  refine rz_callV 5 dX8_best_2 rfl (tX8_isPerson v (d + 4) l0 l1) rfl rfl rfl rfl ml_X8_207 im_X8_isPerson se_X8_X8_isPerson in_X8 co_X8_isPerson rfl rfl (fun x1 => ?_)
  refine rz_if_ne 14 8 dX8_best_5 rfl rfl ?_ ?_
  · refine rz_aload_n 15 0 dX8_best_14 rfl rfl ?_
    refine rz_gR 18 dX8_best_15 rfl rfl fl_X8_26 (fun x2 => ?_)
    refine rz_iload_n 19 1 dX8_best_18 rfl rfl ?_
    refine rz_callV 22 dX8_best_19 rfl (tX7_isDrinking v (d + 0) x2 l1) rfl rfl rfl rfl ml_X8_276 im_X7_isDrinking se_X7_X7_isDrinking in_X7 co_X7_isDrinking rfl rfl (fun x3 => ?_)
    refine rz_if_ne 32 25 dX8_best_22 rfl rfl ?_ ?_
    · refine rz_iconst 33 dX8_best_32 rfl ci_m1 ?_
      refine rz_istore_n (lv' := [(2, vI (-1 : Int32)), (0, vR l0), (1, vI l1)]) 34 dX8_best_33 rfl rfl rfl ?_
      refine rz_aload_n 35 1 dX8_best_34 rfl rfl ?_
      refine rz_gR 38 dX8_best_35 rfl rfl fl_X8_26 (fun x4 => ?_)
      refine rz_callV 41 dX8_best_38 rfl (tX7_depthNow v (d + 3) x4) rfl rfl rfl rfl ml_X8_198 im_X7_depthNow se_X7_X7_depthNow in_X7 co_X7_depthNow rfl rfl (fun x5 => ?_)
      refine rz_istore_n (lv' := [(3, vI x5), (2, vI (-1 : Int32)), (0, vR l0), (1, vI l1)]) 42 dX8_best_41 rfl rfl rfl ?_
      refine rz_iconst 43 dX8_best_42 rfl ci_0 ?_
      refine rz_istore (lv' := [(4, vI (0 : Int32)), (3, vI x5), (2, vI (-1 : Int32)), (0, vR l0), (1, vI l1)]) 45 dX8_best_43 rfl rfl rfl ?_
      exact rz_sub [3, 4, 2, 1, 0] rfl (rX8_best_45 v d fu l0 l1 (-1 : Int32) x5 (0 : Int32))
    · refine rz_aload_n 26 0 dX8_best_25 rfl rfl ?_
      refine rz_bipush 28 dX8_best_26 rfl cb_8 ?_
      refine rz_callV 31 dX8_best_28 rfl (tX8_none v (d + 4) l0 (8 : Int32)) rfl rfl rfl rfl ml_X8_114 im_X8_none se_X8_X8_none in_X8 co_X8_none rfl rfl (fun x6 => ?_)
      exact rz_ireturn rfl rfl dX8_best_31
  · refine rz_aload_n 9 0 dX8_best_8 rfl rfl ?_
    refine rz_iconst 10 dX8_best_9 rfl ci_2 ?_
    refine rz_callV 13 dX8_best_10 rfl (tX8_none v (d + 4) l0 (2 : Int32)) rfl rfl rfl rfl ml_X8_114 im_X8_none se_X8_X8_none in_X8 co_X8_none rfl rfl (fun x7 => ?_)
    exact rz_ireturn rfl rfl dX8_best_13
theorem tX8_best (v : mE) (d : Nat) (l0 : Nat) (l1 : Int32) : Mt v yX8_best cX8_best 5 (some .int) emI (d + 5) [vR l0, vI l1] (fX8_best l0 l1) := mt_of rfl rfl (fun h => by cases h) rfl rfl (rX8_best v d l0 l1)
theorem dX8_drawing_0 : decode cX8_drawing 0 = .ok (.aload_n 0, 1) := by decide +kernel
theorem dX8_drawing_1 : decode cX8_drawing 1 = .ok (.iload_n 1, 1) := by decide +kernel
theorem dX8_drawing_2 : decode cX8_drawing 2 = .ok (.invokevirtual 207, 3) := by decide +kernel
theorem dX8_drawing_5 : decode cX8_drawing 5 = .ok (.ifCond .ne 9, 3) := by decide +kernel
theorem dX8_drawing_8 : decode cX8_drawing 8 = .ok (.aload_n 0, 1) := by decide +kernel
theorem dX8_drawing_9 : decode cX8_drawing 9 = .ok (.iconst 2, 1) := by decide +kernel
theorem dX8_drawing_10 : decode cX8_drawing 10 = .ok (.invokevirtual 114, 3) := by decide +kernel
theorem dX8_drawing_13 : decode cX8_drawing 13 = .ok (.ireturn, 1) := by decide +kernel
theorem dX8_drawing_14 : decode cX8_drawing 14 = .ok (.aload_n 0, 1) := by decide +kernel
theorem dX8_drawing_15 : decode cX8_drawing 15 = .ok (.getfield 26, 3) := by decide +kernel
theorem dX8_drawing_18 : decode cX8_drawing 18 = .ok (.iload_n 1, 1) := by decide +kernel
theorem dX8_drawing_19 : decode cX8_drawing 19 = .ok (.invokevirtual 369, 3) := by decide +kernel
theorem dX8_drawing_22 : decode cX8_drawing 22 = .ok (.istore_n 2, 1) := by decide +kernel
theorem dX8_drawing_23 : decode cX8_drawing 23 = .ok (.aload_n 0, 1) := by decide +kernel
theorem dX8_drawing_24 : decode cX8_drawing 24 = .ok (.iload_n 2, 1) := by decide +kernel
theorem dX8_drawing_25 : decode cX8_drawing 25 = .ok (.iconst (-1), 1) := by decide +kernel
theorem dX8_drawing_26 : decode cX8_drawing 26 = .ok (.if_icmp .eq 7, 3) := by decide +kernel
theorem dX8_drawing_29 : decode cX8_drawing 29 = .ok (.iconst 1, 1) := by decide +kernel
theorem dX8_drawing_30 : decode cX8_drawing 30 = .ok (.goto 4, 3) := by decide +kernel
theorem dX8_drawing_33 : decode cX8_drawing 33 = .ok (.iconst 0, 1) := by decide +kernel
theorem dX8_drawing_34 : decode cX8_drawing 34 = .ok (.iload_n 2, 1) := by decide +kernel
theorem dX8_drawing_35 : decode cX8_drawing 35 = .ok (.invokevirtual 213, 3) := by decide +kernel
theorem dX8_drawing_38 : decode cX8_drawing 38 = .ok (.ireturn, 1) := by decide +kernel
def fX8_drawing_34 (l2 : Int32) (s0 : Int32) (s1 : Nat) : mM Int32 := bCallV 8 s1 (fX8_tellIf s1 s0 l2) (fun x1 => bRet x1)
set_option maxRecDepth 20000 in
theorem rX8_drawing_34 (v : mE) (d : Nat) (l2 : Int32) (s0 : Int32) (s1 : Nat) : Rz v RX8 cX8_drawing 3 (some .int) false emI (d + 6) 34 [(2, vI l2)] [vI s0, vR s1] (fX8_drawing_34 l2 s0 s1) := by
  unfold fX8_drawing_34
  refine rz_iload_n 35 0 dX8_drawing_34 rfl rfl ?_
  refine rz_callV 38 dX8_drawing_35 rfl (tX8_tellIf v (d + 4) s1 s0 l2) rfl rfl rfl rfl ml_X8_213 im_X8_tellIf se_X8_X8_tellIf in_X8 co_X8_tellIf rfl rfl (fun x1 => ?_)
  exact rz_ireturn rfl rfl dX8_drawing_38
def fX8_drawing (l0 : Nat) (l1 : Int32) : mM Int32 := bCallV 8 l0 (fX8_isPerson l0 l1) (fun x1 => bIf (x1 = 0) (bCallV 8 l0 (fX8_none l0 (2 : Int32)) (fun x4 => bRet x4)) (bGR 8 l0 3 (fun x2 => bCallV 7 x2 (fX7_minutesOf x2 l1) (fun x3 => bIf (x3 = (-1 : Int32)) (fX8_drawing_34 x3 (0 : Int32) l0) (fX8_drawing_34 x3 (1 : Int32) l0)))))
set_option maxRecDepth 20000 in
theorem rX8_drawing (v : mE) (d : Nat) (l0 : Nat) (l1 : Int32) : Rz v RX8 cX8_drawing 3 (some .int) false emI (d + 6) 0 [(0, vR l0), (1, vI l1)] [] (fX8_drawing l0 l1) := by
  unfold fX8_drawing
  refine rz_aload_n 1 0 dX8_drawing_0 rfl rfl ?_
  refine rz_iload_n 2 1 dX8_drawing_1 rfl rfl ?_
  refine rz_callV 5 dX8_drawing_2 rfl (tX8_isPerson v (d + 5) l0 l1) rfl rfl rfl rfl ml_X8_207 im_X8_isPerson se_X8_X8_isPerson in_X8 co_X8_isPerson rfl rfl (fun x1 => ?_)
  refine rz_if_ne 14 8 dX8_drawing_5 rfl rfl ?_ ?_
  · refine rz_aload_n 15 0 dX8_drawing_14 rfl rfl ?_
    refine rz_gR 18 dX8_drawing_15 rfl rfl fl_X8_26 (fun x2 => ?_)
    refine rz_iload_n 19 1 dX8_drawing_18 rfl rfl ?_
    refine rz_callV 22 dX8_drawing_19 rfl (tX7_minutesOf v (d + 0) x2 l1) rfl rfl rfl rfl ml_X8_369 im_X7_minutesOf se_X7_X7_minutesOf in_X7 co_X7_minutesOf rfl rfl (fun x3 => ?_)
    refine rz_istore_n (lv' := [(2, vI x3), (0, vR l0), (1, vI l1)]) 23 dX8_drawing_22 rfl rfl rfl ?_
    refine rz_aload_n 24 1 dX8_drawing_23 rfl rfl ?_
    refine rz_iload_n 25 0 dX8_drawing_24 rfl rfl ?_
    refine rz_iconst 26 dX8_drawing_25 rfl ci_m1 ?_
    refine rz_icmp_eq 33 29 dX8_drawing_26 rfl rfl ?_ ?_
    · refine rz_iconst 34 dX8_drawing_33 rfl ci_0 ?_
      exact rz_sub [0] rfl (rX8_drawing_34 v d x3 (0 : Int32) l0)
    · refine rz_iconst 30 dX8_drawing_29 rfl ci_1 ?_
      refine rz_goto 34 dX8_drawing_30 rfl ?_
      exact rz_sub [0] rfl (rX8_drawing_34 v d x3 (1 : Int32) l0)
  · refine rz_aload_n 9 0 dX8_drawing_8 rfl rfl ?_
    refine rz_iconst 10 dX8_drawing_9 rfl ci_2 ?_
    refine rz_callV 13 dX8_drawing_10 rfl (tX8_none v (d + 5) l0 (2 : Int32)) rfl rfl rfl rfl ml_X8_114 im_X8_none se_X8_X8_none in_X8 co_X8_none rfl rfl (fun x4 => ?_)
    exact rz_ireturn rfl rfl dX8_drawing_13
theorem tX8_drawing (v : mE) (d : Nat) (l0 : Nat) (l1 : Int32) : Mt v yX8_drawing cX8_drawing 3 (some .int) emI (d + 6) [vR l0, vI l1] (fX8_drawing l0 l1) := mt_of rfl rfl (fun h => by cases h) rfl rfl (rX8_drawing v d l0 l1)
theorem dX8_rowStatus_0 : decode cX8_rowStatus 0 = .ok (.aload_n 0, 1) := by decide +kernel
theorem dX8_rowStatus_1 : decode cX8_rowStatus 1 = .ok (.iload_n 1, 1) := by decide +kernel
theorem dX8_rowStatus_2 : decode cX8_rowStatus 2 = .ok (.invokevirtual 91, 3) := by decide +kernel
theorem dX8_rowStatus_5 : decode cX8_rowStatus 5 = .ok (.ifCond .ne 5, 3) := by decide +kernel
theorem dX8_rowStatus_8 : decode cX8_rowStatus 8 = .ok (.iconst 1, 1) := by decide +kernel
theorem dX8_rowStatus_9 : decode cX8_rowStatus 9 = .ok (.ireturn, 1) := by decide +kernel
theorem dX8_rowStatus_10 : decode cX8_rowStatus 10 = .ok (.aload_n 0, 1) := by decide +kernel
theorem dX8_rowStatus_11 : decode cX8_rowStatus 11 = .ok (.getfield 11, 3) := by decide +kernel
theorem dX8_rowStatus_14 : decode cX8_rowStatus 14 = .ok (.iload_n 1, 1) := by decide +kernel
theorem dX8_rowStatus_15 : decode cX8_rowStatus 15 = .ok (.aaload, 1) := by decide +kernel
theorem dX8_rowStatus_16 : decode cX8_rowStatus 16 = .ok (.astore_n 3, 1) := by decide +kernel
theorem dX8_rowStatus_17 : decode cX8_rowStatus 17 = .ok (.aload_n 3, 1) := by decide +kernel
theorem dX8_rowStatus_18 : decode cX8_rowStatus 18 = .ok (.invokevirtual 132, 3) := by decide +kernel
theorem dX8_rowStatus_21 : decode cX8_rowStatus 21 = .ok (.ifCond .eq 5, 3) := by decide +kernel
theorem dX8_rowStatus_24 : decode cX8_rowStatus 24 = .ok (.iconst 3, 1) := by decide +kernel
theorem dX8_rowStatus_25 : decode cX8_rowStatus 25 = .ok (.ireturn, 1) := by decide +kernel
theorem dX8_rowStatus_26 : decode cX8_rowStatus 26 = .ok (.iload_n 2, 1) := by decide +kernel
theorem dX8_rowStatus_27 : decode cX8_rowStatus 27 = .ok (.aload_n 3, 1) := by decide +kernel
theorem dX8_rowStatus_28 : decode cX8_rowStatus 28 = .ok (.getfield 135, 3) := by decide +kernel
theorem dX8_rowStatus_31 : decode cX8_rowStatus 31 = .ok (.if_icmp .le 5, 3) := by decide +kernel
theorem dX8_rowStatus_34 : decode cX8_rowStatus 34 = .ok (.iconst 4, 1) := by decide +kernel
theorem dX8_rowStatus_35 : decode cX8_rowStatus 35 = .ok (.ireturn, 1) := by decide +kernel
theorem dX8_rowStatus_36 : decode cX8_rowStatus 36 = .ok (.iload_n 2, 1) := by decide +kernel
theorem dX8_rowStatus_37 : decode cX8_rowStatus 37 = .ok (.iconst 1, 1) := by decide +kernel
theorem dX8_rowStatus_38 : decode cX8_rowStatus 38 = .ok (.if_icmp .lt 9, 3) := by decide +kernel
theorem dX8_rowStatus_41 : decode cX8_rowStatus 41 = .ok (.iload_n 2, 1) := by decide +kernel
theorem dX8_rowStatus_42 : decode cX8_rowStatus 42 = .ok (.bipush 8, 2) := by decide +kernel
theorem dX8_rowStatus_44 : decode cX8_rowStatus 44 = .ok (.if_icmp .le 5, 3) := by decide +kernel
theorem dX8_rowStatus_47 : decode cX8_rowStatus 47 = .ok (.iconst 5, 1) := by decide +kernel
theorem dX8_rowStatus_48 : decode cX8_rowStatus 48 = .ok (.ireturn, 1) := by decide +kernel
theorem dX8_rowStatus_49 : decode cX8_rowStatus 49 = .ok (.iconst 0, 1) := by decide +kernel
theorem dX8_rowStatus_50 : decode cX8_rowStatus 50 = .ok (.istore 4, 2) := by decide +kernel
theorem dX8_rowStatus_52 : decode cX8_rowStatus 52 = .ok (.iconst 0, 1) := by decide +kernel
theorem dX8_rowStatus_53 : decode cX8_rowStatus 53 = .ok (.istore 5, 2) := by decide +kernel
theorem dX8_rowStatus_55 : decode cX8_rowStatus 55 = .ok (.iload 5, 2) := by decide +kernel
theorem dX8_rowStatus_57 : decode cX8_rowStatus 57 = .ok (.iload_n 2, 1) := by decide +kernel
theorem dX8_rowStatus_58 : decode cX8_rowStatus 58 = .ok (.if_icmp .ge 63, 3) := by decide +kernel
theorem dX8_rowStatus_61 : decode cX8_rowStatus 61 = .ok (.aload_n 3, 1) := by decide +kernel
theorem dX8_rowStatus_62 : decode cX8_rowStatus 62 = .ok (.getfield 118, 3) := by decide +kernel
theorem dX8_rowStatus_65 : decode cX8_rowStatus 65 = .ok (.iload 5, 2) := by decide +kernel
theorem dX8_rowStatus_67 : decode cX8_rowStatus 67 = .ok (.laload, 1) := by decide +kernel
theorem dX8_rowStatus_68 : decode cX8_rowStatus 68 = .ok (.lstore 6, 2) := by decide +kernel
theorem dX8_rowStatus_70 : decode cX8_rowStatus 70 = .ok (.lload 6, 2) := by decide +kernel
theorem dX8_rowStatus_72 : decode cX8_rowStatus 72 = .ok (.lconst 0, 1) := by decide +kernel
theorem dX8_rowStatus_73 : decode cX8_rowStatus 73 = .ok (.lcmp, 1) := by decide +kernel
theorem dX8_rowStatus_74 : decode cX8_rowStatus 74 = .ok (.ifCond .lt 29, 3) := by decide +kernel
theorem dX8_rowStatus_77 : decode cX8_rowStatus 77 = .ok (.lload 6, 2) := by decide +kernel
theorem dX8_rowStatus_79 : decode cX8_rowStatus 79 = .ok (.aload_n 0, 1) := by decide +kernel
theorem dX8_rowStatus_80 : decode cX8_rowStatus 80 = .ok (.getfield 26, 3) := by decide +kernel
theorem dX8_rowStatus_83 : decode cX8_rowStatus 83 = .ok (.getfield 163, 3) := by decide +kernel
theorem dX8_rowStatus_86 : decode cX8_rowStatus 86 = .ok (.i2l, 1) := by decide +kernel
theorem dX8_rowStatus_87 : decode cX8_rowStatus 87 = .ok (.lcmp, 1) := by decide +kernel
theorem dX8_rowStatus_88 : decode cX8_rowStatus 88 = .ok (.ifCond .ge 15, 3) := by decide +kernel
theorem dX8_rowStatus_91 : decode cX8_rowStatus 91 = .ok (.iload 4, 2) := by decide +kernel
theorem dX8_rowStatus_93 : decode cX8_rowStatus 93 = .ok (.lload 6, 2) := by decide +kernel
theorem dX8_rowStatus_95 : decode cX8_rowStatus 95 = .ok (.l2i, 1) := by decide +kernel
theorem dX8_rowStatus_96 : decode cX8_rowStatus 96 = .ok (.ishr, 1) := by decide +kernel
theorem dX8_rowStatus_97 : decode cX8_rowStatus 97 = .ok (.iconst 1, 1) := by decide +kernel
theorem dX8_rowStatus_98 : decode cX8_rowStatus 98 = .ok (.iand, 1) := by decide +kernel
theorem dX8_rowStatus_99 : decode cX8_rowStatus 99 = .ok (.iconst 1, 1) := by decide +kernel
theorem dX8_rowStatus_100 : decode cX8_rowStatus 100 = .ok (.if_icmp .ne 5, 3) := by decide +kernel
theorem dX8_rowStatus_103 : decode cX8_rowStatus 103 = .ok (.iconst 5, 1) := by decide +kernel
theorem dX8_rowStatus_104 : decode cX8_rowStatus 104 = .ok (.ireturn, 1) := by decide +kernel
theorem dX8_rowStatus_105 : decode cX8_rowStatus 105 = .ok (.iload 4, 2) := by decide +kernel
theorem dX8_rowStatus_107 : decode cX8_rowStatus 107 = .ok (.iconst 1, 1) := by decide +kernel
theorem dX8_rowStatus_108 : decode cX8_rowStatus 108 = .ok (.lload 6, 2) := by decide +kernel
theorem dX8_rowStatus_110 : decode cX8_rowStatus 110 = .ok (.l2i, 1) := by decide +kernel
theorem dX8_rowStatus_111 : decode cX8_rowStatus 111 = .ok (.ishl, 1) := by decide +kernel
theorem dX8_rowStatus_112 : decode cX8_rowStatus 112 = .ok (.ior, 1) := by decide +kernel
theorem dX8_rowStatus_113 : decode cX8_rowStatus 113 = .ok (.istore 4, 2) := by decide +kernel
theorem dX8_rowStatus_115 : decode cX8_rowStatus 115 = .ok (.iinc 5 1, 3) := by decide +kernel
theorem dX8_rowStatus_118 : decode cX8_rowStatus 118 = .ok (.goto (-63), 3) := by decide +kernel
theorem dX8_rowStatus_121 : decode cX8_rowStatus 121 = .ok (.iconst 0, 1) := by decide +kernel
theorem dX8_rowStatus_122 : decode cX8_rowStatus 122 = .ok (.ireturn, 1) := by decide +kernel
def fX8_rowStatus_55 : Nat → Nat → Int32 → Nat → Int32 → Int32 → mM Int32
  | 0 => fun _ _ _ _ _ => fun _ => none
  | n + 1 => fun l0 l2 l3 l4 l5 => let r55 := fX8_rowStatus_55 n; bIf (l2 ≤ l5) (bRet (0 : Int32)) (bGR 5 l3 0 (fun x1 => bAL x1 l5 (fun x2 => bIf ((lg_cmp x2 (0 : Int64)) < 0) (bRet (5 : Int32)) (bGR 8 l0 3 (fun x3 => bGI 7 x3 7 (fun x4 => bIf (0 ≤ (lg_cmp x2 (Int32.toInt64 x4))) (bRet (5 : Int32)) (bIf (((l4 >>> ((Int64.toInt32 x2) &&& 31)) &&& (1 : Int32)) = (1 : Int32)) (bRet (5 : Int32)) (r55 l0 l2 l3 (l4 ||| ((1 : Int32) <<< ((Int64.toInt32 x2) &&& 31))) (l5 + 1)))))))))
theorem qX8_rowStatus_55  (n : Nat) (l0 : Nat) (l2 : Int32) (l3 : Nat) (l4 : Int32) (l5 : Int32) : fX8_rowStatus_55 (n + 1) l0 l2 l3 l4 l5 = bIf (l2 ≤ l5) (bRet (0 : Int32)) (bGR 5 l3 0 (fun x1 => bAL x1 l5 (fun x2 => bIf ((lg_cmp x2 (0 : Int64)) < 0) (bRet (5 : Int32)) (bGR 8 l0 3 (fun x3 => bGI 7 x3 7 (fun x4 => bIf (0 ≤ (lg_cmp x2 (Int32.toInt64 x4))) (bRet (5 : Int32)) (bIf (((l4 >>> ((Int64.toInt32 x2) &&& 31)) &&& (1 : Int32)) = (1 : Int32)) (bRet (5 : Int32)) ((fX8_rowStatus_55 n) l0 l2 l3 (l4 ||| ((1 : Int32) <<< ((Int64.toInt32 x2) &&& 31))) (l5 + 1))))))))) := rfl
set_option maxRecDepth 20000 in
theorem rX8_rowStatus_55 (v : mE) (d : Nat) : ∀ (n : Nat) (l0 : Nat) (l2 : Int32) (l3 : Nat) (l4 : Int32) (l5 : Int32), Rz v RX8 cX8_rowStatus 8 (some .int) false emI (d + 1) 55 [(0, vR l0), (2, vI l2), (3, vR l3), (4, vI l4), (5, vI l5)] [] (fX8_rowStatus_55 n l0 l2 l3 l4 l5)
  | 0, _, _, _, _, _ => fun _ _ _ hm => by cases hm
  | n + 1, l0, l2, l3, l4, l5 => by
    have h55 := rX8_rowStatus_55 v d n
    unfold fX8_rowStatus_55
    generalize fX8_rowStatus_55 n = r55 at h55 ⊢
    refine rz_iload 57 4 dX8_rowStatus_55 rfl rfl ?_
    refine rz_iload_n 58 1 dX8_rowStatus_57 rfl rfl ?_
    refine rz_icmp_ge 121 61 dX8_rowStatus_58 rfl rfl ?_ ?_
    · refine rz_iconst 122 dX8_rowStatus_121 rfl ci_0 ?_
      exact rz_ireturn rfl rfl dX8_rowStatus_122
    · refine rz_aload_n 62 2 dX8_rowStatus_61 rfl rfl ?_
      refine rz_gR 65 dX8_rowStatus_62 rfl rfl fl_X8_118 (fun x1 => ?_)
      refine rz_iload 67 4 dX8_rowStatus_65 rfl rfl ?_
      refine rz_lald 68 dX8_rowStatus_67 rfl (fun x2 => ?_)
      refine rz_lstore (lv' := [(6, vL x2), (0, vR l0), (2, vI l2), (3, vR l3), (4, vI l4), (5, vI l5)]) 70 dX8_rowStatus_68 rfl rfl rfl ?_
      refine rz_lload 72 0 dX8_rowStatus_70 rfl rfl ?_
      refine rz_lconst 73 dX8_rowStatus_72 rfl cl_0 ?_
      refine rz_lcmp 74 dX8_rowStatus_73 rfl ?_
      refine rz_if_lt 103 77 dX8_rowStatus_74 rfl rfl ?_ ?_
      · refine rz_iconst 104 dX8_rowStatus_103 rfl ci_5 ?_
        exact rz_ireturn rfl rfl dX8_rowStatus_104
      · refine rz_lload 79 0 dX8_rowStatus_77 rfl rfl ?_
        refine rz_aload_n 80 1 dX8_rowStatus_79 rfl rfl ?_
        refine rz_gR 83 dX8_rowStatus_80 rfl rfl fl_X8_26 (fun x3 => ?_)
        refine rz_gI 86 dX8_rowStatus_83 rfl rfl fl_X8_163 (fun x4 => ?_)
        refine rz_i2l 87 dX8_rowStatus_86 rfl ?_
        refine rz_lcmp 88 dX8_rowStatus_87 rfl ?_
        refine rz_if_ge 103 91 dX8_rowStatus_88 rfl rfl ?_ ?_
        · refine rz_iconst 104 dX8_rowStatus_103 rfl ci_5 ?_
          exact rz_ireturn rfl rfl dX8_rowStatus_104
        · refine rz_iload 93 4 dX8_rowStatus_91 rfl rfl ?_
          refine rz_lload 95 0 dX8_rowStatus_93 rfl rfl ?_
          refine rz_l2i 96 dX8_rowStatus_95 rfl ?_
          refine rz_ishr 97 dX8_rowStatus_96 rfl ?_
          refine rz_iconst 98 dX8_rowStatus_97 rfl ci_1 ?_
          refine rz_iand 99 dX8_rowStatus_98 rfl ?_
          refine rz_iconst 100 dX8_rowStatus_99 rfl ci_1 ?_
          refine rz_icmp_ne 105 103 dX8_rowStatus_100 rfl rfl ?_ ?_
          · refine rz_iload 107 4 dX8_rowStatus_105 rfl rfl ?_
            refine rz_iconst 108 dX8_rowStatus_107 rfl ci_1 ?_
            refine rz_lload 110 0 dX8_rowStatus_108 rfl rfl ?_
            refine rz_l2i 111 dX8_rowStatus_110 rfl ?_
            refine rz_ishl 112 dX8_rowStatus_111 rfl ?_
            refine rz_ior 113 dX8_rowStatus_112 rfl ?_
            refine rz_istore (lv' := [(4, vI (l4 ||| ((1 : Int32) <<< ((Int64.toInt32 x2) &&& 31)))), (6, vL x2), (0, vR l0), (2, vI l2), (3, vR l3), (5, vI l5)]) 115 dX8_rowStatus_113 rfl rfl rfl ?_
            refine rz_iinc (lv' := [(5, vI (l5 + 1)), (4, vI (l4 ||| ((1 : Int32) <<< ((Int64.toInt32 x2) &&& 31)))), (6, vL x2), (0, vR l0), (2, vI l2), (3, vR l3)]) 118 5 dX8_rowStatus_115 rfl rfl (cn_1 _) rfl rfl ?_
            refine rz_goto 55 dX8_rowStatus_118 rfl ?_
            exact rz_sub [3, 4, 5, 1, 0] rfl (h55 l0 l2 l3 (l4 ||| ((1 : Int32) <<< ((Int64.toInt32 x2) &&& 31))) (l5 + 1))
          · refine rz_iconst 104 dX8_rowStatus_103 rfl ci_5 ?_
            exact rz_ireturn rfl rfl dX8_rowStatus_104
def fX8_rowStatus (l0 : Nat) (l1 : Int32) (l2 : Int32) : mM Int32 := bCallV 8 l0 (fX8_isTray l0 l1) (fun x1 => bIf (x1 = 0) (bRet (1 : Int32)) (bGR 8 l0 0 (fun x2 => bAR 15 x2 l1 (fun x3 => bCallV 5 x3 (fX5_isMissing x3) (fun x4 => bIf (x4 = 0) (bGI 5 x3 2 (fun x5 => bIf (l2 ≤ x5) (bIf (l2 < (1 : Int32)) (bRet (5 : Int32)) (bIf (l2 ≤ (8 : Int32)) (fX8_rowStatus_55 fu l0 l2 x3 (0 : Int32) (0 : Int32)) (bRet (5 : Int32)))) (bRet (4 : Int32)))) (bRet (3 : Int32)))))))
set_option maxRecDepth 20000 in
theorem rX8_rowStatus (v : mE) (d : Nat) (l0 : Nat) (l1 : Int32) (l2 : Int32) : Rz v RX8 cX8_rowStatus 8 (some .int) false emI (d + 1) 0 [(0, vR l0), (1, vI l1), (2, vI l2)] [] (fX8_rowStatus l0 l1 l2) := by
  unfold fX8_rowStatus
  refine rz_aload_n 1 0 dX8_rowStatus_0 rfl rfl ?_
  refine rz_iload_n 2 1 dX8_rowStatus_1 rfl rfl ?_
  refine rz_callV 5 dX8_rowStatus_2 rfl (tX8_isTray v (d + 0) l0 l1) rfl rfl rfl rfl ml_X8_91 im_X8_isTray se_X8_X8_isTray in_X8 co_X8_isTray rfl rfl (fun x1 => ?_)
  refine rz_if_ne 10 8 dX8_rowStatus_5 rfl rfl ?_ ?_
  · refine rz_aload_n 11 0 dX8_rowStatus_10 rfl rfl ?_
    refine rz_gR 14 dX8_rowStatus_11 rfl rfl fl_X8_11 (fun x2 => ?_)
    refine rz_iload_n 15 1 dX8_rowStatus_14 rfl rfl ?_
    refine rz_aald 16 dX8_rowStatus_15 rfl (by decide) (fun x3 => ?_)
    refine rz_astore_n (lv' := [(3, vR x3), (0, vR l0), (1, vI l1), (2, vI l2)]) 17 dX8_rowStatus_16 rfl rfl rfl ?_
    refine rz_aload_n 18 0 dX8_rowStatus_17 rfl rfl ?_
    refine rz_callV 21 dX8_rowStatus_18 rfl (tX5_isMissing v (d + 0) x3) rfl rfl rfl rfl ml_X8_132 im_X5_isMissing se_X5_X5_isMissing in_X5 co_X5_isMissing rfl rfl (fun x4 => ?_)
    refine rz_if_eq 26 24 dX8_rowStatus_21 rfl rfl ?_ ?_
    · refine rz_iload_n 27 3 dX8_rowStatus_26 rfl rfl ?_
      refine rz_aload_n 28 0 dX8_rowStatus_27 rfl rfl ?_
      refine rz_gI 31 dX8_rowStatus_28 rfl rfl fl_X8_135 (fun x5 => ?_)
      refine rz_icmp_le 36 34 dX8_rowStatus_31 rfl rfl ?_ ?_
      · refine rz_iload_n 37 3 dX8_rowStatus_36 rfl rfl ?_
        refine rz_iconst 38 dX8_rowStatus_37 rfl ci_1 ?_
        refine rz_icmp_lt 47 41 dX8_rowStatus_38 rfl rfl ?_ ?_
        · refine rz_iconst 48 dX8_rowStatus_47 rfl ci_5 ?_
          exact rz_ireturn rfl rfl dX8_rowStatus_48
        · refine rz_iload_n 42 3 dX8_rowStatus_41 rfl rfl ?_
          refine rz_bipush 44 dX8_rowStatus_42 rfl cb_8 ?_
          refine rz_icmp_le 49 47 dX8_rowStatus_44 rfl rfl ?_ ?_
          · refine rz_iconst 50 dX8_rowStatus_49 rfl ci_0 ?_
            refine rz_istore (lv' := [(4, vI (0 : Int32)), (3, vR x3), (0, vR l0), (1, vI l1), (2, vI l2)]) 52 dX8_rowStatus_50 rfl rfl rfl ?_
            refine rz_iconst 53 dX8_rowStatus_52 rfl ci_0 ?_
            refine rz_istore (lv' := [(5, vI (0 : Int32)), (4, vI (0 : Int32)), (3, vR x3), (0, vR l0), (1, vI l1), (2, vI l2)]) 55 dX8_rowStatus_53 rfl rfl rfl ?_
            exact rz_sub [3, 5, 2, 1, 0] rfl (rX8_rowStatus_55 v d fu l0 l2 x3 (0 : Int32) (0 : Int32))
          · refine rz_iconst 48 dX8_rowStatus_47 rfl ci_5 ?_
            exact rz_ireturn rfl rfl dX8_rowStatus_48
      · refine rz_iconst 35 dX8_rowStatus_34 rfl ci_4 ?_
        exact rz_ireturn rfl rfl dX8_rowStatus_35
    · refine rz_iconst 25 dX8_rowStatus_24 rfl ci_3 ?_
      exact rz_ireturn rfl rfl dX8_rowStatus_25
  · refine rz_iconst 9 dX8_rowStatus_8 rfl ci_1 ?_
    exact rz_ireturn rfl rfl dX8_rowStatus_9
theorem tX8_rowStatus (v : mE) (d : Nat) (l0 : Nat) (l1 : Int32) (l2 : Int32) : Mt v yX8_rowStatus cX8_rowStatus 8 (some .int) emI (d + 1) [vR l0, vI l1, vI l2] (fX8_rowStatus l0 l1 l2) := mt_of rfl rfl (fun h => by cases h) rfl rfl (rX8_rowStatus v d l0 l1 l2)
theorem dX8_queueStatus_0 : decode cX8_queueStatus 0 = .ok (.aload_n 0, 1) := by decide +kernel
theorem dX8_queueStatus_1 : decode cX8_queueStatus 1 = .ok (.iload_n 1, 1) := by decide +kernel
theorem dX8_queueStatus_2 : decode cX8_queueStatus 2 = .ok (.iload_n 2, 1) := by decide +kernel
theorem dX8_queueStatus_3 : decode cX8_queueStatus 3 = .ok (.invokevirtual 381, 3) := by decide +kernel
theorem dX8_queueStatus_6 : decode cX8_queueStatus 6 = .ok (.istore_n 3, 1) := by decide +kernel
theorem dX8_queueStatus_7 : decode cX8_queueStatus 7 = .ok (.iload_n 3, 1) := by decide +kernel
theorem dX8_queueStatus_8 : decode cX8_queueStatus 8 = .ok (.ifCond .eq 5, 3) := by decide +kernel
theorem dX8_queueStatus_11 : decode cX8_queueStatus 11 = .ok (.iload_n 3, 1) := by decide +kernel
theorem dX8_queueStatus_12 : decode cX8_queueStatus 12 = .ok (.ireturn, 1) := by decide +kernel
theorem dX8_queueStatus_13 : decode cX8_queueStatus 13 = .ok (.iconst 0, 1) := by decide +kernel
theorem dX8_queueStatus_14 : decode cX8_queueStatus 14 = .ok (.istore 4, 2) := by decide +kernel
theorem dX8_queueStatus_16 : decode cX8_queueStatus 16 = .ok (.iload 4, 2) := by decide +kernel
theorem dX8_queueStatus_18 : decode cX8_queueStatus 18 = .ok (.iload_n 2, 1) := by decide +kernel
theorem dX8_queueStatus_19 : decode cX8_queueStatus 19 = .ok (.if_icmp .ge 50, 3) := by decide +kernel
theorem dX8_queueStatus_22 : decode cX8_queueStatus 22 = .ok (.aload_n 0, 1) := by decide +kernel
theorem dX8_queueStatus_23 : decode cX8_queueStatus 23 = .ok (.getfield 47, 3) := by decide +kernel
theorem dX8_queueStatus_26 : decode cX8_queueStatus 26 = .ok (.iload 4, 2) := by decide +kernel
theorem dX8_queueStatus_28 : decode cX8_queueStatus 28 = .ok (.aload_n 0, 1) := by decide +kernel
theorem dX8_queueStatus_29 : decode cX8_queueStatus 29 = .ok (.getfield 26, 3) := by decide +kernel
theorem dX8_queueStatus_32 : decode cX8_queueStatus 32 = .ok (.aload_n 0, 1) := by decide +kernel
theorem dX8_queueStatus_33 : decode cX8_queueStatus 33 = .ok (.getfield 11, 3) := by decide +kernel
theorem dX8_queueStatus_36 : decode cX8_queueStatus 36 = .ok (.iload_n 1, 1) := by decide +kernel
theorem dX8_queueStatus_37 : decode cX8_queueStatus 37 = .ok (.aaload, 1) := by decide +kernel
theorem dX8_queueStatus_38 : decode cX8_queueStatus 38 = .ok (.getfield 118, 3) := by decide +kernel
theorem dX8_queueStatus_41 : decode cX8_queueStatus 41 = .ok (.iload 4, 2) := by decide +kernel
theorem dX8_queueStatus_43 : decode cX8_queueStatus 43 = .ok (.laload, 1) := by decide +kernel
theorem dX8_queueStatus_44 : decode cX8_queueStatus 44 = .ok (.l2i, 1) := by decide +kernel
theorem dX8_queueStatus_45 : decode cX8_queueStatus 45 = .ok (.invokevirtual 369, 3) := by decide +kernel
theorem dX8_queueStatus_48 : decode cX8_queueStatus 48 = .ok (.iastore, 1) := by decide +kernel
theorem dX8_queueStatus_49 : decode cX8_queueStatus 49 = .ok (.aload_n 0, 1) := by decide +kernel
theorem dX8_queueStatus_50 : decode cX8_queueStatus 50 = .ok (.getfield 47, 3) := by decide +kernel
theorem dX8_queueStatus_53 : decode cX8_queueStatus 53 = .ok (.iload 4, 2) := by decide +kernel
theorem dX8_queueStatus_55 : decode cX8_queueStatus 55 = .ok (.iaload, 1) := by decide +kernel
theorem dX8_queueStatus_56 : decode cX8_queueStatus 56 = .ok (.iconst (-1), 1) := by decide +kernel
theorem dX8_queueStatus_57 : decode cX8_queueStatus 57 = .ok (.if_icmp .ne 6, 3) := by decide +kernel
theorem dX8_queueStatus_60 : decode cX8_queueStatus 60 = .ok (.bipush 9, 2) := by decide +kernel
theorem dX8_queueStatus_62 : decode cX8_queueStatus 62 = .ok (.istore_n 3, 1) := by decide +kernel
theorem dX8_queueStatus_63 : decode cX8_queueStatus 63 = .ok (.iinc 4 1, 3) := by decide +kernel
theorem dX8_queueStatus_66 : decode cX8_queueStatus 66 = .ok (.goto (-50), 3) := by decide +kernel
theorem dX8_queueStatus_69 : decode cX8_queueStatus 69 = .ok (.iload_n 3, 1) := by decide +kernel
theorem dX8_queueStatus_70 : decode cX8_queueStatus 70 = .ok (.ireturn, 1) := by decide +kernel
def fX8_queueStatus_16 : Nat → Nat → Int32 → Int32 → Int32 → Int32 → mM Int32
  | 0 => fun _ _ _ _ _ => fun _ => none
  | n + 1 => fun l0 l1 l2 l3 l4 => let r16 := fX8_queueStatus_16 n; bIf (l2 ≤ l4) (bRet l3) (bGR 8 l0 10 (fun x1 => bGR 8 l0 3 (fun x2 => bGR 8 l0 0 (fun x3 => bAR 15 x3 l1 (fun x4 => bGR 5 x4 0 (fun x5 => bAL x5 l4 (fun x6 => bCallV 7 x2 (fX7_minutesOf x2 (Int64.toInt32 x6)) (fun x7 => bSI x1 l4 x7 (bGR 8 l0 10 (fun x8 => bAI 11 x8 l4 (fun x9 => bIf (x9 = (-1 : Int32)) (r16 l0 l1 l2 (9 : Int32) (l4 + 1)) (r16 l0 l1 l2 l3 (l4 + 1)))))))))))))
theorem qX8_queueStatus_16  (n : Nat) (l0 : Nat) (l1 : Int32) (l2 : Int32) (l3 : Int32) (l4 : Int32) : fX8_queueStatus_16 (n + 1) l0 l1 l2 l3 l4 = bIf (l2 ≤ l4) (bRet l3) (bGR 8 l0 10 (fun x1 => bGR 8 l0 3 (fun x2 => bGR 8 l0 0 (fun x3 => bAR 15 x3 l1 (fun x4 => bGR 5 x4 0 (fun x5 => bAL x5 l4 (fun x6 => bCallV 7 x2 (fX7_minutesOf x2 (Int64.toInt32 x6)) (fun x7 => bSI x1 l4 x7 (bGR 8 l0 10 (fun x8 => bAI 11 x8 l4 (fun x9 => bIf (x9 = (-1 : Int32)) ((fX8_queueStatus_16 n) l0 l1 l2 (9 : Int32) (l4 + 1)) ((fX8_queueStatus_16 n) l0 l1 l2 l3 (l4 + 1))))))))))))) := rfl
set_option maxRecDepth 20000 in
theorem rX8_queueStatus_16 (v : mE) (d : Nat) : ∀ (n : Nat) (l0 : Nat) (l1 : Int32) (l2 : Int32) (l3 : Int32) (l4 : Int32), Rz v RX8 cX8_queueStatus 5 (some .int) false emI (d + 6) 16 [(0, vR l0), (1, vI l1), (2, vI l2), (3, vI l3), (4, vI l4)] [] (fX8_queueStatus_16 n l0 l1 l2 l3 l4)
  | 0, _, _, _, _, _ => fun _ _ _ hm => by cases hm
  | n + 1, l0, l1, l2, l3, l4 => by
    have h16 := rX8_queueStatus_16 v d n
    unfold fX8_queueStatus_16
    generalize fX8_queueStatus_16 n = r16 at h16 ⊢
    refine rz_iload 18 4 dX8_queueStatus_16 rfl rfl ?_
    refine rz_iload_n 19 2 dX8_queueStatus_18 rfl rfl ?_
    refine rz_icmp_ge 69 22 dX8_queueStatus_19 rfl rfl ?_ ?_
    · refine rz_iload_n 70 3 dX8_queueStatus_69 rfl rfl ?_
      exact rz_ireturn rfl rfl dX8_queueStatus_70
    · refine rz_aload_n 23 0 dX8_queueStatus_22 rfl rfl ?_
      refine rz_gR 26 dX8_queueStatus_23 rfl rfl fl_X8_47 (fun x1 => ?_)
      refine rz_iload 28 4 dX8_queueStatus_26 rfl rfl ?_
      refine rz_aload_n 29 0 dX8_queueStatus_28 rfl rfl ?_
      refine rz_gR 32 dX8_queueStatus_29 rfl rfl fl_X8_26 (fun x2 => ?_)
      refine rz_aload_n 33 0 dX8_queueStatus_32 rfl rfl ?_
      refine rz_gR 36 dX8_queueStatus_33 rfl rfl fl_X8_11 (fun x3 => ?_)
      refine rz_iload_n 37 1 dX8_queueStatus_36 rfl rfl ?_
      refine rz_aald 38 dX8_queueStatus_37 rfl (by decide) (fun x4 => ?_)
      refine rz_gR 41 dX8_queueStatus_38 rfl rfl fl_X8_118 (fun x5 => ?_)
      refine rz_iload 43 4 dX8_queueStatus_41 rfl rfl ?_
      refine rz_lald 44 dX8_queueStatus_43 rfl (fun x6 => ?_)
      refine rz_l2i 45 dX8_queueStatus_44 rfl ?_
      refine rz_callV 48 dX8_queueStatus_45 rfl (tX7_minutesOf v (d + 0) x2 (Int64.toInt32 x6)) rfl rfl rfl rfl ml_X8_369 im_X7_minutesOf se_X7_X7_minutesOf in_X7 co_X7_minutesOf rfl rfl (fun x7 => ?_)
      refine rz_iast 49 dX8_queueStatus_48 rfl ?_
      refine rz_aload_n 50 0 dX8_queueStatus_49 rfl rfl ?_
      refine rz_gR 53 dX8_queueStatus_50 rfl rfl fl_X8_47 (fun x8 => ?_)
      refine rz_iload 55 4 dX8_queueStatus_53 rfl rfl ?_
      refine rz_iald 56 dX8_queueStatus_55 rfl (fun x9 => ?_)
      refine rz_iconst 57 dX8_queueStatus_56 rfl ci_m1 ?_
      refine rz_icmp_ne 63 60 dX8_queueStatus_57 rfl rfl ?_ ?_
      · refine rz_iinc (lv' := [(4, vI (l4 + 1)), (0, vR l0), (1, vI l1), (2, vI l2), (3, vI l3)]) 66 4 dX8_queueStatus_63 rfl rfl (cn_1 _) rfl rfl ?_
        refine rz_goto 16 dX8_queueStatus_66 rfl ?_
        exact rz_sub [1, 2, 3, 4, 0] rfl (h16 l0 l1 l2 l3 (l4 + 1))
      · refine rz_bipush 62 dX8_queueStatus_60 rfl cb_9 ?_
        refine rz_istore_n (lv' := [(3, vI (9 : Int32)), (0, vR l0), (1, vI l1), (2, vI l2), (4, vI l4)]) 63 dX8_queueStatus_62 rfl rfl rfl ?_
        refine rz_iinc (lv' := [(4, vI (l4 + 1)), (3, vI (9 : Int32)), (0, vR l0), (1, vI l1), (2, vI l2)]) 66 4 dX8_queueStatus_63 rfl rfl (cn_1 _) rfl rfl ?_
        refine rz_goto 16 dX8_queueStatus_66 rfl ?_
        exact rz_sub [2, 3, 4, 1, 0] rfl (h16 l0 l1 l2 (9 : Int32) (l4 + 1))
def fX8_queueStatus (l0 : Nat) (l1 : Int32) (l2 : Int32) : mM Int32 := bCallV 8 l0 (fX8_rowStatus l0 l1 l2) (fun x1 => bIf (x1 = 0) (fX8_queueStatus_16 fu l0 l1 l2 x1 (0 : Int32)) (bRet x1))
set_option maxRecDepth 20000 in
theorem rX8_queueStatus (v : mE) (d : Nat) (l0 : Nat) (l1 : Int32) (l2 : Int32) : Rz v RX8 cX8_queueStatus 5 (some .int) false emI (d + 6) 0 [(0, vR l0), (1, vI l1), (2, vI l2)] [] (fX8_queueStatus l0 l1 l2) := by
  unfold fX8_queueStatus
  refine rz_aload_n 1 0 dX8_queueStatus_0 rfl rfl ?_
  refine rz_iload_n 2 1 dX8_queueStatus_1 rfl rfl ?_
  refine rz_iload_n 3 2 dX8_queueStatus_2 rfl rfl ?_
  refine rz_callV 6 dX8_queueStatus_3 rfl (tX8_rowStatus v (d + 4) l0 l1 l2) rfl rfl rfl rfl ml_X8_381 im_X8_rowStatus se_X8_X8_rowStatus in_X8 co_X8_rowStatus rfl rfl (fun x1 => ?_)
  refine rz_istore_n (lv' := [(3, vI x1), (0, vR l0), (1, vI l1), (2, vI l2)]) 7 dX8_queueStatus_6 rfl rfl rfl ?_
  refine rz_iload_n 8 0 dX8_queueStatus_7 rfl rfl ?_
  refine rz_if_eq 13 11 dX8_queueStatus_8 rfl rfl ?_ ?_
  · refine rz_iconst 14 dX8_queueStatus_13 rfl ci_0 ?_
    refine rz_istore (lv' := [(4, vI (0 : Int32)), (3, vI x1), (0, vR l0), (1, vI l1), (2, vI l2)]) 16 dX8_queueStatus_14 rfl rfl rfl ?_
    exact rz_sub [2, 3, 4, 1, 0] rfl (rX8_queueStatus_16 v d fu l0 l1 l2 x1 (0 : Int32))
  · refine rz_iload_n 12 0 dX8_queueStatus_11 rfl rfl ?_
    exact rz_ireturn rfl rfl dX8_queueStatus_12
theorem tX8_queueStatus (v : mE) (d : Nat) (l0 : Nat) (l1 : Int32) (l2 : Int32) : Mt v yX8_queueStatus cX8_queueStatus 5 (some .int) emI (d + 6) [vR l0, vI l1, vI l2] (fX8_queueStatus l0 l1 l2) := mt_of rfl rfl (fun h => by cases h) rfl rfl (rX8_queueStatus v d l0 l1 l2)
theorem dX8_waitTogether_0 : decode cX8_waitTogether 0 = .ok (.iconst 0, 1) := by decide +kernel
theorem dX8_waitTogether_1 : decode cX8_waitTogether 1 = .ok (.istore_n 2, 1) := by decide +kernel
theorem dX8_waitTogether_2 : decode cX8_waitTogether 2 = .ok (.iconst 0, 1) := by decide +kernel
theorem dX8_waitTogether_3 : decode cX8_waitTogether 3 = .ok (.istore_n 3, 1) := by decide +kernel
theorem dX8_waitTogether_4 : decode cX8_waitTogether 4 = .ok (.iconst 0, 1) := by decide +kernel
theorem dX8_waitTogether_5 : decode cX8_waitTogether 5 = .ok (.istore 4, 2) := by decide +kernel
theorem dX8_waitTogether_7 : decode cX8_waitTogether 7 = .ok (.iload 4, 2) := by decide +kernel
theorem dX8_waitTogether_9 : decode cX8_waitTogether 9 = .ok (.iload_n 1, 1) := by decide +kernel
theorem dX8_waitTogether_10 : decode cX8_waitTogether 10 = .ok (.if_icmp .ge 23, 3) := by decide +kernel
theorem dX8_waitTogether_13 : decode cX8_waitTogether 13 = .ok (.iload_n 3, 1) := by decide +kernel
theorem dX8_waitTogether_14 : decode cX8_waitTogether 14 = .ok (.iload_n 2, 1) := by decide +kernel
theorem dX8_waitTogether_15 : decode cX8_waitTogether 15 = .ok (.iadd, 1) := by decide +kernel
theorem dX8_waitTogether_16 : decode cX8_waitTogether 16 = .ok (.istore_n 3, 1) := by decide +kernel
theorem dX8_waitTogether_17 : decode cX8_waitTogether 17 = .ok (.iload_n 2, 1) := by decide +kernel
theorem dX8_waitTogether_18 : decode cX8_waitTogether 18 = .ok (.aload_n 0, 1) := by decide +kernel
theorem dX8_waitTogether_19 : decode cX8_waitTogether 19 = .ok (.getfield 47, 3) := by decide +kernel
theorem dX8_waitTogether_22 : decode cX8_waitTogether 22 = .ok (.iload 4, 2) := by decide +kernel
theorem dX8_waitTogether_24 : decode cX8_waitTogether 24 = .ok (.iaload, 1) := by decide +kernel
theorem dX8_waitTogether_25 : decode cX8_waitTogether 25 = .ok (.iadd, 1) := by decide +kernel
theorem dX8_waitTogether_26 : decode cX8_waitTogether 26 = .ok (.istore_n 2, 1) := by decide +kernel
theorem dX8_waitTogether_27 : decode cX8_waitTogether 27 = .ok (.iinc 4 1, 3) := by decide +kernel
theorem dX8_waitTogether_30 : decode cX8_waitTogether 30 = .ok (.goto (-23), 3) := by decide +kernel
theorem dX8_waitTogether_33 : decode cX8_waitTogether 33 = .ok (.iload_n 3, 1) := by decide +kernel
theorem dX8_waitTogether_34 : decode cX8_waitTogether 34 = .ok (.ireturn, 1) := by decide +kernel
def fX8_waitTogether_7 : Nat → Nat → Int32 → Int32 → Int32 → Int32 → mM Int32
  | 0 => fun _ _ _ _ _ => fun _ => none
  | n + 1 => fun l0 l1 l2 l3 l4 => let r7 := fX8_waitTogether_7 n; bIf (l1 ≤ l4) (bRet l3) (bGR 8 l0 10 (fun x1 => bAI 11 x1 l4 (fun x2 => r7 l0 l1 (l2 + x2) (l3 + l2) (l4 + 1))))
theorem qX8_waitTogether_7  (n : Nat) (l0 : Nat) (l1 : Int32) (l2 : Int32) (l3 : Int32) (l4 : Int32) : fX8_waitTogether_7 (n + 1) l0 l1 l2 l3 l4 = bIf (l1 ≤ l4) (bRet l3) (bGR 8 l0 10 (fun x1 => bAI 11 x1 l4 (fun x2 => (fX8_waitTogether_7 n) l0 l1 (l2 + x2) (l3 + l2) (l4 + 1)))) := rfl
set_option maxRecDepth 20000 in
theorem rX8_waitTogether_7 (v : mE) (d : Nat) : ∀ (n : Nat) (l0 : Nat) (l1 : Int32) (l2 : Int32) (l3 : Int32) (l4 : Int32), Rz v RX8 cX8_waitTogether 5 (some .int) false emI (d + 0) 7 [(0, vR l0), (1, vI l1), (2, vI l2), (3, vI l3), (4, vI l4)] [] (fX8_waitTogether_7 n l0 l1 l2 l3 l4)
  | 0, _, _, _, _, _ => fun _ _ _ hm => by cases hm
  | n + 1, l0, l1, l2, l3, l4 => by
    have h7 := rX8_waitTogether_7 v d n
    unfold fX8_waitTogether_7
    generalize fX8_waitTogether_7 n = r7 at h7 ⊢
    refine rz_iload 9 4 dX8_waitTogether_7 rfl rfl ?_
    refine rz_iload_n 10 1 dX8_waitTogether_9 rfl rfl ?_
    refine rz_icmp_ge 33 13 dX8_waitTogether_10 rfl rfl ?_ ?_
    · refine rz_iload_n 34 3 dX8_waitTogether_33 rfl rfl ?_
      exact rz_ireturn rfl rfl dX8_waitTogether_34
    · refine rz_iload_n 14 3 dX8_waitTogether_13 rfl rfl ?_
      refine rz_iload_n 15 2 dX8_waitTogether_14 rfl rfl ?_
      refine rz_iadd 16 dX8_waitTogether_15 rfl ?_
      refine rz_istore_n (lv' := [(3, vI (l3 + l2)), (0, vR l0), (1, vI l1), (2, vI l2), (4, vI l4)]) 17 dX8_waitTogether_16 rfl rfl rfl ?_
      refine rz_iload_n 18 3 dX8_waitTogether_17 rfl rfl ?_
      refine rz_aload_n 19 1 dX8_waitTogether_18 rfl rfl ?_
      refine rz_gR 22 dX8_waitTogether_19 rfl rfl fl_X8_47 (fun x1 => ?_)
      refine rz_iload 24 4 dX8_waitTogether_22 rfl rfl ?_
      refine rz_iald 25 dX8_waitTogether_24 rfl (fun x2 => ?_)
      refine rz_iadd 26 dX8_waitTogether_25 rfl ?_
      refine rz_istore_n (lv' := [(2, vI (l2 + x2)), (3, vI (l3 + l2)), (0, vR l0), (1, vI l1), (4, vI l4)]) 27 dX8_waitTogether_26 rfl rfl rfl ?_
      refine rz_iinc (lv' := [(4, vI (l4 + 1)), (2, vI (l2 + x2)), (3, vI (l3 + l2)), (0, vR l0), (1, vI l1)]) 30 4 dX8_waitTogether_27 rfl rfl (cn_1 _) rfl rfl ?_
      refine rz_goto 7 dX8_waitTogether_30 rfl ?_
      exact rz_sub [3, 4, 1, 2, 0] rfl (h7 l0 l1 (l2 + x2) (l3 + l2) (l4 + 1))
def fX8_waitTogether (l0 : Nat) (l1 : Int32) : mM Int32 := fX8_waitTogether_7 fu l0 l1 (0 : Int32) (0 : Int32) (0 : Int32)
set_option maxRecDepth 20000 in
theorem rX8_waitTogether (v : mE) (d : Nat) (l0 : Nat) (l1 : Int32) : Rz v RX8 cX8_waitTogether 5 (some .int) false emI (d + 0) 0 [(0, vR l0), (1, vI l1)] [] (fX8_waitTogether l0 l1) := by
  unfold fX8_waitTogether
  refine rz_iconst 1 dX8_waitTogether_0 rfl ci_0 ?_
  refine rz_istore_n (lv' := [(2, vI (0 : Int32)), (0, vR l0), (1, vI l1)]) 2 dX8_waitTogether_1 rfl rfl rfl ?_
  refine rz_iconst 3 dX8_waitTogether_2 rfl ci_0 ?_
  refine rz_istore_n (lv' := [(3, vI (0 : Int32)), (2, vI (0 : Int32)), (0, vR l0), (1, vI l1)]) 4 dX8_waitTogether_3 rfl rfl rfl ?_
  refine rz_iconst 5 dX8_waitTogether_4 rfl ci_0 ?_
  refine rz_istore (lv' := [(4, vI (0 : Int32)), (3, vI (0 : Int32)), (2, vI (0 : Int32)), (0, vR l0), (1, vI l1)]) 7 dX8_waitTogether_5 rfl rfl rfl ?_
  exact rz_sub [3, 4, 2, 1, 0] rfl (rX8_waitTogether_7 v d fu l0 l1 (0 : Int32) (0 : Int32) (0 : Int32))
theorem tX8_waitTogether (v : mE) (d : Nat) (l0 : Nat) (l1 : Int32) : Mt v yX8_waitTogether cX8_waitTogether 5 (some .int) emI (d + 0) [vR l0, vI l1] (fX8_waitTogether l0 l1) := mt_of rfl rfl (fun h => by cases h) rfl rfl (rX8_waitTogether v d l0 l1)
theorem dX8_waiting_0 : decode cX8_waiting 0 = .ok (.aload_n 0, 1) := by decide +kernel
theorem dX8_waiting_1 : decode cX8_waiting 1 = .ok (.iload_n 1, 1) := by decide +kernel
theorem dX8_waiting_2 : decode cX8_waiting 2 = .ok (.iload_n 2, 1) := by decide +kernel
theorem dX8_waiting_3 : decode cX8_waiting 3 = .ok (.invokevirtual 372, 3) := by decide +kernel
theorem dX8_waiting_6 : decode cX8_waiting 6 = .ok (.istore_n 3, 1) := by decide +kernel
theorem dX8_waiting_7 : decode cX8_waiting 7 = .ok (.iload_n 3, 1) := by decide +kernel
theorem dX8_waiting_8 : decode cX8_waiting 8 = .ok (.ifCond .eq 11, 3) := by decide +kernel
theorem dX8_waiting_11 : decode cX8_waiting 11 = .ok (.aload_n 0, 1) := by decide +kernel
theorem dX8_waiting_12 : decode cX8_waiting 12 = .ok (.iload_n 3, 1) := by decide +kernel
theorem dX8_waiting_13 : decode cX8_waiting 13 = .ok (.invokevirtual 114, 3) := by decide +kernel
theorem dX8_waiting_16 : decode cX8_waiting 16 = .ok (.goto 12, 3) := by decide +kernel
theorem dX8_waiting_19 : decode cX8_waiting 19 = .ok (.aload_n 0, 1) := by decide +kernel
theorem dX8_waiting_20 : decode cX8_waiting 20 = .ok (.aload_n 0, 1) := by decide +kernel
theorem dX8_waiting_21 : decode cX8_waiting 21 = .ok (.iload_n 2, 1) := by decide +kernel
theorem dX8_waiting_22 : decode cX8_waiting 22 = .ok (.invokevirtual 375, 3) := by decide +kernel
theorem dX8_waiting_25 : decode cX8_waiting 25 = .ok (.invokevirtual 166, 3) := by decide +kernel
theorem dX8_waiting_28 : decode cX8_waiting 28 = .ok (.ireturn, 1) := by decide +kernel
def fX8_waiting (l0 : Nat) (l1 : Int32) (l2 : Int32) : mM Int32 := bCallV 8 l0 (fX8_queueStatus l0 l1 l2) (fun x1 => bIf (x1 = 0) (bCallV 8 l0 (fX8_waitTogether l0 l2) (fun x2 => bCallV 8 l0 (fX8_tell l0 x2) (fun x3 => bRet x3))) (bCallV 8 l0 (fX8_none l0 x1) (fun x4 => bRet x4)))
set_option maxRecDepth 20000 in
theorem rX8_waiting (v : mE) (d : Nat) (l0 : Nat) (l1 : Int32) (l2 : Int32) : Rz v RX8 cX8_waiting 4 (some .int) false emI (d + 7) 0 [(0, vR l0), (1, vI l1), (2, vI l2)] [] (fX8_waiting l0 l1 l2) := by
  unfold fX8_waiting
  refine rz_aload_n 1 0 dX8_waiting_0 rfl rfl ?_
  refine rz_iload_n 2 1 dX8_waiting_1 rfl rfl ?_
  refine rz_iload_n 3 2 dX8_waiting_2 rfl rfl ?_
  refine rz_callV 6 dX8_waiting_3 rfl (tX8_queueStatus v (d + 0) l0 l1 l2) rfl rfl rfl rfl ml_X8_372 im_X8_queueStatus se_X8_X8_queueStatus in_X8 co_X8_queueStatus rfl rfl (fun x1 => ?_)
  refine rz_istore_n (lv' := [(3, vI x1), (0, vR l0), (1, vI l1), (2, vI l2)]) 7 dX8_waiting_6 rfl rfl rfl ?_
  refine rz_iload_n 8 0 dX8_waiting_7 rfl rfl ?_
  refine rz_if_eq 19 11 dX8_waiting_8 rfl rfl ?_ ?_
  · refine rz_aload_n 20 1 dX8_waiting_19 rfl rfl ?_
    refine rz_aload_n 21 1 dX8_waiting_20 rfl rfl ?_
    refine rz_iload_n 22 3 dX8_waiting_21 rfl rfl ?_
    refine rz_callV 25 dX8_waiting_22 rfl (tX8_waitTogether v (d + 6) l0 l2) rfl rfl rfl rfl ml_X8_375 im_X8_waitTogether se_X8_X8_waitTogether in_X8 co_X8_waitTogether rfl rfl (fun x2 => ?_)
    refine rz_callV 28 dX8_waiting_25 rfl (tX8_tell v (d + 6) l0 x2) rfl rfl rfl rfl ml_X8_166 im_X8_tell se_X8_X8_tell in_X8 co_X8_tell rfl rfl (fun x3 => ?_)
    exact rz_ireturn rfl rfl dX8_waiting_28
  · refine rz_aload_n 12 1 dX8_waiting_11 rfl rfl ?_
    refine rz_iload_n 13 0 dX8_waiting_12 rfl rfl ?_
    refine rz_callV 16 dX8_waiting_13 rfl (tX8_none v (d + 6) l0 x1) rfl rfl rfl rfl ml_X8_114 im_X8_none se_X8_X8_none in_X8 co_X8_none rfl rfl (fun x4 => ?_)
    refine rz_goto 28 dX8_waiting_16 rfl ?_
    exact rz_ireturn rfl rfl dX8_waiting_28
theorem tX8_waiting (v : mE) (d : Nat) (l0 : Nat) (l1 : Int32) (l2 : Int32) : Mt v yX8_waiting cX8_waiting 4 (some .int) emI (d + 7) [vR l0, vI l1, vI l2] (fX8_waiting l0 l1 l2) := mt_of rfl rfl (fun h => by cases h) rfl rfl (rX8_waiting v d l0 l1 l2)
theorem dX8_sortMinutes_0 : decode cX8_sortMinutes 0 = .ok (.iconst 1, 1) := by decide +kernel
theorem dX8_sortMinutes_1 : decode cX8_sortMinutes 1 = .ok (.istore_n 2, 1) := by decide +kernel
theorem dX8_sortMinutes_2 : decode cX8_sortMinutes 2 = .ok (.iload_n 2, 1) := by decide +kernel
theorem dX8_sortMinutes_3 : decode cX8_sortMinutes 3 = .ok (.iload_n 1, 1) := by decide +kernel
theorem dX8_sortMinutes_4 : decode cX8_sortMinutes 4 = .ok (.if_icmp .ge 67, 3) := by decide +kernel
theorem dX8_sortMinutes_7 : decode cX8_sortMinutes 7 = .ok (.aload_n 0, 1) := by decide +kernel
theorem dX8_sortMinutes_8 : decode cX8_sortMinutes 8 = .ok (.getfield 47, 3) := by decide +kernel
theorem dX8_sortMinutes_11 : decode cX8_sortMinutes 11 = .ok (.iload_n 2, 1) := by decide +kernel
theorem dX8_sortMinutes_12 : decode cX8_sortMinutes 12 = .ok (.iaload, 1) := by decide +kernel
theorem dX8_sortMinutes_13 : decode cX8_sortMinutes 13 = .ok (.istore_n 3, 1) := by decide +kernel
theorem dX8_sortMinutes_14 : decode cX8_sortMinutes 14 = .ok (.iload_n 2, 1) := by decide +kernel
theorem dX8_sortMinutes_15 : decode cX8_sortMinutes 15 = .ok (.istore 4, 2) := by decide +kernel
theorem dX8_sortMinutes_17 : decode cX8_sortMinutes 17 = .ok (.iload 4, 2) := by decide +kernel
theorem dX8_sortMinutes_19 : decode cX8_sortMinutes 19 = .ok (.ifCond .le 38, 3) := by decide +kernel
theorem dX8_sortMinutes_22 : decode cX8_sortMinutes 22 = .ok (.aload_n 0, 1) := by decide +kernel
theorem dX8_sortMinutes_23 : decode cX8_sortMinutes 23 = .ok (.getfield 47, 3) := by decide +kernel
theorem dX8_sortMinutes_26 : decode cX8_sortMinutes 26 = .ok (.iload 4, 2) := by decide +kernel
theorem dX8_sortMinutes_28 : decode cX8_sortMinutes 28 = .ok (.iconst 1, 1) := by decide +kernel
theorem dX8_sortMinutes_29 : decode cX8_sortMinutes 29 = .ok (.isub, 1) := by decide +kernel
theorem dX8_sortMinutes_30 : decode cX8_sortMinutes 30 = .ok (.iaload, 1) := by decide +kernel
theorem dX8_sortMinutes_31 : decode cX8_sortMinutes 31 = .ok (.iload_n 3, 1) := by decide +kernel
theorem dX8_sortMinutes_32 : decode cX8_sortMinutes 32 = .ok (.if_icmp .le 25, 3) := by decide +kernel
theorem dX8_sortMinutes_35 : decode cX8_sortMinutes 35 = .ok (.aload_n 0, 1) := by decide +kernel
theorem dX8_sortMinutes_36 : decode cX8_sortMinutes 36 = .ok (.getfield 47, 3) := by decide +kernel
theorem dX8_sortMinutes_39 : decode cX8_sortMinutes 39 = .ok (.iload 4, 2) := by decide +kernel
theorem dX8_sortMinutes_41 : decode cX8_sortMinutes 41 = .ok (.aload_n 0, 1) := by decide +kernel
theorem dX8_sortMinutes_42 : decode cX8_sortMinutes 42 = .ok (.getfield 47, 3) := by decide +kernel
theorem dX8_sortMinutes_45 : decode cX8_sortMinutes 45 = .ok (.iload 4, 2) := by decide +kernel
theorem dX8_sortMinutes_47 : decode cX8_sortMinutes 47 = .ok (.iconst 1, 1) := by decide +kernel
theorem dX8_sortMinutes_48 : decode cX8_sortMinutes 48 = .ok (.isub, 1) := by decide +kernel
theorem dX8_sortMinutes_49 : decode cX8_sortMinutes 49 = .ok (.iaload, 1) := by decide +kernel
theorem dX8_sortMinutes_50 : decode cX8_sortMinutes 50 = .ok (.iastore, 1) := by decide +kernel
theorem dX8_sortMinutes_51 : decode cX8_sortMinutes 51 = .ok (.iinc 4 (-1), 3) := by decide +kernel
theorem dX8_sortMinutes_54 : decode cX8_sortMinutes 54 = .ok (.goto (-37), 3) := by decide +kernel
theorem dX8_sortMinutes_57 : decode cX8_sortMinutes 57 = .ok (.aload_n 0, 1) := by decide +kernel
theorem dX8_sortMinutes_58 : decode cX8_sortMinutes 58 = .ok (.getfield 47, 3) := by decide +kernel
theorem dX8_sortMinutes_61 : decode cX8_sortMinutes 61 = .ok (.iload 4, 2) := by decide +kernel
theorem dX8_sortMinutes_63 : decode cX8_sortMinutes 63 = .ok (.iload_n 3, 1) := by decide +kernel
theorem dX8_sortMinutes_64 : decode cX8_sortMinutes 64 = .ok (.iastore, 1) := by decide +kernel
theorem dX8_sortMinutes_65 : decode cX8_sortMinutes 65 = .ok (.iinc 2 1, 3) := by decide +kernel
theorem dX8_sortMinutes_68 : decode cX8_sortMinutes 68 = .ok (.goto (-66), 3) := by decide +kernel
theorem dX8_sortMinutes_71 : decode cX8_sortMinutes 71 = .ok (.return_, 1) := by decide +kernel
def fX8_sortMinutes_57 (r2 : Nat → Int32 → Int32 → mM Unit) (l0 : Nat) (l1 : Int32) (l2 : Int32) (l3 : Int32) (l4 : Int32) : mM Unit := bGR 8 l0 10 (fun x1 => bSI x1 l4 l3 (r2 l0 l1 (l2 + 1)))
set_option maxRecDepth 20000 in
theorem rX8_sortMinutes_57 (v : mE) (d : Nat) (r2 : Nat → Int32 → Int32 → mM Unit) (h2 : ∀ (y0 : Nat) (y1 : Int32) (y2 : Int32), Rz v RX8 cX8_sortMinutes 5 none false emU (d + 0) 2 [(0, vR y0), (1, vI y1), (2, vI y2)] [] (r2 y0 y1 y2)) (l0 : Nat) (l1 : Int32) (l2 : Int32) (l3 : Int32) (l4 : Int32) : Rz v RX8 cX8_sortMinutes 5 none false emU (d + 0) 57 [(0, vR l0), (1, vI l1), (2, vI l2), (3, vI l3), (4, vI l4)] [] (fX8_sortMinutes_57 r2 l0 l1 l2 l3 l4) := by
  unfold fX8_sortMinutes_57
  refine rz_aload_n 58 0 dX8_sortMinutes_57 rfl rfl ?_
  refine rz_gR 61 dX8_sortMinutes_58 rfl rfl fl_X8_47 (fun x1 => ?_)
  refine rz_iload 63 4 dX8_sortMinutes_61 rfl rfl ?_
  refine rz_iload_n 64 3 dX8_sortMinutes_63 rfl rfl ?_
  refine rz_iast 65 dX8_sortMinutes_64 rfl ?_
  refine rz_iinc (lv' := [(2, vI (l2 + 1)), (0, vR l0), (1, vI l1), (3, vI l3), (4, vI l4)]) 68 2 dX8_sortMinutes_65 rfl rfl (cn_1 _) rfl rfl ?_
  refine rz_goto 2 dX8_sortMinutes_68 rfl ?_
  exact rz_sub [1, 2, 0] rfl (h2 l0 l1 (l2 + 1))
def fX8_sortMinutes_17 (r2 : Nat → Int32 → Int32 → mM Unit) : Nat → Nat → Int32 → Int32 → Int32 → Int32 → mM Unit
  | 0 => fun _ _ _ _ _ => fun _ => none
  | n + 1 => fun l0 l1 l2 l3 l4 => let r17 := fX8_sortMinutes_17 r2 n; bIf (l4 ≤ 0) (fX8_sortMinutes_57 r2 l0 l1 l2 l3 l4) (bGR 8 l0 10 (fun x1 => bAI 11 x1 (l4 - (1 : Int32)) (fun x2 => bIf (x2 ≤ l3) (fX8_sortMinutes_57 r2 l0 l1 l2 l3 l4) (bGR 8 l0 10 (fun x3 => bGR 8 l0 10 (fun x4 => bAI 11 x4 (l4 - (1 : Int32)) (fun x5 => bSI x3 l4 x5 (r17 l0 l1 l2 l3 (l4 + (-1))))))))))
theorem qX8_sortMinutes_17 (r2 : Nat → Int32 → Int32 → mM Unit) (n : Nat) (l0 : Nat) (l1 : Int32) (l2 : Int32) (l3 : Int32) (l4 : Int32) : fX8_sortMinutes_17 r2 (n + 1) l0 l1 l2 l3 l4 = bIf (l4 ≤ 0) (fX8_sortMinutes_57 r2 l0 l1 l2 l3 l4) (bGR 8 l0 10 (fun x1 => bAI 11 x1 (l4 - (1 : Int32)) (fun x2 => bIf (x2 ≤ l3) (fX8_sortMinutes_57 r2 l0 l1 l2 l3 l4) (bGR 8 l0 10 (fun x3 => bGR 8 l0 10 (fun x4 => bAI 11 x4 (l4 - (1 : Int32)) (fun x5 => bSI x3 l4 x5 ((fX8_sortMinutes_17 r2 n) l0 l1 l2 l3 (l4 + (-1)))))))))) := rfl
set_option maxRecDepth 20000 in
theorem rX8_sortMinutes_17 (v : mE) (d : Nat) (r2 : Nat → Int32 → Int32 → mM Unit) (h2 : ∀ (y0 : Nat) (y1 : Int32) (y2 : Int32), Rz v RX8 cX8_sortMinutes 5 none false emU (d + 0) 2 [(0, vR y0), (1, vI y1), (2, vI y2)] [] (r2 y0 y1 y2)) : ∀ (n : Nat) (l0 : Nat) (l1 : Int32) (l2 : Int32) (l3 : Int32) (l4 : Int32), Rz v RX8 cX8_sortMinutes 5 none false emU (d + 0) 17 [(0, vR l0), (1, vI l1), (2, vI l2), (3, vI l3), (4, vI l4)] [] (fX8_sortMinutes_17 r2 n l0 l1 l2 l3 l4)
  | 0, _, _, _, _, _ => fun _ _ _ hm => by cases hm
  | n + 1, l0, l1, l2, l3, l4 => by
    have h17 := rX8_sortMinutes_17 v d r2 h2 n
    unfold fX8_sortMinutes_17
    generalize fX8_sortMinutes_17 r2 n = r17 at h17 ⊢
    refine rz_iload 19 4 dX8_sortMinutes_17 rfl rfl ?_
    refine rz_if_le 57 22 dX8_sortMinutes_19 rfl rfl ?_ ?_
    · exact rz_sub [0, 1, 2, 3, 4] rfl (rX8_sortMinutes_57 v d r2 h2 l0 l1 l2 l3 l4)
    · refine rz_aload_n 23 0 dX8_sortMinutes_22 rfl rfl ?_
      refine rz_gR 26 dX8_sortMinutes_23 rfl rfl fl_X8_47 (fun x1 => ?_)
      refine rz_iload 28 4 dX8_sortMinutes_26 rfl rfl ?_
      refine rz_iconst 29 dX8_sortMinutes_28 rfl ci_1 ?_
      refine rz_isub 30 dX8_sortMinutes_29 rfl ?_
      refine rz_iald 31 dX8_sortMinutes_30 rfl (fun x2 => ?_)
      refine rz_iload_n 32 3 dX8_sortMinutes_31 rfl rfl ?_
      refine rz_icmp_le 57 35 dX8_sortMinutes_32 rfl rfl ?_ ?_
      · exact rz_sub [0, 1, 2, 3, 4] rfl (rX8_sortMinutes_57 v d r2 h2 l0 l1 l2 l3 l4)
      · refine rz_aload_n 36 0 dX8_sortMinutes_35 rfl rfl ?_
        refine rz_gR 39 dX8_sortMinutes_36 rfl rfl fl_X8_47 (fun x3 => ?_)
        refine rz_iload 41 4 dX8_sortMinutes_39 rfl rfl ?_
        refine rz_aload_n 42 0 dX8_sortMinutes_41 rfl rfl ?_
        refine rz_gR 45 dX8_sortMinutes_42 rfl rfl fl_X8_47 (fun x4 => ?_)
        refine rz_iload 47 4 dX8_sortMinutes_45 rfl rfl ?_
        refine rz_iconst 48 dX8_sortMinutes_47 rfl ci_1 ?_
        refine rz_isub 49 dX8_sortMinutes_48 rfl ?_
        refine rz_iald 50 dX8_sortMinutes_49 rfl (fun x5 => ?_)
        refine rz_iast 51 dX8_sortMinutes_50 rfl ?_
        refine rz_iinc (lv' := [(4, vI (l4 + (-1))), (0, vR l0), (1, vI l1), (2, vI l2), (3, vI l3)]) 54 4 dX8_sortMinutes_51 rfl rfl (cn_m1 _) rfl rfl ?_
        refine rz_goto 17 dX8_sortMinutes_54 rfl ?_
        exact rz_sub [1, 2, 3, 4, 0] rfl (h17 l0 l1 l2 l3 (l4 + (-1)))
def fX8_sortMinutes_2 : Nat → Nat → Int32 → Int32 → mM Unit
  | 0 => fun _ _ _ => fun _ => none
  | n + 1 => fun l0 l1 l2 => let r2 := fX8_sortMinutes_2 n; bIf (l1 ≤ l2) (bRet ()) (bGR 8 l0 10 (fun x1 => bAI 11 x1 l2 (fun x2 => fX8_sortMinutes_17 r2 fu l0 l1 l2 x2 l2)))
theorem qX8_sortMinutes_2  (n : Nat) (l0 : Nat) (l1 : Int32) (l2 : Int32) : fX8_sortMinutes_2 (n + 1) l0 l1 l2 = bIf (l1 ≤ l2) (bRet ()) (bGR 8 l0 10 (fun x1 => bAI 11 x1 l2 (fun x2 => fX8_sortMinutes_17 (fX8_sortMinutes_2 n) fu l0 l1 l2 x2 l2))) := rfl
set_option maxRecDepth 20000 in
theorem rX8_sortMinutes_2 (v : mE) (d : Nat) : ∀ (n : Nat) (l0 : Nat) (l1 : Int32) (l2 : Int32), Rz v RX8 cX8_sortMinutes 5 none false emU (d + 0) 2 [(0, vR l0), (1, vI l1), (2, vI l2)] [] (fX8_sortMinutes_2 n l0 l1 l2)
  | 0, _, _, _ => fun _ _ _ hm => by cases hm
  | n + 1, l0, l1, l2 => by
    have h2 := rX8_sortMinutes_2 v d n
    unfold fX8_sortMinutes_2
    generalize fX8_sortMinutes_2 n = r2 at h2 ⊢
    refine rz_iload_n 3 2 dX8_sortMinutes_2 rfl rfl ?_
    refine rz_iload_n 4 1 dX8_sortMinutes_3 rfl rfl ?_
    refine rz_icmp_ge 71 7 dX8_sortMinutes_4 rfl rfl ?_ ?_
    · exact rz_return rfl rfl dX8_sortMinutes_71
    · refine rz_aload_n 8 0 dX8_sortMinutes_7 rfl rfl ?_
      refine rz_gR 11 dX8_sortMinutes_8 rfl rfl fl_X8_47 (fun x1 => ?_)
      refine rz_iload_n 12 2 dX8_sortMinutes_11 rfl rfl ?_
      refine rz_iald 13 dX8_sortMinutes_12 rfl (fun x2 => ?_)
      refine rz_istore_n (lv' := [(3, vI x2), (0, vR l0), (1, vI l1), (2, vI l2)]) 14 dX8_sortMinutes_13 rfl rfl rfl ?_
      refine rz_iload_n 15 3 dX8_sortMinutes_14 rfl rfl ?_
      refine rz_istore (lv' := [(4, vI l2), (3, vI x2), (0, vR l0), (1, vI l1), (2, vI l2)]) 17 dX8_sortMinutes_15 rfl rfl rfl ?_
      exact rz_sub [2, 3, 4, 1, 0] rfl (rX8_sortMinutes_17 v d r2 h2 fu l0 l1 l2 x2 l2)
def fX8_sortMinutes (l0 : Nat) (l1 : Int32) : mM Unit := fX8_sortMinutes_2 fu l0 l1 (1 : Int32)
set_option maxRecDepth 20000 in
theorem rX8_sortMinutes (v : mE) (d : Nat) (l0 : Nat) (l1 : Int32) : Rz v RX8 cX8_sortMinutes 5 none false emU (d + 0) 0 [(0, vR l0), (1, vI l1)] [] (fX8_sortMinutes l0 l1) := by
  unfold fX8_sortMinutes
  refine rz_iconst 1 dX8_sortMinutes_0 rfl ci_1 ?_
  refine rz_istore_n (lv' := [(2, vI (1 : Int32)), (0, vR l0), (1, vI l1)]) 2 dX8_sortMinutes_1 rfl rfl rfl ?_
  exact rz_sub [1, 2, 0] rfl (rX8_sortMinutes_2 v d fu l0 l1 (1 : Int32))
theorem tX8_sortMinutes (v : mE) (d : Nat) (l0 : Nat) (l1 : Int32) : Mt v yX8_sortMinutes cX8_sortMinutes 5 none emU (d + 0) [vR l0, vI l1] (fX8_sortMinutes l0 l1) := mt_of rfl rfl (fun h => by cases h) rfl rfl (rX8_sortMinutes v d l0 l1)
theorem dX8_leastWaiting_0 : decode cX8_leastWaiting 0 = .ok (.aload_n 0, 1) := by decide +kernel
theorem dX8_leastWaiting_1 : decode cX8_leastWaiting 1 = .ok (.iload_n 1, 1) := by decide +kernel
theorem dX8_leastWaiting_2 : decode cX8_leastWaiting 2 = .ok (.iload_n 2, 1) := by decide +kernel
theorem dX8_leastWaiting_3 : decode cX8_leastWaiting 3 = .ok (.invokevirtual 372, 3) := by decide +kernel
theorem dX8_leastWaiting_6 : decode cX8_leastWaiting 6 = .ok (.istore_n 3, 1) := by decide +kernel
theorem dX8_leastWaiting_7 : decode cX8_leastWaiting 7 = .ok (.iload_n 3, 1) := by decide +kernel
theorem dX8_leastWaiting_8 : decode cX8_leastWaiting 8 = .ok (.ifCond .eq 9, 3) := by decide +kernel
theorem dX8_leastWaiting_11 : decode cX8_leastWaiting 11 = .ok (.aload_n 0, 1) := by decide +kernel
theorem dX8_leastWaiting_12 : decode cX8_leastWaiting 12 = .ok (.iload_n 3, 1) := by decide +kernel
theorem dX8_leastWaiting_13 : decode cX8_leastWaiting 13 = .ok (.invokevirtual 114, 3) := by decide +kernel
theorem dX8_leastWaiting_16 : decode cX8_leastWaiting 16 = .ok (.ireturn, 1) := by decide +kernel
theorem dX8_leastWaiting_17 : decode cX8_leastWaiting 17 = .ok (.aload_n 0, 1) := by decide +kernel
theorem dX8_leastWaiting_18 : decode cX8_leastWaiting 18 = .ok (.iload_n 2, 1) := by decide +kernel
theorem dX8_leastWaiting_19 : decode cX8_leastWaiting 19 = .ok (.invokevirtual 378, 3) := by decide +kernel
theorem dX8_leastWaiting_22 : decode cX8_leastWaiting 22 = .ok (.aload_n 0, 1) := by decide +kernel
theorem dX8_leastWaiting_23 : decode cX8_leastWaiting 23 = .ok (.aload_n 0, 1) := by decide +kernel
theorem dX8_leastWaiting_24 : decode cX8_leastWaiting 24 = .ok (.iload_n 2, 1) := by decide +kernel
theorem dX8_leastWaiting_25 : decode cX8_leastWaiting 25 = .ok (.invokevirtual 375, 3) := by decide +kernel
theorem dX8_leastWaiting_28 : decode cX8_leastWaiting 28 = .ok (.invokevirtual 166, 3) := by decide +kernel
theorem dX8_leastWaiting_31 : decode cX8_leastWaiting 31 = .ok (.ireturn, 1) := by decide +kernel
def fX8_leastWaiting (l0 : Nat) (l1 : Int32) (l2 : Int32) : mM Int32 := bCallV 8 l0 (fX8_queueStatus l0 l1 l2) (fun x1 => bIf (x1 = 0) (bCallV 8 l0 (fX8_sortMinutes l0 l2) (fun _ => bCallV 8 l0 (fX8_waitTogether l0 l2) (fun x2 => bCallV 8 l0 (fX8_tell l0 x2) (fun x3 => bRet x3)))) (bCallV 8 l0 (fX8_none l0 x1) (fun x4 => bRet x4)))
set_option maxRecDepth 20000 in
theorem rX8_leastWaiting (v : mE) (d : Nat) (l0 : Nat) (l1 : Int32) (l2 : Int32) : Rz v RX8 cX8_leastWaiting 4 (some .int) false emI (d + 7) 0 [(0, vR l0), (1, vI l1), (2, vI l2)] [] (fX8_leastWaiting l0 l1 l2) := by
  unfold fX8_leastWaiting
  refine rz_aload_n 1 0 dX8_leastWaiting_0 rfl rfl ?_
  refine rz_iload_n 2 1 dX8_leastWaiting_1 rfl rfl ?_
  refine rz_iload_n 3 2 dX8_leastWaiting_2 rfl rfl ?_
  refine rz_callV 6 dX8_leastWaiting_3 rfl (tX8_queueStatus v (d + 0) l0 l1 l2) rfl rfl rfl rfl ml_X8_372 im_X8_queueStatus se_X8_X8_queueStatus in_X8 co_X8_queueStatus rfl rfl (fun x1 => ?_)
  refine rz_istore_n (lv' := [(3, vI x1), (0, vR l0), (1, vI l1), (2, vI l2)]) 7 dX8_leastWaiting_6 rfl rfl rfl ?_
  refine rz_iload_n 8 0 dX8_leastWaiting_7 rfl rfl ?_
  refine rz_if_eq 17 11 dX8_leastWaiting_8 rfl rfl ?_ ?_
  · refine rz_aload_n 18 1 dX8_leastWaiting_17 rfl rfl ?_
    refine rz_iload_n 19 3 dX8_leastWaiting_18 rfl rfl ?_
    refine rz_callV 22 dX8_leastWaiting_19 rfl (tX8_sortMinutes v (d + 6) l0 l2) rfl rfl rfl rfl ml_X8_378 im_X8_sortMinutes se_X8_X8_sortMinutes in_X8 co_X8_sortMinutes rfl rfl (fun _ => ?_)
    refine rz_aload_n 23 1 dX8_leastWaiting_22 rfl rfl ?_
    refine rz_aload_n 24 1 dX8_leastWaiting_23 rfl rfl ?_
    refine rz_iload_n 25 3 dX8_leastWaiting_24 rfl rfl ?_
    refine rz_callV 28 dX8_leastWaiting_25 rfl (tX8_waitTogether v (d + 6) l0 l2) rfl rfl rfl rfl ml_X8_375 im_X8_waitTogether se_X8_X8_waitTogether in_X8 co_X8_waitTogether rfl rfl (fun x2 => ?_)
    refine rz_callV 31 dX8_leastWaiting_28 rfl (tX8_tell v (d + 6) l0 x2) rfl rfl rfl rfl ml_X8_166 im_X8_tell se_X8_X8_tell in_X8 co_X8_tell rfl rfl (fun x3 => ?_)
    exact rz_ireturn rfl rfl dX8_leastWaiting_31
  · refine rz_aload_n 12 1 dX8_leastWaiting_11 rfl rfl ?_
    refine rz_iload_n 13 0 dX8_leastWaiting_12 rfl rfl ?_
    refine rz_callV 16 dX8_leastWaiting_13 rfl (tX8_none v (d + 6) l0 x1) rfl rfl rfl rfl ml_X8_114 im_X8_none se_X8_X8_none in_X8 co_X8_none rfl rfl (fun x4 => ?_)
    exact rz_ireturn rfl rfl dX8_leastWaiting_16
theorem tX8_leastWaiting (v : mE) (d : Nat) (l0 : Nat) (l1 : Int32) (l2 : Int32) : Mt v yX8_leastWaiting cX8_leastWaiting 4 (some .int) emI (d + 7) [vR l0, vI l1, vI l2] (fX8_leastWaiting l0 l1 l2) := mt_of rfl rfl (fun h => by cases h) rfl rfl (rX8_leastWaiting v d l0 l1 l2)
theorem dX8_mark_0 : decode cX8_mark 0 = .ok (.aload_n 0, 1) := by decide +kernel
theorem dX8_mark_1 : decode cX8_mark 1 = .ok (.getfield 37, 3) := by decide +kernel
theorem dX8_mark_4 : decode cX8_mark 4 = .ok (.iconst 3, 1) := by decide +kernel
theorem dX8_mark_5 : decode cX8_mark 5 = .ok (.if_icmp .lt 10, 3) := by decide +kernel
theorem dX8_mark_8 : decode cX8_mark 8 = .ok (.aload_n 0, 1) := by decide +kernel
theorem dX8_mark_9 : decode cX8_mark 9 = .ok (.bipush 7, 2) := by decide +kernel
theorem dX8_mark_11 : decode cX8_mark 11 = .ok (.invokevirtual 114, 3) := by decide +kernel
theorem dX8_mark_14 : decode cX8_mark 14 = .ok (.ireturn, 1) := by decide +kernel
theorem dX8_mark_15 : decode cX8_mark 15 = .ok (.aload_n 0, 1) := by decide +kernel
theorem dX8_mark_16 : decode cX8_mark 16 = .ok (.getfield 33, 3) := by decide +kernel
theorem dX8_mark_19 : decode cX8_mark 19 = .ok (.aload_n 0, 1) := by decide +kernel
theorem dX8_mark_20 : decode cX8_mark 20 = .ok (.getfield 37, 3) := by decide +kernel
theorem dX8_mark_23 : decode cX8_mark 23 = .ok (.aaload, 1) := by decide +kernel
theorem dX8_mark_24 : decode cX8_mark 24 = .ok (.ifnonnull 19, 3) := by decide +kernel
theorem dX8_mark_27 : decode cX8_mark 27 = .ok (.aload_n 0, 1) := by decide +kernel
theorem dX8_mark_28 : decode cX8_mark 28 = .ok (.getfield 33, 3) := by decide +kernel
theorem dX8_mark_31 : decode cX8_mark 31 = .ok (.aload_n 0, 1) := by decide +kernel
theorem dX8_mark_32 : decode cX8_mark 32 = .ok (.getfield 37, 3) := by decide +kernel
theorem dX8_mark_35 : decode cX8_mark 35 = .ok (.new 23, 3) := by decide +kernel
theorem dX8_mark_38 : decode cX8_mark 38 = .ok (.dup, 1) := by decide +kernel
theorem dX8_mark_39 : decode cX8_mark 39 = .ok (.invokespecial 25, 3) := by decide +kernel
theorem dX8_mark_42 : decode cX8_mark 42 = .ok (.aastore, 1) := by decide +kernel
theorem dX8_mark_43 : decode cX8_mark 43 = .ok (.aload_n 0, 1) := by decide +kernel
theorem dX8_mark_44 : decode cX8_mark 44 = .ok (.getfield 33, 3) := by decide +kernel
theorem dX8_mark_47 : decode cX8_mark 47 = .ok (.aload_n 0, 1) := by decide +kernel
theorem dX8_mark_48 : decode cX8_mark 48 = .ok (.getfield 37, 3) := by decide +kernel
theorem dX8_mark_51 : decode cX8_mark 51 = .ok (.aaload, 1) := by decide +kernel
theorem dX8_mark_52 : decode cX8_mark 52 = .ok (.aload_n 0, 1) := by decide +kernel
theorem dX8_mark_53 : decode cX8_mark 53 = .ok (.getfield 26, 3) := by decide +kernel
theorem dX8_mark_56 : decode cX8_mark 56 = .ok (.invokevirtual 159, 3) := by decide +kernel
theorem dX8_mark_59 : decode cX8_mark 59 = .ok (.aload_n 0, 1) := by decide +kernel
theorem dX8_mark_60 : decode cX8_mark 60 = .ok (.dup, 1) := by decide +kernel
theorem dX8_mark_61 : decode cX8_mark 61 = .ok (.getfield 37, 3) := by decide +kernel
theorem dX8_mark_64 : decode cX8_mark 64 = .ok (.iconst 1, 1) := by decide +kernel
theorem dX8_mark_65 : decode cX8_mark 65 = .ok (.iadd, 1) := by decide +kernel
theorem dX8_mark_66 : decode cX8_mark 66 = .ok (.putfield 37, 3) := by decide +kernel
theorem dX8_mark_69 : decode cX8_mark 69 = .ok (.aload_n 0, 1) := by decide +kernel
theorem dX8_mark_70 : decode cX8_mark 70 = .ok (.aload_n 0, 1) := by decide +kernel
theorem dX8_mark_71 : decode cX8_mark 71 = .ok (.getfield 37, 3) := by decide +kernel
theorem dX8_mark_74 : decode cX8_mark 74 = .ok (.invokevirtual 166, 3) := by decide +kernel
theorem dX8_mark_77 : decode cX8_mark 77 = .ok (.ireturn, 1) := by decide +kernel
def fX8_mark_43 (l0 : Nat) : mM Int32 := bGR 8 l0 5 (fun x1 => bGI 8 l0 6 (fun x2 => bAR 16 x1 x2 (fun x3 => bGR 8 l0 3 (fun x4 => bCallV 7 x3 (fX7_copyFrom x3 x4) (fun _ => bGI 8 l0 6 (fun x5 => bPI 8 l0 6 (x5 + (1 : Int32)) (bGI 8 l0 6 (fun x6 => bCallV 8 l0 (fX8_tell l0 x6) (fun x7 => bRet x7)))))))))
set_option maxRecDepth 20000 in
theorem rX8_mark_43 (v : mE) (d : Nat) (l0 : Nat) : Rz v RX8 cX8_mark 1 (some .int) false emI (d + 3) 43 [(0, vR l0)] [] (fX8_mark_43 l0) := by
  unfold fX8_mark_43
  refine rz_aload_n 44 0 dX8_mark_43 rfl rfl ?_
  refine rz_gR 47 dX8_mark_44 rfl rfl fl_X8_33 (fun x1 => ?_)
  refine rz_aload_n 48 0 dX8_mark_47 rfl rfl ?_
  refine rz_gI 51 dX8_mark_48 rfl rfl fl_X8_37 (fun x2 => ?_)
  refine rz_aald 52 dX8_mark_51 rfl (by decide) (fun x3 => ?_)
  refine rz_aload_n 53 0 dX8_mark_52 rfl rfl ?_
  refine rz_gR 56 dX8_mark_53 rfl rfl fl_X8_26 (fun x4 => ?_)
  refine rz_callV 59 dX8_mark_56 rfl (tX7_copyFrom v (d + 0) x3 x4) rfl rfl rfl rfl ml_X8_159 im_X7_copyFrom se_X7_X7_copyFrom in_X7 co_X7_copyFrom rfl rfl (fun _ => ?_)
  refine rz_aload_n 60 0 dX8_mark_59 rfl rfl ?_
  refine rz_dup 61 dX8_mark_60 rfl rfl ?_
  refine rz_gI 64 dX8_mark_61 rfl rfl fl_X8_37 (fun x5 => ?_)
  refine rz_iconst 65 dX8_mark_64 rfl ci_1 ?_
  refine rz_iadd 66 dX8_mark_65 rfl ?_
  refine rz_pI 69 dX8_mark_66 rfl rfl rfl rfl fl_X8_37 ?_
  refine rz_aload_n 70 0 dX8_mark_69 rfl rfl ?_
  refine rz_aload_n 71 0 dX8_mark_70 rfl rfl ?_
  refine rz_gI 74 dX8_mark_71 rfl rfl fl_X8_37 (fun x6 => ?_)
  refine rz_callV 77 dX8_mark_74 rfl (tX8_tell v (d + 2) l0 x6) rfl rfl rfl rfl ml_X8_166 im_X8_tell se_X8_X8_tell in_X8 co_X8_tell rfl rfl (fun x7 => ?_)
  exact rz_ireturn rfl rfl dX8_mark_77
def fX8_mark (l0 : Nat) : mM Int32 := bGI 8 l0 6 (fun x1 => bIf (x1 < (3 : Int32)) (bGR 8 l0 5 (fun x2 => bGI 8 l0 6 (fun x3 => bAR 16 x2 x3 (fun x4 => bIf (¬ x4 = 0) (fX8_mark_43 l0) (bGR 8 l0 5 (fun x5 => bGI 8 l0 6 (fun x6 => bNew 7 (fun x7 => bCallV 7 x7 (fX7_init x7) (fun _ => bSR 16 x5 x6 x7 (fX8_mark_43 l0)))))))))) (bCallV 8 l0 (fX8_none l0 (7 : Int32)) (fun x8 => bRet x8)))
set_option maxRecDepth 20000 in
theorem rX8_mark (v : mE) (d : Nat) (l0 : Nat) : Rz v RX8 cX8_mark 1 (some .int) false emI (d + 3) 0 [(0, vR l0)] [] (fX8_mark l0) := by
  unfold fX8_mark
  refine rz_aload_n 1 0 dX8_mark_0 rfl rfl ?_
  refine rz_gI 4 dX8_mark_1 rfl rfl fl_X8_37 (fun x1 => ?_)
  refine rz_iconst 5 dX8_mark_4 rfl ci_3 ?_
  refine rz_icmp_lt 15 8 dX8_mark_5 rfl rfl ?_ ?_
  · refine rz_aload_n 16 0 dX8_mark_15 rfl rfl ?_
    refine rz_gR 19 dX8_mark_16 rfl rfl fl_X8_33 (fun x2 => ?_)
    refine rz_aload_n 20 0 dX8_mark_19 rfl rfl ?_
    refine rz_gI 23 dX8_mark_20 rfl rfl fl_X8_37 (fun x3 => ?_)
    refine rz_aald 24 dX8_mark_23 rfl (by decide) (fun x4 => ?_)
    refine rz_ifnonnull 43 27 dX8_mark_24 rfl rfl ?_ ?_
    · exact rz_sub [0] rfl (rX8_mark_43 v d l0)
    · refine rz_aload_n 28 0 dX8_mark_27 rfl rfl ?_
      refine rz_gR 31 dX8_mark_28 rfl rfl fl_X8_33 (fun x5 => ?_)
      refine rz_aload_n 32 0 dX8_mark_31 rfl rfl ?_
      refine rz_gI 35 dX8_mark_32 rfl rfl fl_X8_37 (fun x6 => ?_)
      refine rz_new 38 dX8_mark_35 rfl rfl cl_X8_23 it_X7 in_X7 (fun x7 => ?_)
      refine rz_dup 39 dX8_mark_38 rfl rfl ?_
      refine rz_callI (kc := 7) 42 dX8_mark_39 rfl (tX7_init v (d + 0) x7) rfl rfl rfl rfl ml_X8_25 im_X7_init in_X7 co_X7_init rfl rfl (fun _ => ?_)
      refine rz_aast 43 dX8_mark_42 rfl (by decide) ?_
      exact rz_sub [0] rfl (rX8_mark_43 v d l0)
  · refine rz_aload_n 9 0 dX8_mark_8 rfl rfl ?_
    refine rz_bipush 11 dX8_mark_9 rfl cb_7 ?_
    refine rz_callV 14 dX8_mark_11 rfl (tX8_none v (d + 2) l0 (7 : Int32)) rfl rfl rfl rfl ml_X8_114 im_X8_none se_X8_X8_none in_X8 co_X8_none rfl rfl (fun x8 => ?_)
    exact rz_ireturn rfl rfl dX8_mark_14
theorem tX8_mark (v : mE) (d : Nat) (l0 : Nat) : Mt v yX8_mark cX8_mark 1 (some .int) emI (d + 3) [vR l0] (fX8_mark l0) := mt_of rfl rfl (fun h => by cases h) rfl rfl (rX8_mark v d l0)
theorem dX8_back_0 : decode cX8_back 0 = .ok (.aload_n 0, 1) := by decide +kernel
theorem dX8_back_1 : decode cX8_back 1 = .ok (.getfield 37, 3) := by decide +kernel
theorem dX8_back_4 : decode cX8_back 4 = .ok (.ifCond .le 17, 3) := by decide +kernel
theorem dX8_back_7 : decode cX8_back 7 = .ok (.aload_n 0, 1) := by decide +kernel
theorem dX8_back_8 : decode cX8_back 8 = .ok (.getfield 33, 3) := by decide +kernel
theorem dX8_back_11 : decode cX8_back 11 = .ok (.aload_n 0, 1) := by decide +kernel
theorem dX8_back_12 : decode cX8_back 12 = .ok (.getfield 37, 3) := by decide +kernel
theorem dX8_back_15 : decode cX8_back 15 = .ok (.iconst 1, 1) := by decide +kernel
theorem dX8_back_16 : decode cX8_back 16 = .ok (.isub, 1) := by decide +kernel
theorem dX8_back_17 : decode cX8_back 17 = .ok (.aaload, 1) := by decide +kernel
theorem dX8_back_18 : decode cX8_back 18 = .ok (.ifnonnull 10, 3) := by decide +kernel
theorem dX8_back_21 : decode cX8_back 21 = .ok (.aload_n 0, 1) := by decide +kernel
theorem dX8_back_22 : decode cX8_back 22 = .ok (.bipush 8, 2) := by decide +kernel
theorem dX8_back_24 : decode cX8_back 24 = .ok (.invokevirtual 114, 3) := by decide +kernel
theorem dX8_back_27 : decode cX8_back 27 = .ok (.ireturn, 1) := by decide +kernel
theorem dX8_back_28 : decode cX8_back 28 = .ok (.aload_n 0, 1) := by decide +kernel
theorem dX8_back_29 : decode cX8_back 29 = .ok (.dup, 1) := by decide +kernel
theorem dX8_back_30 : decode cX8_back 30 = .ok (.getfield 37, 3) := by decide +kernel
theorem dX8_back_33 : decode cX8_back 33 = .ok (.iconst 1, 1) := by decide +kernel
theorem dX8_back_34 : decode cX8_back 34 = .ok (.isub, 1) := by decide +kernel
theorem dX8_back_35 : decode cX8_back 35 = .ok (.putfield 37, 3) := by decide +kernel
theorem dX8_back_38 : decode cX8_back 38 = .ok (.aload_n 0, 1) := by decide +kernel
theorem dX8_back_39 : decode cX8_back 39 = .ok (.getfield 26, 3) := by decide +kernel
theorem dX8_back_42 : decode cX8_back 42 = .ok (.aload_n 0, 1) := by decide +kernel
theorem dX8_back_43 : decode cX8_back 43 = .ok (.getfield 33, 3) := by decide +kernel
theorem dX8_back_46 : decode cX8_back 46 = .ok (.aload_n 0, 1) := by decide +kernel
theorem dX8_back_47 : decode cX8_back 47 = .ok (.getfield 37, 3) := by decide +kernel
theorem dX8_back_50 : decode cX8_back 50 = .ok (.aaload, 1) := by decide +kernel
theorem dX8_back_51 : decode cX8_back 51 = .ok (.invokevirtual 159, 3) := by decide +kernel
theorem dX8_back_54 : decode cX8_back 54 = .ok (.aload_n 0, 1) := by decide +kernel
theorem dX8_back_55 : decode cX8_back 55 = .ok (.aload_n 0, 1) := by decide +kernel
theorem dX8_back_56 : decode cX8_back 56 = .ok (.getfield 37, 3) := by decide +kernel
theorem dX8_back_59 : decode cX8_back 59 = .ok (.invokevirtual 166, 3) := by decide +kernel
theorem dX8_back_62 : decode cX8_back 62 = .ok (.ireturn, 1) := by decide +kernel
def fX8_back_21 (l0 : Nat) : mM Int32 := bCallV 8 l0 (fX8_none l0 (8 : Int32)) (fun x1 => bRet x1)
set_option maxRecDepth 20000 in
theorem rX8_back_21 (v : mE) (d : Nat) (l0 : Nat) : Rz v RX8 cX8_back 1 (some .int) false emI (d + 3) 21 [(0, vR l0)] [] (fX8_back_21 l0) := by
  unfold fX8_back_21
  refine rz_aload_n 22 0 dX8_back_21 rfl rfl ?_
  refine rz_bipush 24 dX8_back_22 rfl cb_8 ?_
  refine rz_callV 27 dX8_back_24 rfl (tX8_none v (d + 2) l0 (8 : Int32)) rfl rfl rfl rfl ml_X8_114 im_X8_none se_X8_X8_none in_X8 co_X8_none rfl rfl (fun x1 => ?_)
  exact rz_ireturn rfl rfl dX8_back_27
def fX8_back (l0 : Nat) : mM Int32 := bGI 8 l0 6 (fun x1 => bIf (x1 ≤ 0) (fX8_back_21 l0) (bGR 8 l0 5 (fun x2 => bGI 8 l0 6 (fun x3 => bAR 16 x2 (x3 - (1 : Int32)) (fun x4 => bIf (¬ x4 = 0) (bGI 8 l0 6 (fun x5 => bPI 8 l0 6 (x5 - (1 : Int32)) (bGR 8 l0 3 (fun x6 => bGR 8 l0 5 (fun x7 => bGI 8 l0 6 (fun x8 => bAR 16 x7 x8 (fun x9 => bCallV 7 x6 (fX7_copyFrom x6 x9) (fun _ => bGI 8 l0 6 (fun x10 => bCallV 8 l0 (fX8_tell l0 x10) (fun x11 => bRet x11)))))))))) (fX8_back_21 l0))))))
set_option maxRecDepth 20000 in
theorem rX8_back (v : mE) (d : Nat) (l0 : Nat) : Rz v RX8 cX8_back 1 (some .int) false emI (d + 3) 0 [(0, vR l0)] [] (fX8_back l0) := by
  unfold fX8_back
  refine rz_aload_n 1 0 dX8_back_0 rfl rfl ?_
  refine rz_gI 4 dX8_back_1 rfl rfl fl_X8_37 (fun x1 => ?_)
  refine rz_if_le 21 7 dX8_back_4 rfl rfl ?_ ?_
  · exact rz_sub [0] rfl (rX8_back_21 v d l0)
  · refine rz_aload_n 8 0 dX8_back_7 rfl rfl ?_
    refine rz_gR 11 dX8_back_8 rfl rfl fl_X8_33 (fun x2 => ?_)
    refine rz_aload_n 12 0 dX8_back_11 rfl rfl ?_
    refine rz_gI 15 dX8_back_12 rfl rfl fl_X8_37 (fun x3 => ?_)
    refine rz_iconst 16 dX8_back_15 rfl ci_1 ?_
    refine rz_isub 17 dX8_back_16 rfl ?_
    refine rz_aald 18 dX8_back_17 rfl (by decide) (fun x4 => ?_)
    refine rz_ifnonnull 28 21 dX8_back_18 rfl rfl ?_ ?_
    · refine rz_aload_n 29 0 dX8_back_28 rfl rfl ?_
      refine rz_dup 30 dX8_back_29 rfl rfl ?_
      refine rz_gI 33 dX8_back_30 rfl rfl fl_X8_37 (fun x5 => ?_)
      refine rz_iconst 34 dX8_back_33 rfl ci_1 ?_
      refine rz_isub 35 dX8_back_34 rfl ?_
      refine rz_pI 38 dX8_back_35 rfl rfl rfl rfl fl_X8_37 ?_
      refine rz_aload_n 39 0 dX8_back_38 rfl rfl ?_
      refine rz_gR 42 dX8_back_39 rfl rfl fl_X8_26 (fun x6 => ?_)
      refine rz_aload_n 43 0 dX8_back_42 rfl rfl ?_
      refine rz_gR 46 dX8_back_43 rfl rfl fl_X8_33 (fun x7 => ?_)
      refine rz_aload_n 47 0 dX8_back_46 rfl rfl ?_
      refine rz_gI 50 dX8_back_47 rfl rfl fl_X8_37 (fun x8 => ?_)
      refine rz_aald 51 dX8_back_50 rfl (by decide) (fun x9 => ?_)
      refine rz_callV 54 dX8_back_51 rfl (tX7_copyFrom v (d + 0) x6 x9) rfl rfl rfl rfl ml_X8_159 im_X7_copyFrom se_X7_X7_copyFrom in_X7 co_X7_copyFrom rfl rfl (fun _ => ?_)
      refine rz_aload_n 55 0 dX8_back_54 rfl rfl ?_
      refine rz_aload_n 56 0 dX8_back_55 rfl rfl ?_
      refine rz_gI 59 dX8_back_56 rfl rfl fl_X8_37 (fun x10 => ?_)
      refine rz_callV 62 dX8_back_59 rfl (tX8_tell v (d + 2) l0 x10) rfl rfl rfl rfl ml_X8_166 im_X8_tell se_X8_X8_tell in_X8 co_X8_tell rfl rfl (fun x11 => ?_)
      exact rz_ireturn rfl rfl dX8_back_62
    · exact rz_sub [0] rfl (rX8_back_21 v d l0)
theorem tX8_back (v : mE) (d : Nat) (l0 : Nat) : Mt v yX8_back cX8_back 1 (some .int) emI (d + 3) [vR l0] (fX8_back l0) := mt_of rfl rfl (fun h => by cases h) rfl rfl (rX8_back v d l0)

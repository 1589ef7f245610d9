theorem dX9_heirs_0 : decode cX9_heirs 0 = .ok (.aload_n 0, 1) := by decide +kernel
theorem dX9_heirs_1 : decode cX9_heirs 1 = .ok (.iconst 0, 1) := by decide +kernel
theorem dX9_heirs_2 : decode cX9_heirs 2 = .ok (.putfield 62, 3) := by decide +kernel
theorem dX9_heirs_5 : decode cX9_heirs 5 = .ok (.aload_n 0, 1) := by decide +kernel
theorem dX9_heirs_6 : decode cX9_heirs 6 = .ok (.iconst 0, 1) := by decide +kernel
theorem dX9_heirs_7 : decode cX9_heirs 7 = .ok (.putfield 65, 3) := by decide +kernel
theorem dX9_heirs_10 : decode cX9_heirs 10 = .ok (.aload_n 0, 1) := by decide +kernel
theorem dX9_heirs_11 : decode cX9_heirs 11 = .ok (.iload_n 1, 1) := by decide +kernel
theorem dX9_heirs_12 : decode cX9_heirs 12 = .ok (.invokevirtual 360, 3) := by decide +kernel
theorem dX9_heirs_15 : decode cX9_heirs 15 = .ok (.ifCond .eq 11, 3) := by decide +kernel
theorem dX9_heirs_18 : decode cX9_heirs 18 = .ok (.aload_n 0, 1) := by decide +kernel
theorem dX9_heirs_19 : decode cX9_heirs 19 = .ok (.iload_n 1, 1) := by decide +kernel
theorem dX9_heirs_20 : decode cX9_heirs 20 = .ok (.invokevirtual 369, 3) := by decide +kernel
theorem dX9_heirs_23 : decode cX9_heirs 23 = .ok (.goto 8, 3) := by decide +kernel
theorem dX9_heirs_26 : decode cX9_heirs 26 = .ok (.aload_n 0, 1) := by decide +kernel
theorem dX9_heirs_27 : decode cX9_heirs 27 = .ok (.iconst 2, 1) := by decide +kernel
theorem dX9_heirs_28 : decode cX9_heirs 28 = .ok (.invokevirtual 357, 3) := by decide +kernel
theorem dX9_heirs_31 : decode cX9_heirs 31 = .ok (.ireturn, 1) := by decide +kernel
def fX9_heirs (l0 : Nat) (l1 : Int32) : mM Int32 := bPI 9 l0 1 (0 : Int32) (bPI 9 l0 0 (0 : Int32) (bCallV 9 l0 (fX9_isPerson l0 l1) (fun x1 => bIf (x1 = 0) (bCallV 9 l0 (fX9_refuse l0 (2 : Int32)) (fun x2 => bRet x2)) (bCallV 9 l0 (fX9_childrenOf l0 l1) (fun x3 => bRet x3)))))
set_option maxRecDepth 20000 in
theorem rX9_heirs (v : mE) (d : Nat) (l0 : Nat) (l1 : Int32) : Rz v RX9 cX9_heirs 2 (some .int) false emI (d + 2) 0 [(0, vR l0), (1, vI l1)] [] (fX9_heirs l0 l1) := by
  unfold fX9_heirs
  refine rz_aload_n 1 0 dX9_heirs_0 rfl rfl ?_
  refine rz_iconst 2 dX9_heirs_1 rfl ci_0 ?_
  refine rz_pI 5 dX9_heirs_2 rfl rfl rfl rfl fl_X9_62 ?_
  refine rz_aload_n 6 0 dX9_heirs_5 rfl rfl ?_
  refine rz_iconst 7 dX9_heirs_6 rfl ci_0 ?_
  refine rz_pI 10 dX9_heirs_7 rfl rfl rfl rfl fl_X9_65 ?_
  refine rz_aload_n 11 0 dX9_heirs_10 rfl rfl ?_
  refine rz_iload_n 12 1 dX9_heirs_11 rfl rfl ?_
  refine rz_callV 15 dX9_heirs_12 rfl (tX9_isPerson v (d + 0) l0 l1) rfl rfl rfl rfl ml_X9_360 im_X9_isPerson se_X9_X9_isPerson in_X9 co_X9_isPerson rfl rfl (fun x1 => ?_)
  refine rz_if_eq 26 18 dX9_heirs_15 rfl rfl ?_ ?_
  · refine rz_aload_n 27 0 dX9_heirs_26 rfl rfl ?_
    refine rz_iconst 28 dX9_heirs_27 rfl ci_2 ?_
    refine rz_callV 31 dX9_heirs_28 rfl (tX9_refuse v (d + 1) l0 (2 : Int32)) rfl rfl rfl rfl ml_X9_357 im_X9_refuse se_X9_X9_refuse in_X9 co_X9_refuse rfl rfl (fun x2 => ?_)
    exact rz_ireturn rfl rfl dX9_heirs_31
  · refine rz_aload_n 19 0 dX9_heirs_18 rfl rfl ?_
    refine rz_iload_n 20 1 dX9_heirs_19 rfl rfl ?_
    refine rz_callV 23 dX9_heirs_20 rfl (tX9_childrenOf v (d + 0) l0 l1) rfl rfl rfl rfl ml_X9_369 im_X9_childrenOf se_X9_X9_childrenOf in_X9 co_X9_childrenOf rfl rfl (fun x3 => ?_)
    refine rz_goto 31 dX9_heirs_23 rfl ?_
    exact rz_ireturn rfl rfl dX9_heirs_31
theorem tX9_heirs (v : mE) (d : Nat) (l0 : Nat) (l1 : Int32) : Mt v yX9_heirs cX9_heirs 2 (some .int) emI (d + 2) [vR l0, vI l1] (fX9_heirs l0 l1) := mt_of rfl rfl (fun h => by cases h) rfl rfl (rX9_heirs v d l0 l1)
theorem dX9_rope_0 : decode cX9_rope 0 = .ok (.aload_n 0, 1) := by decide +kernel
theorem dX9_rope_1 : decode cX9_rope 1 = .ok (.iconst 0, 1) := by decide +kernel
theorem dX9_rope_2 : decode cX9_rope 2 = .ok (.putfield 62, 3) := by decide +kernel
theorem dX9_rope_5 : decode cX9_rope 5 = .ok (.aload_n 0, 1) := by decide +kernel
theorem dX9_rope_6 : decode cX9_rope 6 = .ok (.iconst 0, 1) := by decide +kernel
theorem dX9_rope_7 : decode cX9_rope 7 = .ok (.putfield 65, 3) := by decide +kernel
theorem dX9_rope_10 : decode cX9_rope 10 = .ok (.aload_n 0, 1) := by decide +kernel
theorem dX9_rope_11 : decode cX9_rope 11 = .ok (.iload_n 1, 1) := by decide +kernel
theorem dX9_rope_12 : decode cX9_rope 12 = .ok (.invokevirtual 318, 3) := by decide +kernel
theorem dX9_rope_15 : decode cX9_rope 15 = .ok (.ifCond .ne 9, 3) := by decide +kernel
theorem dX9_rope_18 : decode cX9_rope 18 = .ok (.aload_n 0, 1) := by decide +kernel
theorem dX9_rope_19 : decode cX9_rope 19 = .ok (.iconst 2, 1) := by decide +kernel
theorem dX9_rope_20 : decode cX9_rope 20 = .ok (.invokevirtual 357, 3) := by decide +kernel
theorem dX9_rope_23 : decode cX9_rope 23 = .ok (.ireturn, 1) := by decide +kernel
theorem dX9_rope_24 : decode cX9_rope 24 = .ok (.iload_n 2, 1) := by decide +kernel
theorem dX9_rope_25 : decode cX9_rope 25 = .ok (.tableswitch 136 0 7 #[47, 57, 88, 98, 104, 110, 116, 126], 47) := by decide +kernel
theorem dX9_rope_72 : decode cX9_rope 72 = .ok (.aload_n 0, 1) := by decide +kernel
theorem dX9_rope_73 : decode cX9_rope 73 = .ok (.getfield 35, 3) := by decide +kernel
theorem dX9_rope_76 : decode cX9_rope 76 = .ok (.bipush 37, 2) := by decide +kernel
theorem dX9_rope_78 : decode cX9_rope 78 = .ok (.iload_n 1, 1) := by decide +kernel
theorem dX9_rope_79 : decode cX9_rope 79 = .ok (.iadd, 1) := by decide +kernel
theorem dX9_rope_80 : decode cX9_rope 80 = .ok (.iaload, 1) := by decide +kernel
theorem dX9_rope_81 : decode cX9_rope 81 = .ok (.ireturn, 1) := by decide +kernel
theorem dX9_rope_82 : decode cX9_rope 82 = .ok (.aload_n 0, 1) := by decide +kernel
theorem dX9_rope_83 : decode cX9_rope 83 = .ok (.getfield 35, 3) := by decide +kernel
theorem dX9_rope_86 : decode cX9_rope 86 = .ok (.bipush 49, 2) := by decide +kernel
theorem dX9_rope_88 : decode cX9_rope 88 = .ok (.iload_n 1, 1) := by decide +kernel
theorem dX9_rope_89 : decode cX9_rope 89 = .ok (.iadd, 1) := by decide +kernel
theorem dX9_rope_90 : decode cX9_rope 90 = .ok (.iaload, 1) := by decide +kernel
theorem dX9_rope_91 : decode cX9_rope 91 = .ok (.ifCond .ge 12, 3) := by decide +kernel
theorem dX9_rope_94 : decode cX9_rope 94 = .ok (.aload_n 0, 1) := by decide +kernel
theorem dX9_rope_95 : decode cX9_rope 95 = .ok (.bipush 8, 2) := by decide +kernel
theorem dX9_rope_97 : decode cX9_rope 97 = .ok (.invokevirtual 357, 3) := by decide +kernel
theorem dX9_rope_100 : decode cX9_rope 100 = .ok (.goto 12, 3) := by decide +kernel
theorem dX9_rope_103 : decode cX9_rope 103 = .ok (.aload_n 0, 1) := by decide +kernel
theorem dX9_rope_104 : decode cX9_rope 104 = .ok (.getfield 35, 3) := by decide +kernel
theorem dX9_rope_107 : decode cX9_rope 107 = .ok (.bipush 49, 2) := by decide +kernel
theorem dX9_rope_109 : decode cX9_rope 109 = .ok (.iload_n 1, 1) := by decide +kernel
theorem dX9_rope_110 : decode cX9_rope 110 = .ok (.iadd, 1) := by decide +kernel
theorem dX9_rope_111 : decode cX9_rope 111 = .ok (.iaload, 1) := by decide +kernel
theorem dX9_rope_112 : decode cX9_rope 112 = .ok (.ireturn, 1) := by decide +kernel
theorem dX9_rope_113 : decode cX9_rope 113 = .ok (.aload_n 0, 1) := by decide +kernel
theorem dX9_rope_114 : decode cX9_rope 114 = .ok (.getfield 35, 3) := by decide +kernel
theorem dX9_rope_117 : decode cX9_rope 117 = .ok (.bipush 85, 2) := by decide +kernel
theorem dX9_rope_119 : decode cX9_rope 119 = .ok (.iload_n 1, 1) := by decide +kernel
theorem dX9_rope_120 : decode cX9_rope 120 = .ok (.iadd, 1) := by decide +kernel
theorem dX9_rope_121 : decode cX9_rope 121 = .ok (.iaload, 1) := by decide +kernel
theorem dX9_rope_122 : decode cX9_rope 122 = .ok (.ireturn, 1) := by decide +kernel
theorem dX9_rope_123 : decode cX9_rope 123 = .ok (.aload_n 0, 1) := by decide +kernel
theorem dX9_rope_124 : decode cX9_rope 124 = .ok (.iload_n 1, 1) := by decide +kernel
theorem dX9_rope_125 : decode cX9_rope 125 = .ok (.invokevirtual 327, 3) := by decide +kernel
theorem dX9_rope_128 : decode cX9_rope 128 = .ok (.ireturn, 1) := by decide +kernel
theorem dX9_rope_129 : decode cX9_rope 129 = .ok (.aload_n 0, 1) := by decide +kernel
theorem dX9_rope_130 : decode cX9_rope 130 = .ok (.iload_n 1, 1) := by decide +kernel
theorem dX9_rope_131 : decode cX9_rope 131 = .ok (.invokevirtual 339, 3) := by decide +kernel
theorem dX9_rope_134 : decode cX9_rope 134 = .ok (.ireturn, 1) := by decide +kernel
theorem dX9_rope_135 : decode cX9_rope 135 = .ok (.aload_n 0, 1) := by decide +kernel
theorem dX9_rope_136 : decode cX9_rope 136 = .ok (.iload_n 1, 1) := by decide +kernel
theorem dX9_rope_137 : decode cX9_rope 137 = .ok (.invokevirtual 372, 3) := by decide +kernel
theorem dX9_rope_140 : decode cX9_rope 140 = .ok (.ireturn, 1) := by decide +kernel
theorem dX9_rope_141 : decode cX9_rope 141 = .ok (.aload_n 0, 1) := by decide +kernel
theorem dX9_rope_142 : decode cX9_rope 142 = .ok (.getfield 35, 3) := by decide +kernel
theorem dX9_rope_145 : decode cX9_rope 145 = .ok (.bipush 61, 2) := by decide +kernel
theorem dX9_rope_147 : decode cX9_rope 147 = .ok (.iload_n 1, 1) := by decide +kernel
theorem dX9_rope_148 : decode cX9_rope 148 = .ok (.iadd, 1) := by decide +kernel
theorem dX9_rope_149 : decode cX9_rope 149 = .ok (.iaload, 1) := by decide +kernel
theorem dX9_rope_150 : decode cX9_rope 150 = .ok (.ireturn, 1) := by decide +kernel
theorem dX9_rope_151 : decode cX9_rope 151 = .ok (.aload_n 0, 1) := by decide +kernel
theorem dX9_rope_152 : decode cX9_rope 152 = .ok (.getfield 35, 3) := by decide +kernel
theorem dX9_rope_155 : decode cX9_rope 155 = .ok (.bipush 73, 2) := by decide +kernel
theorem dX9_rope_157 : decode cX9_rope 157 = .ok (.iload_n 1, 1) := by decide +kernel
theorem dX9_rope_158 : decode cX9_rope 158 = .ok (.iadd, 1) := by decide +kernel
theorem dX9_rope_159 : decode cX9_rope 159 = .ok (.iaload, 1) := by decide +kernel
theorem dX9_rope_160 : decode cX9_rope 160 = .ok (.ireturn, 1) := by decide +kernel
theorem dX9_rope_161 : decode cX9_rope 161 = .ok (.aload_n 0, 1) := by decide +kernel
theorem dX9_rope_162 : decode cX9_rope 162 = .ok (.iconst 5, 1) := by decide +kernel
theorem dX9_rope_163 : decode cX9_rope 163 = .ok (.invokevirtual 357, 3) := by decide +kernel
theorem dX9_rope_166 : decode cX9_rope 166 = .ok (.ireturn, 1) := by decide +kernel
def fX9_rope (l0 : Nat) (l1 : Int32) (l2 : Int32) : mM Int32 := bPI 9 l0 1 (0 : Int32) (bPI 9 l0 0 (0 : Int32) (bCallV 9 l0 (fX9_isRope l0 l1) (fun x1 => bIf (x1 = 0) (bCallV 9 l0 (fX9_refuse l0 (2 : Int32)) (fun x19 => bRet x19)) (bSw l2 0 [(72, bGR 9 l0 24 (fun x3 => bAI 11 x3 ((37 : Int32) + l1) (fun x4 => bRet x4))), (82, bGR 9 l0 24 (fun x5 => bAI 11 x5 ((49 : Int32) + l1) (fun x6 => bIf (0 ≤ x6) (bGR 9 l0 24 (fun x7 => bAI 11 x7 ((49 : Int32) + l1) (fun x8 => bRet x8))) (bCallV 9 l0 (fX9_refuse l0 (8 : Int32)) (fun x9 => bRet x9))))), (113, bGR 9 l0 24 (fun x10 => bAI 11 x10 ((85 : Int32) + l1) (fun x11 => bRet x11))), (123, bCallV 9 l0 (fX9_yardsOfRope l0 l1) (fun x12 => bRet x12)), (129, bCallV 9 l0 (fX9_reachOf l0 l1) (fun x13 => bRet x13)), (135, bCallV 9 l0 (fX9_oldest l0 l1) (fun x14 => bRet x14)), (141, bGR 9 l0 24 (fun x15 => bAI 11 x15 ((61 : Int32) + l1) (fun x16 => bRet x16))), (151, bGR 9 l0 24 (fun x17 => bAI 11 x17 ((73 : Int32) + l1) (fun x18 => bRet x18)))] (bCallV 9 l0 (fX9_refuse l0 (5 : Int32)) (fun x2 => bRet x2))))))
set_option maxRecDepth 20000 in
theorem rX9_rope (v : mE) (d : Nat) (l0 : Nat) (l1 : Int32) (l2 : Int32) : Rz v RX9 cX9_rope 3 (some .int) false emI (d + 2) 0 [(0, vR l0), (1, vI l1), (2, vI l2)] [] (fX9_rope l0 l1 l2) := by
  unfold fX9_rope
  refine rz_aload_n 1 0 dX9_rope_0 rfl rfl ?_
  refine rz_iconst 2 dX9_rope_1 rfl ci_0 ?_
  refine rz_pI 5 dX9_rope_2 rfl rfl rfl rfl fl_X9_62 ?_
  refine rz_aload_n 6 0 dX9_rope_5 rfl rfl ?_
  refine rz_iconst 7 dX9_rope_6 rfl ci_0 ?_
  refine rz_pI 10 dX9_rope_7 rfl rfl rfl rfl fl_X9_65 ?_
  refine rz_aload_n 11 0 dX9_rope_10 rfl rfl ?_
  refine rz_iload_n 12 1 dX9_rope_11 rfl rfl ?_
  refine rz_callV 15 dX9_rope_12 rfl (tX9_isRope v (d + 0) l0 l1) rfl rfl rfl rfl ml_X9_318 im_X9_isRope se_X9_X9_isRope in_X9 co_X9_isRope rfl rfl (fun x1 => ?_)
  refine rz_if_ne 24 18 dX9_rope_15 rfl rfl ?_ ?_
  · refine rz_iload_n 25 2 dX9_rope_24 rfl rfl ?_
    refine rz_table 161 dX9_rope_25 rfl rfl rfl rfl ?_ ?_
    · refine rz_aload_n 162 0 dX9_rope_161 rfl rfl ?_
      refine rz_iconst 163 dX9_rope_162 rfl ci_5 ?_
      refine rz_callV 166 dX9_rope_163 rfl (tX9_refuse v (d + 1) l0 (5 : Int32)) rfl rfl rfl rfl ml_X9_357 im_X9_refuse se_X9_X9_refuse in_X9 co_X9_refuse rfl rfl (fun x2 => ?_)
      exact rz_ireturn rfl rfl dX9_rope_166
    · refine List.forall_mem_cons.mpr ⟨?_, List.forall_mem_cons.mpr ⟨?_, List.forall_mem_cons.mpr ⟨?_, List.forall_mem_cons.mpr ⟨?_, List.forall_mem_cons.mpr ⟨?_, List.forall_mem_cons.mpr ⟨?_, List.forall_mem_cons.mpr ⟨?_, List.forall_mem_cons.mpr ⟨?_, fun _ h => absurd h List.not_mem_nil⟩⟩⟩⟩⟩⟩⟩⟩
      · refine rz_pr ?_
        refine rz_aload_n 73 0 dX9_rope_72 rfl rfl ?_
        refine rz_gR 76 dX9_rope_73 rfl rfl fl_X9_35 (fun x3 => ?_)
        refine rz_bipush 78 dX9_rope_76 rfl cb_37 ?_
        refine rz_iload_n 79 1 dX9_rope_78 rfl rfl ?_
        refine rz_iadd 80 dX9_rope_79 rfl ?_
        refine rz_iald 81 dX9_rope_80 rfl (fun x4 => ?_)
        exact rz_ireturn rfl rfl dX9_rope_81
      · refine rz_pr ?_
        refine rz_aload_n 83 0 dX9_rope_82 rfl rfl ?_
        refine rz_gR 86 dX9_rope_83 rfl rfl fl_X9_35 (fun x5 => ?_)
        refine rz_bipush 88 dX9_rope_86 rfl cb_49 ?_
        refine rz_iload_n 89 1 dX9_rope_88 rfl rfl ?_
        refine rz_iadd 90 dX9_rope_89 rfl ?_
        refine rz_iald 91 dX9_rope_90 rfl (fun x6 => ?_)
        refine rz_if_ge 103 94 dX9_rope_91 rfl rfl ?_ ?_
        · refine rz_aload_n 104 0 dX9_rope_103 rfl rfl ?_
          refine rz_gR 107 dX9_rope_104 rfl rfl fl_X9_35 (fun x7 => ?_)
          refine rz_bipush 109 dX9_rope_107 rfl cb_49 ?_
          refine rz_iload_n 110 1 dX9_rope_109 rfl rfl ?_
          refine rz_iadd 111 dX9_rope_110 rfl ?_
          refine rz_iald 112 dX9_rope_111 rfl (fun x8 => ?_)
          exact rz_ireturn rfl rfl dX9_rope_112
        · refine rz_aload_n 95 0 dX9_rope_94 rfl rfl ?_
          refine rz_bipush 97 dX9_rope_95 rfl cb_8 ?_
          refine rz_callV 100 dX9_rope_97 rfl (tX9_refuse v (d + 1) l0 (8 : Int32)) rfl rfl rfl rfl ml_X9_357 im_X9_refuse se_X9_X9_refuse in_X9 co_X9_refuse rfl rfl (fun x9 => ?_)
          refine rz_goto 112 dX9_rope_100 rfl ?_
          exact rz_ireturn rfl rfl dX9_rope_112
      · refine rz_pr ?_
        refine rz_aload_n 114 0 dX9_rope_113 rfl rfl ?_
        refine rz_gR 117 dX9_rope_114 rfl rfl fl_X9_35 (fun x10 => ?_)
        refine rz_bipush 119 dX9_rope_117 rfl cb_85 ?_
        refine rz_iload_n 120 1 dX9_rope_119 rfl rfl ?_
        refine rz_iadd 121 dX9_rope_120 rfl ?_
        refine rz_iald 122 dX9_rope_121 rfl (fun x11 => ?_)
        exact rz_ireturn rfl rfl dX9_rope_122
      · refine rz_pr ?_
        refine rz_aload_n 124 0 dX9_rope_123 rfl rfl ?_
        refine rz_iload_n 125 1 dX9_rope_124 rfl rfl ?_
        refine rz_callV 128 dX9_rope_125 rfl (tX9_yardsOfRope v (d + 1) l0 l1) rfl rfl rfl rfl ml_X9_327 im_X9_yardsOfRope se_X9_X9_yardsOfRope in_X9 co_X9_yardsOfRope rfl rfl (fun x12 => ?_)
        exact rz_ireturn rfl rfl dX9_rope_128
      · refine rz_pr ?_
        refine rz_aload_n 130 0 dX9_rope_129 rfl rfl ?_
        refine rz_iload_n 131 1 dX9_rope_130 rfl rfl ?_
        refine rz_callV 134 dX9_rope_131 rfl (tX9_reachOf v (d + 0) l0 l1) rfl rfl rfl rfl ml_X9_339 im_X9_reachOf se_X9_X9_reachOf in_X9 co_X9_reachOf rfl rfl (fun x13 => ?_)
        exact rz_ireturn rfl rfl dX9_rope_134
      · refine rz_pr ?_
        refine rz_aload_n 136 0 dX9_rope_135 rfl rfl ?_
        refine rz_iload_n 137 1 dX9_rope_136 rfl rfl ?_
        refine rz_callV 140 dX9_rope_137 rfl (tX9_oldest v (d + 0) l0 l1) rfl rfl rfl rfl ml_X9_372 im_X9_oldest se_X9_X9_oldest in_X9 co_X9_oldest rfl rfl (fun x14 => ?_)
        exact rz_ireturn rfl rfl dX9_rope_140
      · refine rz_pr ?_
        refine rz_aload_n 142 0 dX9_rope_141 rfl rfl ?_
        refine rz_gR 145 dX9_rope_142 rfl rfl fl_X9_35 (fun x15 => ?_)
        refine rz_bipush 147 dX9_rope_145 rfl cb_61 ?_
        refine rz_iload_n 148 1 dX9_rope_147 rfl rfl ?_
        refine rz_iadd 149 dX9_rope_148 rfl ?_
        refine rz_iald 150 dX9_rope_149 rfl (fun x16 => ?_)
        exact rz_ireturn rfl rfl dX9_rope_150
      · refine rz_pr ?_
        refine rz_aload_n 152 0 dX9_rope_151 rfl rfl ?_
        refine rz_gR 155 dX9_rope_152 rfl rfl fl_X9_35 (fun x17 => ?_)
        refine rz_bipush 157 dX9_rope_155 rfl cb_73 ?_
        refine rz_iload_n 158 1 dX9_rope_157 rfl rfl ?_
        refine rz_iadd 159 dX9_rope_158 rfl ?_
        refine rz_iald 160 dX9_rope_159 rfl (fun x18 => ?_)
        exact rz_ireturn rfl rfl dX9_rope_160
  · refine rz_aload_n 19 0 dX9_rope_18 rfl rfl ?_
    refine rz_iconst 20 dX9_rope_19 rfl ci_2 ?_
    refine rz_callV 23 dX9_rope_20 rfl (tX9_refuse v (d + 1) l0 (2 : Int32)) rfl rfl rfl rfl ml_X9_357 im_X9_refuse se_X9_X9_refuse in_X9 co_X9_refuse rfl rfl (fun x19 => ?_)
    exact rz_ireturn rfl rfl dX9_rope_23
theorem tX9_rope (v : mE) (d : Nat) (l0 : Nat) (l1 : Int32) (l2 : Int32) : Mt v yX9_rope cX9_rope 3 (some .int) emI (d + 2) [vR l0, vI l1, vI l2] (fX9_rope l0 l1 l2) := mt_of rfl rfl (fun h => by cases h) rfl rfl (rX9_rope v d l0 l1 l2)
theorem dX9_piece_0 : decode cX9_piece 0 = .ok (.aload_n 0, 1) := by decide +kernel
theorem dX9_piece_1 : decode cX9_piece 1 = .ok (.iconst 0, 1) := by decide +kernel
theorem dX9_piece_2 : decode cX9_piece 2 = .ok (.putfield 62, 3) := by decide +kernel
theorem dX9_piece_5 : decode cX9_piece 5 = .ok (.aload_n 0, 1) := by decide +kernel
theorem dX9_piece_6 : decode cX9_piece 6 = .ok (.iconst 0, 1) := by decide +kernel
theorem dX9_piece_7 : decode cX9_piece 7 = .ok (.putfield 65, 3) := by decide +kernel
theorem dX9_piece_10 : decode cX9_piece 10 = .ok (.aload_n 0, 1) := by decide +kernel
theorem dX9_piece_11 : decode cX9_piece 11 = .ok (.iload_n 1, 1) := by decide +kernel
theorem dX9_piece_12 : decode cX9_piece 12 = .ok (.invokevirtual 318, 3) := by decide +kernel
theorem dX9_piece_15 : decode cX9_piece 15 = .ok (.ifCond .ne 9, 3) := by decide +kernel
theorem dX9_piece_18 : decode cX9_piece 18 = .ok (.aload_n 0, 1) := by decide +kernel
theorem dX9_piece_19 : decode cX9_piece 19 = .ok (.iconst 2, 1) := by decide +kernel
theorem dX9_piece_20 : decode cX9_piece 20 = .ok (.invokevirtual 357, 3) := by decide +kernel
theorem dX9_piece_23 : decode cX9_piece 23 = .ok (.ireturn, 1) := by decide +kernel
theorem dX9_piece_24 : decode cX9_piece 24 = .ok (.iload_n 2, 1) := by decide +kernel
theorem dX9_piece_25 : decode cX9_piece 25 = .ok (.i2l, 1) := by decide +kernel
theorem dX9_piece_26 : decode cX9_piece 26 = .ok (.lconst 0, 1) := by decide +kernel
theorem dX9_piece_27 : decode cX9_piece 27 = .ok (.aload_n 0, 1) := by decide +kernel
theorem dX9_piece_28 : decode cX9_piece 28 = .ok (.getfield 35, 3) := by decide +kernel
theorem dX9_piece_31 : decode cX9_piece 31 = .ok (.bipush 85, 2) := by decide +kernel
theorem dX9_piece_33 : decode cX9_piece 33 = .ok (.iload_n 1, 1) := by decide +kernel
theorem dX9_piece_34 : decode cX9_piece 34 = .ok (.iadd, 1) := by decide +kernel
theorem dX9_piece_35 : decode cX9_piece 35 = .ok (.iaload, 1) := by decide +kernel
theorem dX9_piece_36 : decode cX9_piece 36 = .ok (.iconst 1, 1) := by decide +kernel
theorem dX9_piece_37 : decode cX9_piece 37 = .ok (.isub, 1) := by decide +kernel
theorem dX9_piece_38 : decode cX9_piece 38 = .ok (.i2l, 1) := by decide +kernel
theorem dX9_piece_39 : decode cX9_piece 39 = .ok (.invokestatic 97, 3) := by decide +kernel
theorem dX9_piece_42 : decode cX9_piece 42 = .ok (.ifCond .eq 13, 3) := by decide +kernel
theorem dX9_piece_45 : decode cX9_piece 45 = .ok (.iload_n 3, 1) := by decide +kernel
theorem dX9_piece_46 : decode cX9_piece 46 = .ok (.i2l, 1) := by decide +kernel
theorem dX9_piece_47 : decode cX9_piece 47 = .ok (.lconst 0, 1) := by decide +kernel
theorem dX9_piece_48 : decode cX9_piece 48 = .ok (.lconst 1, 1) := by decide +kernel
theorem dX9_piece_49 : decode cX9_piece 49 = .ok (.invokestatic 97, 3) := by decide +kernel
theorem dX9_piece_52 : decode cX9_piece 52 = .ok (.ifCond .ne 9, 3) := by decide +kernel
theorem dX9_piece_55 : decode cX9_piece 55 = .ok (.aload_n 0, 1) := by decide +kernel
theorem dX9_piece_56 : decode cX9_piece 56 = .ok (.iconst 5, 1) := by decide +kernel
theorem dX9_piece_57 : decode cX9_piece 57 = .ok (.invokevirtual 357, 3) := by decide +kernel
theorem dX9_piece_60 : decode cX9_piece 60 = .ok (.ireturn, 1) := by decide +kernel
theorem dX9_piece_61 : decode cX9_piece 61 = .ok (.iload_n 3, 1) := by decide +kernel
theorem dX9_piece_62 : decode cX9_piece 62 = .ok (.ifCond .ne 20, 3) := by decide +kernel
theorem dX9_piece_65 : decode cX9_piece 65 = .ok (.aload_n 0, 1) := by decide +kernel
theorem dX9_piece_66 : decode cX9_piece 66 = .ok (.getfield 35, 3) := by decide +kernel
theorem dX9_piece_69 : decode cX9_piece 69 = .ok (.bipush 97, 2) := by decide +kernel
theorem dX9_piece_71 : decode cX9_piece 71 = .ok (.bipush 8, 2) := by decide +kernel
theorem dX9_piece_73 : decode cX9_piece 73 = .ok (.iload_n 1, 1) := by decide +kernel
theorem dX9_piece_74 : decode cX9_piece 74 = .ok (.imul, 1) := by decide +kernel
theorem dX9_piece_75 : decode cX9_piece 75 = .ok (.iadd, 1) := by decide +kernel
theorem dX9_piece_76 : decode cX9_piece 76 = .ok (.iload_n 2, 1) := by decide +kernel
theorem dX9_piece_77 : decode cX9_piece 77 = .ok (.iadd, 1) := by decide +kernel
theorem dX9_piece_78 : decode cX9_piece 78 = .ok (.iaload, 1) := by decide +kernel
theorem dX9_piece_79 : decode cX9_piece 79 = .ok (.goto 9, 3) := by decide +kernel
theorem dX9_piece_82 : decode cX9_piece 82 = .ok (.aload_n 0, 1) := by decide +kernel
theorem dX9_piece_83 : decode cX9_piece 83 = .ok (.iload_n 1, 1) := by decide +kernel
theorem dX9_piece_84 : decode cX9_piece 84 = .ok (.iload_n 2, 1) := by decide +kernel
theorem dX9_piece_85 : decode cX9_piece 85 = .ok (.invokevirtual 333, 3) := by decide +kernel
theorem dX9_piece_88 : decode cX9_piece 88 = .ok (.ireturn, 1) := by decide +kernel
def fX9_piece_55 (l0 : Nat) : mM Int32 := bCallV 9 l0 (fX9_refuse l0 (5 : Int32)) (fun x1 => bRet x1)
set_option maxRecDepth 20000 in
theorem rX9_piece_55 (v : mE) (d : Nat) (l0 : Nat) : Rz v RX9 cX9_piece 4 (some .int) false emI (d + 2) 55 [(0, vR l0)] [] (fX9_piece_55 l0) := by
  unfold fX9_piece_55
  refine rz_aload_n 56 0 dX9_piece_55 rfl rfl ?_
  refine rz_iconst 57 dX9_piece_56 rfl ci_5 ?_
  refine rz_callV 60 dX9_piece_57 rfl (tX9_refuse v (d + 1) l0 (5 : Int32)) rfl rfl rfl rfl ml_X9_357 im_X9_refuse se_X9_X9_refuse in_X9 co_X9_refuse rfl rfl (fun x1 => ?_)
  exact rz_ireturn rfl rfl dX9_piece_60
def fX9_piece (l0 : Nat) (l1 : Int32) (l2 : Int32) (l3 : Int32) : mM Int32 := bPI 9 l0 1 (0 : Int32) (bPI 9 l0 0 (0 : Int32) (bCallV 9 l0 (fX9_isRope l0 l1) (fun x1 => bIf (x1 = 0) (bCallV 9 l0 (fX9_refuse l0 (2 : Int32)) (fun x9 => bRet x9)) (bGR 9 l0 24 (fun x2 => bAI 11 x2 ((85 : Int32) + l1) (fun x3 => bCall (fX9_isIn (Int32.toInt64 l2) (0 : Int64) (Int32.toInt64 (x3 - (1 : Int32)))) (fun x4 => bIf (x4 = 0) (fX9_piece_55 l0) (bCall (fX9_isIn (Int32.toInt64 l3) (0 : Int64) (1 : Int64)) (fun x5 => bIf (x5 = 0) (fX9_piece_55 l0) (bIf (l3 = 0) (bGR 9 l0 24 (fun x7 => bAI 11 x7 (((97 : Int32) + ((8 : Int32) * l1)) + l2) (fun x8 => bRet x8))) (bCallV 9 l0 (fX9_ageOf l0 l1 l2) (fun x6 => bRet x6))))))))))))
set_option maxRecDepth 20000 in
theorem rX9_piece (v : mE) (d : Nat) (l0 : Nat) (l1 : Int32) (l2 : Int32) (l3 : Int32) : Rz v RX9 cX9_piece 4 (some .int) false emI (d + 2) 0 [(0, vR l0), (1, vI l1), (2, vI l2), (3, vI l3)] [] (fX9_piece l0 l1 l2 l3) := by
  unfold fX9_piece
  refine rz_aload_n 1 0 dX9_piece_0 rfl rfl ?_
  refine rz_iconst 2 dX9_piece_1 rfl ci_0 ?_
  refine rz_pI 5 dX9_piece_2 rfl rfl rfl rfl fl_X9_62 ?_
  refine rz_aload_n 6 0 dX9_piece_5 rfl rfl ?_
  refine rz_iconst 7 dX9_piece_6 rfl ci_0 ?_
  refine rz_pI 10 dX9_piece_7 rfl rfl rfl rfl fl_X9_65 ?_
  refine rz_aload_n 11 0 dX9_piece_10 rfl rfl ?_
  refine rz_iload_n 12 1 dX9_piece_11 rfl rfl ?_
  refine rz_callV 15 dX9_piece_12 rfl (tX9_isRope v (d + 0) l0 l1) rfl rfl rfl rfl ml_X9_318 im_X9_isRope se_X9_X9_isRope in_X9 co_X9_isRope rfl rfl (fun x1 => ?_)
  refine rz_if_ne 24 18 dX9_piece_15 rfl rfl ?_ ?_
  · refine rz_iload_n 25 2 dX9_piece_24 rfl rfl ?_
    refine rz_i2l 26 dX9_piece_25 rfl ?_
    refine rz_lconst 27 dX9_piece_26 rfl cl_0 ?_
    refine rz_aload_n 28 0 dX9_piece_27 rfl rfl ?_
    refine rz_gR 31 dX9_piece_28 rfl rfl fl_X9_35 (fun x2 => ?_)
    refine rz_bipush 33 dX9_piece_31 rfl cb_85 ?_
    refine rz_iload_n 34 1 dX9_piece_33 rfl rfl ?_
    refine rz_iadd 35 dX9_piece_34 rfl ?_
    refine rz_iald 36 dX9_piece_35 rfl (fun x3 => ?_)
    refine rz_iconst 37 dX9_piece_36 rfl ci_1 ?_
    refine rz_isub 38 dX9_piece_37 rfl ?_
    refine rz_i2l 39 dX9_piece_38 rfl ?_
    refine rz_callS 42 dX9_piece_39 rfl (tX9_isIn v (d + 1) (Int32.toInt64 l2) (0 : Int64) (Int32.toInt64 (x3 - (1 : Int32)))) rfl rfl ml_X9_97 sm_X9_isIn in_X9 co_X9_isIn rfl rfl (fun x4 => ?_)
    refine rz_if_eq 55 45 dX9_piece_42 rfl rfl ?_ ?_
    · exact rz_sub [0] rfl (rX9_piece_55 v d l0)
    · refine rz_iload_n 46 3 dX9_piece_45 rfl rfl ?_
      refine rz_i2l 47 dX9_piece_46 rfl ?_
      refine rz_lconst 48 dX9_piece_47 rfl cl_0 ?_
      refine rz_lconst 49 dX9_piece_48 rfl cl_1 ?_
      refine rz_callS 52 dX9_piece_49 rfl (tX9_isIn v (d + 1) (Int32.toInt64 l3) (0 : Int64) (1 : Int64)) rfl rfl ml_X9_97 sm_X9_isIn in_X9 co_X9_isIn rfl rfl (fun x5 => ?_)
      refine rz_if_ne 61 55 dX9_piece_52 rfl rfl ?_ ?_
      · refine rz_iload_n 62 3 dX9_piece_61 rfl rfl ?_
        refine rz_if_ne 82 65 dX9_piece_62 rfl rfl ?_ ?_
        · refine rz_aload_n 83 0 dX9_piece_82 rfl rfl ?_
          refine rz_iload_n 84 1 dX9_piece_83 rfl rfl ?_
          refine rz_iload_n 85 2 dX9_piece_84 rfl rfl ?_
          refine rz_callV 88 dX9_piece_85 rfl (tX9_ageOf v (d + 1) l0 l1 l2) rfl rfl rfl rfl ml_X9_333 im_X9_ageOf se_X9_X9_ageOf in_X9 co_X9_ageOf rfl rfl (fun x6 => ?_)
          exact rz_ireturn rfl rfl dX9_piece_88
        · refine rz_aload_n 66 0 dX9_piece_65 rfl rfl ?_
          refine rz_gR 69 dX9_piece_66 rfl rfl fl_X9_35 (fun x7 => ?_)
          refine rz_bipush 71 dX9_piece_69 rfl cb_97 ?_
          refine rz_bipush 73 dX9_piece_71 rfl cb_8 ?_
          refine rz_iload_n 74 1 dX9_piece_73 rfl rfl ?_
          refine rz_imul 75 dX9_piece_74 rfl ?_
          refine rz_iadd 76 dX9_piece_75 rfl ?_
          refine rz_iload_n 77 2 dX9_piece_76 rfl rfl ?_
          refine rz_iadd 78 dX9_piece_77 rfl ?_
          refine rz_iald 79 dX9_piece_78 rfl (fun x8 => ?_)
          refine rz_goto 88 dX9_piece_79 rfl ?_
          exact rz_ireturn rfl rfl dX9_piece_88
      · exact rz_sub [0] rfl (rX9_piece_55 v d l0)
  · refine rz_aload_n 19 0 dX9_piece_18 rfl rfl ?_
    refine rz_iconst 20 dX9_piece_19 rfl ci_2 ?_
    refine rz_callV 23 dX9_piece_20 rfl (tX9_refuse v (d + 1) l0 (2 : Int32)) rfl rfl rfl rfl ml_X9_357 im_X9_refuse se_X9_X9_refuse in_X9 co_X9_refuse rfl rfl (fun x9 => ?_)
    exact rz_ireturn rfl rfl dX9_piece_23
theorem tX9_piece (v : mE) (d : Nat) (l0 : Nat) (l1 : Int32) (l2 : Int32) (l3 : Int32) : Mt v yX9_piece cX9_piece 4 (some .int) emI (d + 2) [vR l0, vI l1, vI l2, vI l3] (fX9_piece l0 l1 l2 l3) := mt_of rfl rfl (fun h => by cases h) rfl rfl (rX9_piece v d l0 l1 l2 l3)
theorem dX9_seed_0 : decode cX9_seed 0 = .ok (.aload_n 0, 1) := by decide +kernel
theorem dX9_seed_1 : decode cX9_seed 1 = .ok (.iconst 0, 1) := by decide +kernel
theorem dX9_seed_2 : decode cX9_seed 2 = .ok (.putfield 62, 3) := by decide +kernel
theorem dX9_seed_5 : decode cX9_seed 5 = .ok (.aload_n 0, 1) := by decide +kernel
theorem dX9_seed_6 : decode cX9_seed 6 = .ok (.iconst 0, 1) := by decide +kernel
theorem dX9_seed_7 : decode cX9_seed 7 = .ok (.putfield 65, 3) := by decide +kernel
theorem dX9_seed_10 : decode cX9_seed 10 = .ok (.iload_n 1, 1) := by decide +kernel
theorem dX9_seed_11 : decode cX9_seed 11 = .ok (.i2l, 1) := by decide +kernel
theorem dX9_seed_12 : decode cX9_seed 12 = .ok (.lconst 0, 1) := by decide +kernel
theorem dX9_seed_13 : decode cX9_seed 13 = .ok (.ldc2_w 375, 3) := by decide +kernel
theorem dX9_seed_16 : decode cX9_seed 16 = .ok (.invokestatic 97, 3) := by decide +kernel
theorem dX9_seed_19 : decode cX9_seed 19 = .ok (.ifCond .ne 9, 3) := by decide +kernel
theorem dX9_seed_22 : decode cX9_seed 22 = .ok (.aload_n 0, 1) := by decide +kernel
theorem dX9_seed_23 : decode cX9_seed 23 = .ok (.iconst 5, 1) := by decide +kernel
theorem dX9_seed_24 : decode cX9_seed 24 = .ok (.invokevirtual 77, 3) := by decide +kernel
theorem dX9_seed_27 : decode cX9_seed 27 = .ok (.ireturn, 1) := by decide +kernel
theorem dX9_seed_28 : decode cX9_seed 28 = .ok (.aload_n 0, 1) := by decide +kernel
theorem dX9_seed_29 : decode cX9_seed 29 = .ok (.getfield 35, 3) := by decide +kernel
theorem dX9_seed_32 : decode cX9_seed 32 = .ok (.bipush 6, 2) := by decide +kernel
theorem dX9_seed_34 : decode cX9_seed 34 = .ok (.iload_n 1, 1) := by decide +kernel
theorem dX9_seed_35 : decode cX9_seed 35 = .ok (.iastore, 1) := by decide +kernel
theorem dX9_seed_36 : decode cX9_seed 36 = .ok (.iconst 1, 1) := by decide +kernel
theorem dX9_seed_37 : decode cX9_seed 37 = .ok (.ireturn, 1) := by decide +kernel
def fX9_seed (l0 : Nat) (l1 : Int32) : mM Int32 := bPI 9 l0 1 (0 : Int32) (bPI 9 l0 0 (0 : Int32) (bCall (fX9_isIn (Int32.toInt64 l1) (0 : Int64) (9999 : Int64)) (fun x1 => bIf (x1 = 0) (bCallV 9 l0 (fX9_no l0 (5 : Int32)) (fun x3 => bRetZ x3)) (bGR 9 l0 24 (fun x2 => bSI x2 (6 : Int32) l1 (bRetZ (1 : Int32)))))))
set_option maxRecDepth 20000 in
theorem rX9_seed (v : mE) (d : Nat) (l0 : Nat) (l1 : Int32) : Rz v RX9 cX9_seed 2 (some .boolean) false emI (d + 1) 0 [(0, vR l0), (1, vI l1)] [] (fX9_seed l0 l1) := by
  unfold fX9_seed
  refine rz_aload_n 1 0 dX9_seed_0 rfl rfl ?_
  refine rz_iconst 2 dX9_seed_1 rfl ci_0 ?_
  refine rz_pI 5 dX9_seed_2 rfl rfl rfl rfl fl_X9_62 ?_
  refine rz_aload_n 6 0 dX9_seed_5 rfl rfl ?_
  refine rz_iconst 7 dX9_seed_6 rfl ci_0 ?_
  refine rz_pI 10 dX9_seed_7 rfl rfl rfl rfl fl_X9_65 ?_
  refine rz_iload_n 11 1 dX9_seed_10 rfl rfl ?_
  refine rz_i2l 12 dX9_seed_11 rfl ?_
  refine rz_lconst 13 dX9_seed_12 rfl cl_0 ?_
  refine rz_ldc2 16 dX9_seed_13 rfl cu_X9_375 ?_
  refine rz_callS 19 dX9_seed_16 rfl (tX9_isIn v (d + 0) (Int32.toInt64 l1) (0 : Int64) (9999 : Int64)) rfl rfl ml_X9_97 sm_X9_isIn in_X9 co_X9_isIn rfl rfl (fun x1 => ?_)
  refine rz_if_ne 28 22 dX9_seed_19 rfl rfl ?_ ?_
  · refine rz_aload_n 29 0 dX9_seed_28 rfl rfl ?_
    refine rz_gR 32 dX9_seed_29 rfl rfl fl_X9_35 (fun x2 => ?_)
    refine rz_bipush 34 dX9_seed_32 rfl cb_6 ?_
    refine rz_iload_n 35 1 dX9_seed_34 rfl rfl ?_
    refine rz_iast 36 dX9_seed_35 rfl ?_
    refine rz_iconst 37 dX9_seed_36 rfl ci_1 ?_
    exact rz_zreturn rfl rfl dX9_seed_37
  · refine rz_aload_n 23 0 dX9_seed_22 rfl rfl ?_
    refine rz_iconst 24 dX9_seed_23 rfl ci_5 ?_
    refine rz_callV 27 dX9_seed_24 rfl (tX9_no v (d + 0) l0 (5 : Int32)) rfl rfl rfl rfl ml_X9_77 im_X9_no se_X9_X9_no in_X9 co_X9_no rfl rfl (fun x3 => ?_)
    exact rz_zreturn rfl rfl dX9_seed_27
theorem tX9_seed (v : mE) (d : Nat) (l0 : Nat) (l1 : Int32) : Mt v yX9_seed cX9_seed 2 (some .boolean) emI (d + 1) [vR l0, vI l1] (fX9_seed l0 l1) := mt_of rfl rfl (fun h => by cases h) rfl rfl (rX9_seed v d l0 l1)
theorem dX9_isCase_0 : decode cX9_isCase 0 = .ok (.aload_n 0, 1) := by decide +kernel
theorem dX9_isCase_1 : decode cX9_isCase 1 = .ok (.getfield 35, 3) := by decide +kernel
theorem dX9_isCase_4 : decode cX9_isCase 4 = .ok (.iload_n 1, 1) := by decide +kernel
theorem dX9_isCase_5 : decode cX9_isCase 5 = .ok (.iaload, 1) := by decide +kernel
theorem dX9_isCase_6 : decode cX9_isCase 6 = .ok (.istore 4, 2) := by decide +kernel
theorem dX9_isCase_8 : decode cX9_isCase 8 = .ok (.iload 4, 2) := by decide +kernel
theorem dX9_isCase_10 : decode cX9_isCase 10 = .ok (.ifCond .ne 22, 3) := by decide +kernel
theorem dX9_isCase_13 : decode cX9_isCase 13 = .ok (.aload_n 0, 1) := by decide +kernel
theorem dX9_isCase_14 : decode cX9_isCase 14 = .ok (.getfield 35, 3) := by decide +kernel
theorem dX9_isCase_17 : decode cX9_isCase 17 = .ok (.bipush 61, 2) := by decide +kernel
theorem dX9_isCase_19 : decode cX9_isCase 19 = .ok (.iload_n 2, 1) := by decide +kernel
theorem dX9_isCase_20 : decode cX9_isCase 20 = .ok (.iadd, 1) := by decide +kernel
theorem dX9_isCase_21 : decode cX9_isCase 21 = .ok (.iaload, 1) := by decide +kernel
theorem dX9_isCase_22 : decode cX9_isCase 22 = .ok (.iconst 1, 1) := by decide +kernel
theorem dX9_isCase_23 : decode cX9_isCase 23 = .ok (.if_icmp .ne 7, 3) := by decide +kernel
theorem dX9_isCase_26 : decode cX9_isCase 26 = .ok (.iconst 1, 1) := by decide +kernel
theorem dX9_isCase_27 : decode cX9_isCase 27 = .ok (.goto 4, 3) := by decide +kernel
theorem dX9_isCase_30 : decode cX9_isCase 30 = .ok (.iconst 0, 1) := by decide +kernel
theorem dX9_isCase_31 : decode cX9_isCase 31 = .ok (.ireturn, 1) := by decide +kernel
theorem dX9_isCase_32 : decode cX9_isCase 32 = .ok (.iload 4, 2) := by decide +kernel
theorem dX9_isCase_34 : decode cX9_isCase 34 = .ok (.iconst 1, 1) := by decide +kernel
theorem dX9_isCase_35 : decode cX9_isCase 35 = .ok (.if_icmp .ne 9, 3) := by decide +kernel
theorem dX9_isCase_38 : decode cX9_isCase 38 = .ok (.aload_n 0, 1) := by decide +kernel
theorem dX9_isCase_39 : decode cX9_isCase 39 = .ok (.iload_n 2, 1) := by decide +kernel
theorem dX9_isCase_40 : decode cX9_isCase 40 = .ok (.invokevirtual 348, 3) := by decide +kernel
theorem dX9_isCase_43 : decode cX9_isCase 43 = .ok (.ireturn, 1) := by decide +kernel
theorem dX9_isCase_44 : decode cX9_isCase 44 = .ok (.iload 4, 2) := by decide +kernel
theorem dX9_isCase_46 : decode cX9_isCase 46 = .ok (.iconst 2, 1) := by decide +kernel
theorem dX9_isCase_47 : decode cX9_isCase 47 = .ok (.if_icmp .ne 11, 3) := by decide +kernel
theorem dX9_isCase_50 : decode cX9_isCase 50 = .ok (.aload_n 0, 1) := by decide +kernel
theorem dX9_isCase_51 : decode cX9_isCase 51 = .ok (.iload_n 2, 1) := by decide +kernel
theorem dX9_isCase_52 : decode cX9_isCase 52 = .ok (.invokevirtual 327, 3) := by decide +kernel
theorem dX9_isCase_55 : decode cX9_isCase 55 = .ok (.goto 69, 3) := by decide +kernel
theorem dX9_isCase_58 : decode cX9_isCase 58 = .ok (.iload 4, 2) := by decide +kernel
theorem dX9_isCase_60 : decode cX9_isCase 60 = .ok (.iconst 3, 1) := by decide +kernel
theorem dX9_isCase_61 : decode cX9_isCase 61 = .ok (.if_icmp .ne 11, 3) := by decide +kernel
theorem dX9_isCase_64 : decode cX9_isCase 64 = .ok (.aload_n 0, 1) := by decide +kernel
theorem dX9_isCase_65 : decode cX9_isCase 65 = .ok (.iload_n 2, 1) := by decide +kernel
theorem dX9_isCase_66 : decode cX9_isCase 66 = .ok (.invokevirtual 339, 3) := by decide +kernel
theorem dX9_isCase_69 : decode cX9_isCase 69 = .ok (.goto 55, 3) := by decide +kernel
theorem dX9_isCase_72 : decode cX9_isCase 72 = .ok (.iload 4, 2) := by decide +kernel
theorem dX9_isCase_74 : decode cX9_isCase 74 = .ok (.iconst 4, 1) := by decide +kernel
theorem dX9_isCase_75 : decode cX9_isCase 75 = .ok (.if_icmp .ne 11, 3) := by decide +kernel
theorem dX9_isCase_78 : decode cX9_isCase 78 = .ok (.aload_n 0, 1) := by decide +kernel
theorem dX9_isCase_79 : decode cX9_isCase 79 = .ok (.iload_n 2, 1) := by decide +kernel
theorem dX9_isCase_80 : decode cX9_isCase 80 = .ok (.invokevirtual 330, 3) := by decide +kernel
theorem dX9_isCase_83 : decode cX9_isCase 83 = .ok (.goto 41, 3) := by decide +kernel
theorem dX9_isCase_86 : decode cX9_isCase 86 = .ok (.iload 4, 2) := by decide +kernel
theorem dX9_isCase_88 : decode cX9_isCase 88 = .ok (.iconst 5, 1) := by decide +kernel
theorem dX9_isCase_89 : decode cX9_isCase 89 = .ok (.if_icmp .ne 11, 3) := by decide +kernel
theorem dX9_isCase_92 : decode cX9_isCase 92 = .ok (.aload_n 0, 1) := by decide +kernel
theorem dX9_isCase_93 : decode cX9_isCase 93 = .ok (.iload_n 2, 1) := by decide +kernel
theorem dX9_isCase_94 : decode cX9_isCase 94 = .ok (.invokevirtual 372, 3) := by decide +kernel
theorem dX9_isCase_97 : decode cX9_isCase 97 = .ok (.goto 27, 3) := by decide +kernel
theorem dX9_isCase_100 : decode cX9_isCase 100 = .ok (.iload 4, 2) := by decide +kernel
theorem dX9_isCase_102 : decode cX9_isCase 102 = .ok (.bipush 6, 2) := by decide +kernel
theorem dX9_isCase_104 : decode cX9_isCase 104 = .ok (.if_icmp .ne 14, 3) := by decide +kernel
theorem dX9_isCase_107 : decode cX9_isCase 107 = .ok (.aload_n 0, 1) := by decide +kernel
theorem dX9_isCase_108 : decode cX9_isCase 108 = .ok (.iload_n 3, 1) := by decide +kernel
theorem dX9_isCase_109 : decode cX9_isCase 109 = .ok (.invokevirtual 369, 3) := by decide +kernel
theorem dX9_isCase_112 : decode cX9_isCase 112 = .ok (.invokestatic 377, 3) := by decide +kernel
theorem dX9_isCase_115 : decode cX9_isCase 115 = .ok (.goto 9, 3) := by decide +kernel
theorem dX9_isCase_118 : decode cX9_isCase 118 = .ok (.aload_n 0, 1) := by decide +kernel
theorem dX9_isCase_119 : decode cX9_isCase 119 = .ok (.getfield 35, 3) := by decide +kernel
theorem dX9_isCase_122 : decode cX9_isCase 122 = .ok (.iconst 5, 1) := by decide +kernel
theorem dX9_isCase_123 : decode cX9_isCase 123 = .ok (.iaload, 1) := by decide +kernel
theorem dX9_isCase_124 : decode cX9_isCase 124 = .ok (.istore 5, 2) := by decide +kernel
theorem dX9_isCase_126 : decode cX9_isCase 126 = .ok (.aload_n 0, 1) := by decide +kernel
theorem dX9_isCase_127 : decode cX9_isCase 127 = .ok (.getfield 35, 3) := by decide +kernel
theorem dX9_isCase_130 : decode cX9_isCase 130 = .ok (.iload_n 1, 1) := by decide +kernel
theorem dX9_isCase_131 : decode cX9_isCase 131 = .ok (.iconst 1, 1) := by decide +kernel
theorem dX9_isCase_132 : decode cX9_isCase 132 = .ok (.iadd, 1) := by decide +kernel
theorem dX9_isCase_133 : decode cX9_isCase 133 = .ok (.iaload, 1) := by decide +kernel
theorem dX9_isCase_134 : decode cX9_isCase 134 = .ok (.bipush 60, 2) := by decide +kernel
theorem dX9_isCase_136 : decode cX9_isCase 136 = .ok (.if_icmp .ne 24, 3) := by decide +kernel
theorem dX9_isCase_139 : decode cX9_isCase 139 = .ok (.iload 5, 2) := by decide +kernel
theorem dX9_isCase_141 : decode cX9_isCase 141 = .ok (.aload_n 0, 1) := by decide +kernel
theorem dX9_isCase_142 : decode cX9_isCase 142 = .ok (.getfield 35, 3) := by decide +kernel
theorem dX9_isCase_145 : decode cX9_isCase 145 = .ok (.iload_n 1, 1) := by decide +kernel
theorem dX9_isCase_146 : decode cX9_isCase 146 = .ok (.iconst 2, 1) := by decide +kernel
theorem dX9_isCase_147 : decode cX9_isCase 147 = .ok (.iadd, 1) := by decide +kernel
theorem dX9_isCase_148 : decode cX9_isCase 148 = .ok (.iaload, 1) := by decide +kernel
theorem dX9_isCase_149 : decode cX9_isCase 149 = .ok (.if_icmp .ge 7, 3) := by decide +kernel
theorem dX9_isCase_152 : decode cX9_isCase 152 = .ok (.iconst 1, 1) := by decide +kernel
theorem dX9_isCase_153 : decode cX9_isCase 153 = .ok (.goto 59, 3) := by decide +kernel
theorem dX9_isCase_156 : decode cX9_isCase 156 = .ok (.iconst 0, 1) := by decide +kernel
theorem dX9_isCase_157 : decode cX9_isCase 157 = .ok (.goto 55, 3) := by decide +kernel
theorem dX9_isCase_160 : decode cX9_isCase 160 = .ok (.aload_n 0, 1) := by decide +kernel
theorem dX9_isCase_161 : decode cX9_isCase 161 = .ok (.getfield 35, 3) := by decide +kernel
theorem dX9_isCase_164 : decode cX9_isCase 164 = .ok (.iload_n 1, 1) := by decide +kernel
theorem dX9_isCase_165 : decode cX9_isCase 165 = .ok (.iconst 1, 1) := by decide +kernel
theorem dX9_isCase_166 : decode cX9_isCase 166 = .ok (.iadd, 1) := by decide +kernel
theorem dX9_isCase_167 : decode cX9_isCase 167 = .ok (.iaload, 1) := by decide +kernel
theorem dX9_isCase_168 : decode cX9_isCase 168 = .ok (.bipush 62, 2) := by decide +kernel
theorem dX9_isCase_170 : decode cX9_isCase 170 = .ok (.if_icmp .ne 24, 3) := by decide +kernel
theorem dX9_isCase_173 : decode cX9_isCase 173 = .ok (.iload 5, 2) := by decide +kernel
theorem dX9_isCase_175 : decode cX9_isCase 175 = .ok (.aload_n 0, 1) := by decide +kernel
theorem dX9_isCase_176 : decode cX9_isCase 176 = .ok (.getfield 35, 3) := by decide +kernel
theorem dX9_isCase_179 : decode cX9_isCase 179 = .ok (.iload_n 1, 1) := by decide +kernel
theorem dX9_isCase_180 : decode cX9_isCase 180 = .ok (.iconst 2, 1) := by decide +kernel
theorem dX9_isCase_181 : decode cX9_isCase 181 = .ok (.iadd, 1) := by decide +kernel
theorem dX9_isCase_182 : decode cX9_isCase 182 = .ok (.iaload, 1) := by decide +kernel
theorem dX9_isCase_183 : decode cX9_isCase 183 = .ok (.if_icmp .le 7, 3) := by decide +kernel
theorem dX9_isCase_186 : decode cX9_isCase 186 = .ok (.iconst 1, 1) := by decide +kernel
theorem dX9_isCase_187 : decode cX9_isCase 187 = .ok (.goto 25, 3) := by decide +kernel
theorem dX9_isCase_190 : decode cX9_isCase 190 = .ok (.iconst 0, 1) := by decide +kernel
theorem dX9_isCase_191 : decode cX9_isCase 191 = .ok (.goto 21, 3) := by decide +kernel
theorem dX9_isCase_194 : decode cX9_isCase 194 = .ok (.iload 5, 2) := by decide +kernel
theorem dX9_isCase_196 : decode cX9_isCase 196 = .ok (.aload_n 0, 1) := by decide +kernel
theorem dX9_isCase_197 : decode cX9_isCase 197 = .ok (.getfield 35, 3) := by decide +kernel
theorem dX9_isCase_200 : decode cX9_isCase 200 = .ok (.iload_n 1, 1) := by decide +kernel
theorem dX9_isCase_201 : decode cX9_isCase 201 = .ok (.iconst 2, 1) := by decide +kernel
theorem dX9_isCase_202 : decode cX9_isCase 202 = .ok (.iadd, 1) := by decide +kernel
theorem dX9_isCase_203 : decode cX9_isCase 203 = .ok (.iaload, 1) := by decide +kernel
theorem dX9_isCase_204 : decode cX9_isCase 204 = .ok (.if_icmp .ne 7, 3) := by decide +kernel
theorem dX9_isCase_207 : decode cX9_isCase 207 = .ok (.iconst 1, 1) := by decide +kernel
theorem dX9_isCase_208 : decode cX9_isCase 208 = .ok (.goto 4, 3) := by decide +kernel
theorem dX9_isCase_211 : decode cX9_isCase 211 = .ok (.iconst 0, 1) := by decide +kernel
theorem dX9_isCase_212 : decode cX9_isCase 212 = .ok (.ireturn, 1) := by decide +kernel
def fX9_isCase_124 (l0 : Nat) (l1 : Int32) (s0 : Int32) : mM Int32 := bGR 9 l0 24 (fun x1 => bAI 11 x1 (l1 + (1 : Int32)) (fun x2 => bIf (x2 = (60 : Int32)) (bGR 9 l0 24 (fun x9 => bAI 11 x9 (l1 + (2 : Int32)) (fun x10 => bIf (x10 ≤ s0) (bRetZ (0 : Int32)) (bRetZ (1 : Int32))))) (bGR 9 l0 24 (fun x3 => bAI 11 x3 (l1 + (1 : Int32)) (fun x4 => bIf (x4 = (62 : Int32)) (bGR 9 l0 24 (fun x7 => bAI 11 x7 (l1 + (2 : Int32)) (fun x8 => bIf (s0 ≤ x8) (bRetZ (0 : Int32)) (bRetZ (1 : Int32))))) (bGR 9 l0 24 (fun x5 => bAI 11 x5 (l1 + (2 : Int32)) (fun x6 => bIf (s0 = x6) (bRetZ (1 : Int32)) (bRetZ (0 : Int32))))))))))
set_option maxRecDepth 20000 in
theorem rX9_isCase_124 (v : mE) (d : Nat) (l0 : Nat) (l1 : Int32) (s0 : Int32) : Rz v RX9 cX9_isCase 6 (some .boolean) false emI (d + 3) 124 [(0, vR l0), (1, vI l1)] [vI s0] (fX9_isCase_124 l0 l1 s0) := by
  unfold fX9_isCase_124
  refine rz_istore (lv' := [(5, vI s0), (0, vR l0), (1, vI l1)]) 126 dX9_isCase_124 rfl rfl rfl ?_
  refine rz_aload_n 127 1 dX9_isCase_126 rfl rfl ?_
  refine rz_gR 130 dX9_isCase_127 rfl rfl fl_X9_35 (fun x1 => ?_)
  refine rz_iload_n 131 2 dX9_isCase_130 rfl rfl ?_
  refine rz_iconst 132 dX9_isCase_131 rfl ci_1 ?_
  refine rz_iadd 133 dX9_isCase_132 rfl ?_
  refine rz_iald 134 dX9_isCase_133 rfl (fun x2 => ?_)
  refine rz_bipush 136 dX9_isCase_134 rfl cb_60 ?_
  refine rz_icmp_ne 160 139 dX9_isCase_136 rfl rfl ?_ ?_
  · refine rz_aload_n 161 1 dX9_isCase_160 rfl rfl ?_
    refine rz_gR 164 dX9_isCase_161 rfl rfl fl_X9_35 (fun x3 => ?_)
    refine rz_iload_n 165 2 dX9_isCase_164 rfl rfl ?_
    refine rz_iconst 166 dX9_isCase_165 rfl ci_1 ?_
    refine rz_iadd 167 dX9_isCase_166 rfl ?_
    refine rz_iald 168 dX9_isCase_167 rfl (fun x4 => ?_)
    refine rz_bipush 170 dX9_isCase_168 rfl cb_62 ?_
    refine rz_icmp_ne 194 173 dX9_isCase_170 rfl rfl ?_ ?_
    · refine rz_iload 196 0 dX9_isCase_194 rfl rfl ?_
      refine rz_aload_n 197 1 dX9_isCase_196 rfl rfl ?_
      refine rz_gR 200 dX9_isCase_197 rfl rfl fl_X9_35 (fun x5 => ?_)
      refine rz_iload_n 201 2 dX9_isCase_200 rfl rfl ?_
      refine rz_iconst 202 dX9_isCase_201 rfl ci_2 ?_
      refine rz_iadd 203 dX9_isCase_202 rfl ?_
      refine rz_iald 204 dX9_isCase_203 rfl (fun x6 => ?_)
      refine rz_icmp_ne 211 207 dX9_isCase_204 rfl rfl ?_ ?_
      · refine rz_iconst 212 dX9_isCase_211 rfl ci_0 ?_
        exact rz_zreturn rfl rfl dX9_isCase_212
      · refine rz_iconst 208 dX9_isCase_207 rfl ci_1 ?_
        refine rz_goto 212 dX9_isCase_208 rfl ?_
        exact rz_zreturn rfl rfl dX9_isCase_212
    · refine rz_iload 175 0 dX9_isCase_173 rfl rfl ?_
      refine rz_aload_n 176 1 dX9_isCase_175 rfl rfl ?_
      refine rz_gR 179 dX9_isCase_176 rfl rfl fl_X9_35 (fun x7 => ?_)
      refine rz_iload_n 180 2 dX9_isCase_179 rfl rfl ?_
      refine rz_iconst 181 dX9_isCase_180 rfl ci_2 ?_
      refine rz_iadd 182 dX9_isCase_181 rfl ?_
      refine rz_iald 183 dX9_isCase_182 rfl (fun x8 => ?_)
      refine rz_icmp_le 190 186 dX9_isCase_183 rfl rfl ?_ ?_
      · refine rz_iconst 191 dX9_isCase_190 rfl ci_0 ?_
        refine rz_goto 212 dX9_isCase_191 rfl ?_
        exact rz_zreturn rfl rfl dX9_isCase_212
      · refine rz_iconst 187 dX9_isCase_186 rfl ci_1 ?_
        refine rz_goto 212 dX9_isCase_187 rfl ?_
        exact rz_zreturn rfl rfl dX9_isCase_212
  · refine rz_iload 141 0 dX9_isCase_139 rfl rfl ?_
    refine rz_aload_n 142 1 dX9_isCase_141 rfl rfl ?_
    refine rz_gR 145 dX9_isCase_142 rfl rfl fl_X9_35 (fun x9 => ?_)
    refine rz_iload_n 146 2 dX9_isCase_145 rfl rfl ?_
    refine rz_iconst 147 dX9_isCase_146 rfl ci_2 ?_
    refine rz_iadd 148 dX9_isCase_147 rfl ?_
    refine rz_iald 149 dX9_isCase_148 rfl (fun x10 => ?_)
    refine rz_icmp_ge 156 152 dX9_isCase_149 rfl rfl ?_ ?_
    · refine rz_iconst 157 dX9_isCase_156 rfl ci_0 ?_
      refine rz_goto 212 dX9_isCase_157 rfl ?_
      exact rz_zreturn rfl rfl dX9_isCase_212
    · refine rz_iconst 153 dX9_isCase_152 rfl ci_1 ?_
      refine rz_goto 212 dX9_isCase_153 rfl ?_
      exact rz_zreturn rfl rfl dX9_isCase_212
def fX9_isCase (l0 : Nat) (l1 : Int32) (l2 : Int32) (l3 : Int32) : mM Int32 := bGR 9 l0 24 (fun x1 => bAI 11 x1 l1 (fun x2 => bIf (x2 = 0) (bGR 9 l0 24 (fun x12 => bAI 11 x12 ((61 : Int32) + l2) (fun x13 => bIf (x13 = (1 : Int32)) (bRetZ (1 : Int32)) (bRetZ (0 : Int32))))) (bIf (x2 = (1 : Int32)) (bCallV 9 l0 (fX9_reaches l0 l2) (fun x11 => bRetZ x11)) (bIf (x2 = (2 : Int32)) (bCallV 9 l0 (fX9_yardsOfRope l0 l2) (fun x10 => fX9_isCase_124 l0 l1 x10)) (bIf (x2 = (3 : Int32)) (bCallV 9 l0 (fX9_reachOf l0 l2) (fun x9 => fX9_isCase_124 l0 l1 x9)) (bIf (x2 = (4 : Int32)) (bCallV 9 l0 (fX9_knotsOfRope l0 l2) (fun x8 => fX9_isCase_124 l0 l1 x8)) (bIf (x2 = (5 : Int32)) (bCallV 9 l0 (fX9_oldest l0 l2) (fun x7 => fX9_isCase_124 l0 l1 x7)) (bIf (x2 = (6 : Int32)) (bCallV 9 l0 (fX9_childrenOf l0 l3) (fun x5 => bCall (fX9_bits x5) (fun x6 => fX9_isCase_124 l0 l1 x6))) (bGR 9 l0 24 (fun x3 => bAI 11 x3 (5 : Int32) (fun x4 => fX9_isCase_124 l0 l1 x4)))))))))))
set_option maxRecDepth 20000 in
theorem rX9_isCase (v : mE) (d : Nat) (l0 : Nat) (l1 : Int32) (l2 : Int32) (l3 : Int32) : Rz v RX9 cX9_isCase 6 (some .boolean) false emI (d + 3) 0 [(0, vR l0), (1, vI l1), (2, vI l2), (3, vI l3)] [] (fX9_isCase l0 l1 l2 l3) := by
  unfold fX9_isCase
  refine rz_aload_n 1 0 dX9_isCase_0 rfl rfl ?_
  refine rz_gR 4 dX9_isCase_1 rfl rfl fl_X9_35 (fun x1 => ?_)
  refine rz_iload_n 5 1 dX9_isCase_4 rfl rfl ?_
  refine rz_iald 6 dX9_isCase_5 rfl (fun x2 => ?_)
  refine rz_istore (lv' := [(4, vI x2), (0, vR l0), (1, vI l1), (2, vI l2), (3, vI l3)]) 8 dX9_isCase_6 rfl rfl rfl ?_
  refine rz_iload 10 0 dX9_isCase_8 rfl rfl ?_
  refine rz_if_ne 32 13 dX9_isCase_10 rfl rfl ?_ ?_
  · refine rz_iload 34 0 dX9_isCase_32 rfl rfl ?_
    refine rz_iconst 35 dX9_isCase_34 rfl ci_1 ?_
    refine rz_icmp_ne 44 38 dX9_isCase_35 rfl rfl ?_ ?_
    · refine rz_iload 46 0 dX9_isCase_44 rfl rfl ?_
      refine rz_iconst 47 dX9_isCase_46 rfl ci_2 ?_
      refine rz_icmp_ne 58 50 dX9_isCase_47 rfl rfl ?_ ?_
      · refine rz_iload 60 0 dX9_isCase_58 rfl rfl ?_
        refine rz_iconst 61 dX9_isCase_60 rfl ci_3 ?_
        refine rz_icmp_ne 72 64 dX9_isCase_61 rfl rfl ?_ ?_
        · refine rz_iload 74 0 dX9_isCase_72 rfl rfl ?_
          refine rz_iconst 75 dX9_isCase_74 rfl ci_4 ?_
          refine rz_icmp_ne 86 78 dX9_isCase_75 rfl rfl ?_ ?_
          · refine rz_iload 88 0 dX9_isCase_86 rfl rfl ?_
            refine rz_iconst 89 dX9_isCase_88 rfl ci_5 ?_
            refine rz_icmp_ne 100 92 dX9_isCase_89 rfl rfl ?_ ?_
            · refine rz_iload 102 0 dX9_isCase_100 rfl rfl ?_
              refine rz_bipush 104 dX9_isCase_102 rfl cb_6 ?_
              refine rz_icmp_ne 118 107 dX9_isCase_104 rfl rfl ?_ ?_
              · refine rz_aload_n 119 1 dX9_isCase_118 rfl rfl ?_
                refine rz_gR 122 dX9_isCase_119 rfl rfl fl_X9_35 (fun x3 => ?_)
                refine rz_iconst 123 dX9_isCase_122 rfl ci_5 ?_
                refine rz_iald 124 dX9_isCase_123 rfl (fun x4 => ?_)
                exact rz_sub [1, 2] rfl (rX9_isCase_124 v d l0 l1 x4)
              · refine rz_aload_n 108 1 dX9_isCase_107 rfl rfl ?_
                refine rz_iload_n 109 4 dX9_isCase_108 rfl rfl ?_
                refine rz_callV 112 dX9_isCase_109 rfl (tX9_childrenOf v (d + 1) l0 l3) rfl rfl rfl rfl ml_X9_369 im_X9_childrenOf se_X9_X9_childrenOf in_X9 co_X9_childrenOf rfl rfl (fun x5 => ?_)
                refine rz_callS 115 dX9_isCase_112 rfl (tX9_bits v (d + 2) x5) rfl rfl ml_X9_377 sm_X9_bits in_X9 co_X9_bits rfl rfl (fun x6 => ?_)
                refine rz_goto 124 dX9_isCase_115 rfl ?_
                exact rz_sub [1, 2] rfl (rX9_isCase_124 v d l0 l1 x6)
            · refine rz_aload_n 93 1 dX9_isCase_92 rfl rfl ?_
              refine rz_iload_n 94 3 dX9_isCase_93 rfl rfl ?_
              refine rz_callV 97 dX9_isCase_94 rfl (tX9_oldest v (d + 1) l0 l2) rfl rfl rfl rfl ml_X9_372 im_X9_oldest se_X9_X9_oldest in_X9 co_X9_oldest rfl rfl (fun x7 => ?_)
              refine rz_goto 124 dX9_isCase_97 rfl ?_
              exact rz_sub [1, 2] rfl (rX9_isCase_124 v d l0 l1 x7)
          · refine rz_aload_n 79 1 dX9_isCase_78 rfl rfl ?_
            refine rz_iload_n 80 3 dX9_isCase_79 rfl rfl ?_
            refine rz_callV 83 dX9_isCase_80 rfl (tX9_knotsOfRope v (d + 2) l0 l2) rfl rfl rfl rfl ml_X9_330 im_X9_knotsOfRope se_X9_X9_knotsOfRope in_X9 co_X9_knotsOfRope rfl rfl (fun x8 => ?_)
            refine rz_goto 124 dX9_isCase_83 rfl ?_
            exact rz_sub [1, 2] rfl (rX9_isCase_124 v d l0 l1 x8)
        · refine rz_aload_n 65 1 dX9_isCase_64 rfl rfl ?_
          refine rz_iload_n 66 3 dX9_isCase_65 rfl rfl ?_
          refine rz_callV 69 dX9_isCase_66 rfl (tX9_reachOf v (d + 1) l0 l2) rfl rfl rfl rfl ml_X9_339 im_X9_reachOf se_X9_X9_reachOf in_X9 co_X9_reachOf rfl rfl (fun x9 => ?_)
          refine rz_goto 124 dX9_isCase_69 rfl ?_
          exact rz_sub [1, 2] rfl (rX9_isCase_124 v d l0 l1 x9)
      · refine rz_aload_n 51 1 dX9_isCase_50 rfl rfl ?_
        refine rz_iload_n 52 3 dX9_isCase_51 rfl rfl ?_
        refine rz_callV 55 dX9_isCase_52 rfl (tX9_yardsOfRope v (d + 2) l0 l2) rfl rfl rfl rfl ml_X9_327 im_X9_yardsOfRope se_X9_X9_yardsOfRope in_X9 co_X9_yardsOfRope rfl rfl (fun x10 => ?_)
        refine rz_goto 124 dX9_isCase_55 rfl ?_
        exact rz_sub [1, 2] rfl (rX9_isCase_124 v d l0 l1 x10)
    · refine rz_aload_n 39 1 dX9_isCase_38 rfl rfl ?_
      refine rz_iload_n 40 3 dX9_isCase_39 rfl rfl ?_
      refine rz_callV 43 dX9_isCase_40 rfl (tX9_reaches v (d + 0) l0 l2) rfl rfl rfl rfl ml_X9_348 im_X9_reaches se_X9_X9_reaches in_X9 co_X9_reaches rfl rfl (fun x11 => ?_)
      exact rz_zreturn rfl rfl dX9_isCase_43
  · refine rz_aload_n 14 1 dX9_isCase_13 rfl rfl ?_
    refine rz_gR 17 dX9_isCase_14 rfl rfl fl_X9_35 (fun x12 => ?_)
    refine rz_bipush 19 dX9_isCase_17 rfl cb_61 ?_
    refine rz_iload_n 20 3 dX9_isCase_19 rfl rfl ?_
    refine rz_iadd 21 dX9_isCase_20 rfl ?_
    refine rz_iald 22 dX9_isCase_21 rfl (fun x13 => ?_)
    refine rz_iconst 23 dX9_isCase_22 rfl ci_1 ?_
    refine rz_icmp_ne 30 26 dX9_isCase_23 rfl rfl ?_ ?_
    · refine rz_iconst 31 dX9_isCase_30 rfl ci_0 ?_
      exact rz_zreturn rfl rfl dX9_isCase_31
    · refine rz_iconst 27 dX9_isCase_26 rfl ci_1 ?_
      refine rz_goto 31 dX9_isCase_27 rfl ?_
      exact rz_zreturn rfl rfl dX9_isCase_31
theorem tX9_isCase (v : mE) (d : Nat) (l0 : Nat) (l1 : Int32) (l2 : Int32) (l3 : Int32) : Mt v yX9_isCase cX9_isCase 6 (some .boolean) emI (d + 3) [vR l0, vI l1, vI l2, vI l3] (fX9_isCase l0 l1 l2 l3) := mt_of rfl rfl (fun h => by cases h) rfl rfl (rX9_isCase v d l0 l1 l2 l3)
theorem dX9_holdsRule_0 : decode cX9_holdsRule 0 = .ok (.iconst 0, 1) := by decide +kernel
theorem dX9_holdsRule_1 : decode cX9_holdsRule 1 = .ok (.istore 4, 2) := by decide +kernel
theorem dX9_holdsRule_3 : decode cX9_holdsRule 3 = .ok (.aload_n 0, 1) := by decide +kernel
theorem dX9_holdsRule_4 : decode cX9_holdsRule 4 = .ok (.getfield 35, 3) := by decide +kernel
theorem dX9_holdsRule_7 : decode cX9_holdsRule 7 = .ok (.sipush 290, 3) := by decide +kernel
theorem dX9_holdsRule_10 : decode cX9_holdsRule 10 = .ok (.iload_n 1, 1) := by decide +kernel
theorem dX9_holdsRule_11 : decode cX9_holdsRule 11 = .ok (.iadd, 1) := by decide +kernel
theorem dX9_holdsRule_12 : decode cX9_holdsRule 12 = .ok (.iaload, 1) := by decide +kernel
theorem dX9_holdsRule_13 : decode cX9_holdsRule 13 = .ok (.istore 5, 2) := by decide +kernel
theorem dX9_holdsRule_15 : decode cX9_holdsRule 15 = .ok (.iload 5, 2) := by decide +kernel
theorem dX9_holdsRule_17 : decode cX9_holdsRule 17 = .ok (.aload_n 0, 1) := by decide +kernel
theorem dX9_holdsRule_18 : decode cX9_holdsRule 18 = .ok (.getfield 35, 3) := by decide +kernel
theorem dX9_holdsRule_21 : decode cX9_holdsRule 21 = .ok (.sipush 302, 3) := by decide +kernel
theorem dX9_holdsRule_24 : decode cX9_holdsRule 24 = .ok (.iload_n 1, 1) := by decide +kernel
theorem dX9_holdsRule_25 : decode cX9_holdsRule 25 = .ok (.iadd, 1) := by decide +kernel
theorem dX9_holdsRule_26 : decode cX9_holdsRule 26 = .ok (.iaload, 1) := by decide +kernel
theorem dX9_holdsRule_27 : decode cX9_holdsRule 27 = .ok (.if_icmp .ge 174, 3) := by decide +kernel
theorem dX9_holdsRule_30 : decode cX9_holdsRule 30 = .ok (.sipush 326, 3) := by decide +kernel
theorem dX9_holdsRule_33 : decode cX9_holdsRule 33 = .ok (.iconst 4, 1) := by decide +kernel
theorem dX9_holdsRule_34 : decode cX9_holdsRule 34 = .ok (.iload 5, 2) := by decide +kernel
theorem dX9_holdsRule_36 : decode cX9_holdsRule 36 = .ok (.imul, 1) := by decide +kernel
theorem dX9_holdsRule_37 : decode cX9_holdsRule 37 = .ok (.iadd, 1) := by decide +kernel
theorem dX9_holdsRule_38 : decode cX9_holdsRule 38 = .ok (.istore 6, 2) := by decide +kernel
theorem dX9_holdsRule_40 : decode cX9_holdsRule 40 = .ok (.aload_n 0, 1) := by decide +kernel
theorem dX9_holdsRule_41 : decode cX9_holdsRule 41 = .ok (.getfield 35, 3) := by decide +kernel
theorem dX9_holdsRule_44 : decode cX9_holdsRule 44 = .ok (.iload 6, 2) := by decide +kernel
theorem dX9_holdsRule_46 : decode cX9_holdsRule 46 = .ok (.iaload, 1) := by decide +kernel
theorem dX9_holdsRule_47 : decode cX9_holdsRule 47 = .ok (.bipush 8, 2) := by decide +kernel
theorem dX9_holdsRule_49 : decode cX9_holdsRule 49 = .ok (.if_icmp .ge 24, 3) := by decide +kernel
theorem dX9_holdsRule_52 : decode cX9_holdsRule 52 = .ok (.aload_n 0, 1) := by decide +kernel
theorem dX9_holdsRule_53 : decode cX9_holdsRule 53 = .ok (.getfield 44, 3) := by decide +kernel
theorem dX9_holdsRule_56 : decode cX9_holdsRule 56 = .ok (.iload 4, 2) := by decide +kernel
theorem dX9_holdsRule_58 : decode cX9_holdsRule 58 = .ok (.aload_n 0, 1) := by decide +kernel
theorem dX9_holdsRule_59 : decode cX9_holdsRule 59 = .ok (.iload 6, 2) := by decide +kernel
theorem dX9_holdsRule_61 : decode cX9_holdsRule 61 = .ok (.iload_n 2, 1) := by decide +kernel
theorem dX9_holdsRule_62 : decode cX9_holdsRule 62 = .ok (.iload_n 3, 1) := by decide +kernel
theorem dX9_holdsRule_63 : decode cX9_holdsRule 63 = .ok (.invokevirtual 380, 3) := by decide +kernel
theorem dX9_holdsRule_66 : decode cX9_holdsRule 66 = .ok (.bastore, 1) := by decide +kernel
theorem dX9_holdsRule_67 : decode cX9_holdsRule 67 = .ok (.iinc 4 1, 3) := by decide +kernel
theorem dX9_holdsRule_70 : decode cX9_holdsRule 70 = .ok (.goto 125, 3) := by decide +kernel
theorem dX9_holdsRule_73 : decode cX9_holdsRule 73 = .ok (.aload_n 0, 1) := by decide +kernel
theorem dX9_holdsRule_74 : decode cX9_holdsRule 74 = .ok (.getfield 35, 3) := by decide +kernel
theorem dX9_holdsRule_77 : decode cX9_holdsRule 77 = .ok (.iload 6, 2) := by decide +kernel
theorem dX9_holdsRule_79 : decode cX9_holdsRule 79 = .ok (.iaload, 1) := by decide +kernel
theorem dX9_holdsRule_80 : decode cX9_holdsRule 80 = .ok (.bipush 8, 2) := by decide +kernel
theorem dX9_holdsRule_82 : decode cX9_holdsRule 82 = .ok (.if_icmp .ne 32, 3) := by decide +kernel
theorem dX9_holdsRule_85 : decode cX9_holdsRule 85 = .ok (.aload_n 0, 1) := by decide +kernel
theorem dX9_holdsRule_86 : decode cX9_holdsRule 86 = .ok (.getfield 44, 3) := by decide +kernel
theorem dX9_holdsRule_89 : decode cX9_holdsRule 89 = .ok (.iload 4, 2) := by decide +kernel
theorem dX9_holdsRule_91 : decode cX9_holdsRule 91 = .ok (.iconst 1, 1) := by decide +kernel
theorem dX9_holdsRule_92 : decode cX9_holdsRule 92 = .ok (.isub, 1) := by decide +kernel
theorem dX9_holdsRule_93 : decode cX9_holdsRule 93 = .ok (.aload_n 0, 1) := by decide +kernel
theorem dX9_holdsRule_94 : decode cX9_holdsRule 94 = .ok (.getfield 44, 3) := by decide +kernel
theorem dX9_holdsRule_97 : decode cX9_holdsRule 97 = .ok (.iload 4, 2) := by decide +kernel
theorem dX9_holdsRule_99 : decode cX9_holdsRule 99 = .ok (.iconst 1, 1) := by decide +kernel
theorem dX9_holdsRule_100 : decode cX9_holdsRule 100 = .ok (.isub, 1) := by decide +kernel
theorem dX9_holdsRule_101 : decode cX9_holdsRule 101 = .ok (.baload, 1) := by decide +kernel
theorem dX9_holdsRule_102 : decode cX9_holdsRule 102 = .ok (.ifCond .ne 7, 3) := by decide +kernel
theorem dX9_holdsRule_105 : decode cX9_holdsRule 105 = .ok (.iconst 1, 1) := by decide +kernel
theorem dX9_holdsRule_106 : decode cX9_holdsRule 106 = .ok (.goto 4, 3) := by decide +kernel
theorem dX9_holdsRule_109 : decode cX9_holdsRule 109 = .ok (.iconst 0, 1) := by decide +kernel
theorem dX9_holdsRule_110 : decode cX9_holdsRule 110 = .ok (.bastore, 1) := by decide +kernel
theorem dX9_holdsRule_111 : decode cX9_holdsRule 111 = .ok (.goto 84, 3) := by decide +kernel
theorem dX9_holdsRule_114 : decode cX9_holdsRule 114 = .ok (.iinc 4 (-1), 3) := by decide +kernel
theorem dX9_holdsRule_117 : decode cX9_holdsRule 117 = .ok (.aload_n 0, 1) := by decide +kernel
theorem dX9_holdsRule_118 : decode cX9_holdsRule 118 = .ok (.getfield 44, 3) := by decide +kernel
theorem dX9_holdsRule_121 : decode cX9_holdsRule 121 = .ok (.iload 4, 2) := by decide +kernel
theorem dX9_holdsRule_123 : decode cX9_holdsRule 123 = .ok (.iconst 1, 1) := by decide +kernel
theorem dX9_holdsRule_124 : decode cX9_holdsRule 124 = .ok (.isub, 1) := by decide +kernel
theorem dX9_holdsRule_125 : decode cX9_holdsRule 125 = .ok (.aload_n 0, 1) := by decide +kernel
theorem dX9_holdsRule_126 : decode cX9_holdsRule 126 = .ok (.getfield 35, 3) := by decide +kernel
theorem dX9_holdsRule_129 : decode cX9_holdsRule 129 = .ok (.iload 6, 2) := by decide +kernel
theorem dX9_holdsRule_131 : decode cX9_holdsRule 131 = .ok (.iaload, 1) := by decide +kernel
theorem dX9_holdsRule_132 : decode cX9_holdsRule 132 = .ok (.bipush 9, 2) := by decide +kernel
theorem dX9_holdsRule_134 : decode cX9_holdsRule 134 = .ok (.if_icmp .ne 33, 3) := by decide +kernel
theorem dX9_holdsRule_137 : decode cX9_holdsRule 137 = .ok (.aload_n 0, 1) := by decide +kernel
theorem dX9_holdsRule_138 : decode cX9_holdsRule 138 = .ok (.getfield 44, 3) := by decide +kernel
theorem dX9_holdsRule_141 : decode cX9_holdsRule 141 = .ok (.iload 4, 2) := by decide +kernel
theorem dX9_holdsRule_143 : decode cX9_holdsRule 143 = .ok (.iconst 1, 1) := by decide +kernel
theorem dX9_holdsRule_144 : decode cX9_holdsRule 144 = .ok (.isub, 1) := by decide +kernel
theorem dX9_holdsRule_145 : decode cX9_holdsRule 145 = .ok (.baload, 1) := by decide +kernel
theorem dX9_holdsRule_146 : decode cX9_holdsRule 146 = .ok (.ifCond .eq 17, 3) := by decide +kernel
theorem dX9_holdsRule_149 : decode cX9_holdsRule 149 = .ok (.aload_n 0, 1) := by decide +kernel
theorem dX9_holdsRule_150 : decode cX9_holdsRule 150 = .ok (.getfield 44, 3) := by decide +kernel
theorem dX9_holdsRule_153 : decode cX9_holdsRule 153 = .ok (.iload 4, 2) := by decide +kernel
theorem dX9_holdsRule_155 : decode cX9_holdsRule 155 = .ok (.baload, 1) := by decide +kernel
theorem dX9_holdsRule_156 : decode cX9_holdsRule 156 = .ok (.ifCond .eq 7, 3) := by decide +kernel
theorem dX9_holdsRule_159 : decode cX9_holdsRule 159 = .ok (.iconst 1, 1) := by decide +kernel
theorem dX9_holdsRule_160 : decode cX9_holdsRule 160 = .ok (.goto 34, 3) := by decide +kernel
theorem dX9_holdsRule_163 : decode cX9_holdsRule 163 = .ok (.iconst 0, 1) := by decide +kernel
theorem dX9_holdsRule_164 : decode cX9_holdsRule 164 = .ok (.goto 30, 3) := by decide +kernel
theorem dX9_holdsRule_167 : decode cX9_holdsRule 167 = .ok (.aload_n 0, 1) := by decide +kernel
theorem dX9_holdsRule_168 : decode cX9_holdsRule 168 = .ok (.getfield 44, 3) := by decide +kernel
theorem dX9_holdsRule_171 : decode cX9_holdsRule 171 = .ok (.iload 4, 2) := by decide +kernel
theorem dX9_holdsRule_173 : decode cX9_holdsRule 173 = .ok (.iconst 1, 1) := by decide +kernel
theorem dX9_holdsRule_174 : decode cX9_holdsRule 174 = .ok (.isub, 1) := by decide +kernel
theorem dX9_holdsRule_175 : decode cX9_holdsRule 175 = .ok (.baload, 1) := by decide +kernel
theorem dX9_holdsRule_176 : decode cX9_holdsRule 176 = .ok (.ifCond .ne 13, 3) := by decide +kernel
theorem dX9_holdsRule_179 : decode cX9_holdsRule 179 = .ok (.aload_n 0, 1) := by decide +kernel
theorem dX9_holdsRule_180 : decode cX9_holdsRule 180 = .ok (.getfield 44, 3) := by decide +kernel
theorem dX9_holdsRule_183 : decode cX9_holdsRule 183 = .ok (.iload 4, 2) := by decide +kernel
theorem dX9_holdsRule_185 : decode cX9_holdsRule 185 = .ok (.baload, 1) := by decide +kernel
theorem dX9_holdsRule_186 : decode cX9_holdsRule 186 = .ok (.ifCond .eq 7, 3) := by decide +kernel
theorem dX9_holdsRule_189 : decode cX9_holdsRule 189 = .ok (.iconst 1, 1) := by decide +kernel
theorem dX9_holdsRule_190 : decode cX9_holdsRule 190 = .ok (.goto 4, 3) := by decide +kernel
theorem dX9_holdsRule_193 : decode cX9_holdsRule 193 = .ok (.iconst 0, 1) := by decide +kernel
theorem dX9_holdsRule_194 : decode cX9_holdsRule 194 = .ok (.bastore, 1) := by decide +kernel
theorem dX9_holdsRule_195 : decode cX9_holdsRule 195 = .ok (.iinc 5 1, 3) := by decide +kernel
theorem dX9_holdsRule_198 : decode cX9_holdsRule 198 = .ok (.goto (-183), 3) := by decide +kernel
theorem dX9_holdsRule_201 : decode cX9_holdsRule 201 = .ok (.aload_n 0, 1) := by decide +kernel
theorem dX9_holdsRule_202 : decode cX9_holdsRule 202 = .ok (.getfield 44, 3) := by decide +kernel
theorem dX9_holdsRule_205 : decode cX9_holdsRule 205 = .ok (.iconst 0, 1) := by decide +kernel
theorem dX9_holdsRule_206 : decode cX9_holdsRule 206 = .ok (.baload, 1) := by decide +kernel
theorem dX9_holdsRule_207 : decode cX9_holdsRule 207 = .ok (.ireturn, 1) := by decide +kernel
def fX9_holdsRule_194 (r15 : Nat → Int32 → Int32 → Int32 → Int32 → Int32 → mM Int32) (l0 : Nat) (l1 : Int32) (l2 : Int32) (l3 : Int32) (l4 : Int32) (l5 : Int32) (s0 : Int32) (s1 : Int32) (s2 : Nat) : mM Int32 := bSZ s2 s1 s0 (r15 l0 l1 l2 l3 l4 (l5 + 1))
set_option maxRecDepth 20000 in
theorem rX9_holdsRule_194 (v : mE) (d : Nat) (r15 : Nat → Int32 → Int32 → Int32 → Int32 → Int32 → mM Int32) (h15 : ∀ (y0 : Nat) (y1 : Int32) (y2 : Int32) (y3 : Int32) (y4 : Int32) (y5 : Int32), Rz v RX9 cX9_holdsRule 7 (some .boolean) false emI (d + 4) 15 [(0, vR y0), (1, vI y1), (2, vI y2), (3, vI y3), (4, vI y4), (5, vI y5)] [] (r15 y0 y1 y2 y3 y4 y5)) (l0 : Nat) (l1 : Int32) (l2 : Int32) (l3 : Int32) (l4 : Int32) (l5 : Int32) (s0 : Int32) (s1 : Int32) (s2 : Nat) : Rz v RX9 cX9_holdsRule 7 (some .boolean) false emI (d + 4) 194 [(0, vR l0), (1, vI l1), (2, vI l2), (3, vI l3), (4, vI l4), (5, vI l5)] [vI s0, vI s1, vR s2] (fX9_holdsRule_194 r15 l0 l1 l2 l3 l4 l5 s0 s1 s2) := by
  unfold fX9_holdsRule_194
  refine rz_zast 195 dX9_holdsRule_194 rfl ?_
  refine rz_iinc (lv' := [(5, vI (l5 + 1)), (0, vR l0), (1, vI l1), (2, vI l2), (3, vI l3), (4, vI l4)]) 198 5 dX9_holdsRule_195 rfl rfl (cn_1 _) rfl rfl ?_
  refine rz_goto 15 dX9_holdsRule_198 rfl ?_
  exact rz_sub [1, 2, 3, 4, 5, 0] rfl (h15 l0 l1 l2 l3 l4 (l5 + 1))
def fX9_holdsRule_189 (r15 : Nat → Int32 → Int32 → Int32 → Int32 → Int32 → mM Int32) (l0 : Nat) (l1 : Int32) (l2 : Int32) (l3 : Int32) (l4 : Int32) (l5 : Int32) (s0 : Int32) (s1 : Nat) : mM Int32 := fX9_holdsRule_194 r15 l0 l1 l2 l3 l4 l5 (1 : Int32) s0 s1
set_option maxRecDepth 20000 in
theorem rX9_holdsRule_189 (v : mE) (d : Nat) (r15 : Nat → Int32 → Int32 → Int32 → Int32 → Int32 → mM Int32) (h15 : ∀ (y0 : Nat) (y1 : Int32) (y2 : Int32) (y3 : Int32) (y4 : Int32) (y5 : Int32), Rz v RX9 cX9_holdsRule 7 (some .boolean) false emI (d + 4) 15 [(0, vR y0), (1, vI y1), (2, vI y2), (3, vI y3), (4, vI y4), (5, vI y5)] [] (r15 y0 y1 y2 y3 y4 y5)) (l0 : Nat) (l1 : Int32) (l2 : Int32) (l3 : Int32) (l4 : Int32) (l5 : Int32) (s0 : Int32) (s1 : Nat) : Rz v RX9 cX9_holdsRule 7 (some .boolean) false emI (d + 4) 189 [(0, vR l0), (1, vI l1), (2, vI l2), (3, vI l3), (4, vI l4), (5, vI l5)] [vI s0, vR s1] (fX9_holdsRule_189 r15 l0 l1 l2 l3 l4 l5 s0 s1) := by
  unfold fX9_holdsRule_189
  refine rz_iconst 190 dX9_holdsRule_189 rfl ci_1 ?_
  refine rz_goto 194 dX9_holdsRule_190 rfl ?_
  exact rz_sub [0, 1, 2, 3, 4, 5] rfl (rX9_holdsRule_194 v d r15 h15 l0 l1 l2 l3 l4 l5 (1 : Int32) s0 s1)
def fX9_holdsRule_163 (r15 : Nat → Int32 → Int32 → Int32 → Int32 → Int32 → mM Int32) (l0 : Nat) (l1 : Int32) (l2 : Int32) (l3 : Int32) (l4 : Int32) (l5 : Int32) (s0 : Int32) (s1 : Nat) : mM Int32 := fX9_holdsRule_194 r15 l0 l1 l2 l3 l4 l5 (0 : Int32) s0 s1
set_option maxRecDepth 20000 in
theorem rX9_holdsRule_163 (v : mE) (d : Nat) (r15 : Nat → Int32 → Int32 → Int32 → Int32 → Int32 → mM Int32) (h15 : ∀ (y0 : Nat) (y1 : Int32) (y2 : Int32) (y3 : Int32) (y4 : Int32) (y5 : Int32), Rz v RX9 cX9_holdsRule 7 (some .boolean) false emI (d + 4) 15 [(0, vR y0), (1, vI y1), (2, vI y2), (3, vI y3), (4, vI y4), (5, vI y5)] [] (r15 y0 y1 y2 y3 y4 y5)) (l0 : Nat) (l1 : Int32) (l2 : Int32) (l3 : Int32) (l4 : Int32) (l5 : Int32) (s0 : Int32) (s1 : Nat) : Rz v RX9 cX9_holdsRule 7 (some .boolean) false emI (d + 4) 163 [(0, vR l0), (1, vI l1), (2, vI l2), (3, vI l3), (4, vI l4), (5, vI l5)] [vI s0, vR s1] (fX9_holdsRule_163 r15 l0 l1 l2 l3 l4 l5 s0 s1) := by
  unfold fX9_holdsRule_163
  refine rz_iconst 164 dX9_holdsRule_163 rfl ci_0 ?_
  refine rz_goto 194 dX9_holdsRule_164 rfl ?_
  exact rz_sub [0, 1, 2, 3, 4, 5] rfl (rX9_holdsRule_194 v d r15 h15 l0 l1 l2 l3 l4 l5 (0 : Int32) s0 s1)
def fX9_holdsRule_110 (r15 : Nat → Int32 → Int32 → Int32 → Int32 → Int32 → mM Int32) (l0 : Nat) (l1 : Int32) (l2 : Int32) (l3 : Int32) (l4 : Int32) (l5 : Int32) (s0 : Int32) (s1 : Int32) (s2 : Nat) : mM Int32 := bSZ s2 s1 s0 (r15 l0 l1 l2 l3 l4 (l5 + 1))
set_option maxRecDepth 20000 in
theorem rX9_holdsRule_110 (v : mE) (d : Nat) (r15 : Nat → Int32 → Int32 → Int32 → Int32 → Int32 → mM Int32) (h15 : ∀ (y0 : Nat) (y1 : Int32) (y2 : Int32) (y3 : Int32) (y4 : Int32) (y5 : Int32), Rz v RX9 cX9_holdsRule 7 (some .boolean) false emI (d + 4) 15 [(0, vR y0), (1, vI y1), (2, vI y2), (3, vI y3), (4, vI y4), (5, vI y5)] [] (r15 y0 y1 y2 y3 y4 y5)) (l0 : Nat) (l1 : Int32) (l2 : Int32) (l3 : Int32) (l4 : Int32) (l5 : Int32) (s0 : Int32) (s1 : Int32) (s2 : Nat) : Rz v RX9 cX9_holdsRule 7 (some .boolean) false emI (d + 4) 110 [(0, vR l0), (1, vI l1), (2, vI l2), (3, vI l3), (4, vI l4), (5, vI l5)] [vI s0, vI s1, vR s2] (fX9_holdsRule_110 r15 l0 l1 l2 l3 l4 l5 s0 s1 s2) := by
  unfold fX9_holdsRule_110
  refine rz_zast 111 dX9_holdsRule_110 rfl ?_
  refine rz_goto 195 dX9_holdsRule_111 rfl ?_
  refine rz_iinc (lv' := [(5, vI (l5 + 1)), (0, vR l0), (1, vI l1), (2, vI l2), (3, vI l3), (4, vI l4)]) 198 5 dX9_holdsRule_195 rfl rfl (cn_1 _) rfl rfl ?_
  refine rz_goto 15 dX9_holdsRule_198 rfl ?_
  exact rz_sub [1, 2, 3, 4, 5, 0] rfl (h15 l0 l1 l2 l3 l4 (l5 + 1))
def fX9_holdsRule_15 : Nat → Nat → Int32 → Int32 → Int32 → Int32 → Int32 → mM Int32
  | 0 => fun _ _ _ _ _ _ => fun _ => none
  | n + 1 => fun l0 l1 l2 l3 l4 l5 => let r15 := fX9_holdsRule_15 n; bGR 9 l0 24 (fun x1 => bAI 11 x1 ((302 : Int32) + l1) (fun x2 => bIf (x2 ≤ l5) (bGR 9 l0 27 (fun x3 => bAI 13 x3 (0 : Int32) (fun x4 => bRetZ x4))) (bGR 9 l0 24 (fun x5 => bAI 11 x5 ((326 : Int32) + ((4 : Int32) * l5)) (fun x6 => bIf ((8 : Int32) ≤ x6) (bGR 9 l0 24 (fun x7 => bAI 11 x7 ((326 : Int32) + ((4 : Int32) * l5)) (fun x8 => bIf (x8 = (8 : Int32)) (bGR 9 l0 27 (fun x20 => bGR 9 l0 27 (fun x21 => bAI 13 x21 (l4 - (1 : Int32)) (fun x22 => bIf (x22 = 0) (fX9_holdsRule_110 r15 l0 l1 l2 l3 l4 l5 (1 : Int32) (l4 - (1 : Int32)) x20) (fX9_holdsRule_110 r15 l0 l1 l2 l3 l4 l5 (0 : Int32) (l4 - (1 : Int32)) x20))))) (bGR 9 l0 27 (fun x9 => bGR 9 l0 24 (fun x10 => bAI 11 x10 ((326 : Int32) + ((4 : Int32) * l5)) (fun x11 => bIf (x11 = (9 : Int32)) (bGR 9 l0 27 (fun x16 => bAI 13 x16 ((l4 + (-1)) - (1 : Int32)) (fun x17 => bIf (x17 = 0) (fX9_holdsRule_163 r15 l0 l1 l2 l3 (l4 + (-1)) l5 ((l4 + (-1)) - (1 : Int32)) x9) (bGR 9 l0 27 (fun x18 => bAI 13 x18 (l4 + (-1)) (fun x19 => bIf (x19 = 0) (fX9_holdsRule_163 r15 l0 l1 l2 l3 (l4 + (-1)) l5 ((l4 + (-1)) - (1 : Int32)) x9) (fX9_holdsRule_194 r15 l0 l1 l2 l3 (l4 + (-1)) l5 (1 : Int32) ((l4 + (-1)) - (1 : Int32)) x9))))))) (bGR 9 l0 27 (fun x12 => bAI 13 x12 ((l4 + (-1)) - (1 : Int32)) (fun x13 => bIf (x13 = 0) (bGR 9 l0 27 (fun x14 => bAI 13 x14 (l4 + (-1)) (fun x15 => bIf (x15 = 0) (fX9_holdsRule_194 r15 l0 l1 l2 l3 (l4 + (-1)) l5 (0 : Int32) ((l4 + (-1)) - (1 : Int32)) x9) (fX9_holdsRule_189 r15 l0 l1 l2 l3 (l4 + (-1)) l5 ((l4 + (-1)) - (1 : Int32)) x9)))) (fX9_holdsRule_189 r15 l0 l1 l2 l3 (l4 + (-1)) l5 ((l4 + (-1)) - (1 : Int32)) x9))))))))))) (bGR 9 l0 27 (fun x23 => bCallV 9 l0 (fX9_isCase l0 ((326 : Int32) + ((4 : Int32) * l5)) l2 l3) (fun x24 => bSZ x23 l4 x24 (r15 l0 l1 l2 l3 (l4 + 1) (l5 + 1))))))))))
theorem qX9_holdsRule_15  (n : Nat) (l0 : Nat) (l1 : Int32) (l2 : Int32) (l3 : Int32) (l4 : Int32) (l5 : Int32) : fX9_holdsRule_15 (n + 1) l0 l1 l2 l3 l4 l5 = bGR 9 l0 24 (fun x1 => bAI 11 x1 ((302 : Int32) + l1) (fun x2 => bIf (x2 ≤ l5) (bGR 9 l0 27 (fun x3 => bAI 13 x3 (0 : Int32) (fun x4 => bRetZ x4))) (bGR 9 l0 24 (fun x5 => bAI 11 x5 ((326 : Int32) + ((4 : Int32) * l5)) (fun x6 => bIf ((8 : Int32) ≤ x6) (bGR 9 l0 24 (fun x7 => bAI 11 x7 ((326 : Int32) + ((4 : Int32) * l5)) (fun x8 => bIf (x8 = (8 : Int32)) (bGR 9 l0 27 (fun x20 => bGR 9 l0 27 (fun x21 => bAI 13 x21 (l4 - (1 : Int32)) (fun x22 => bIf (x22 = 0) (fX9_holdsRule_110 (fX9_holdsRule_15 n) l0 l1 l2 l3 l4 l5 (1 : Int32) (l4 - (1 : Int32)) x20) (fX9_holdsRule_110 (fX9_holdsRule_15 n) l0 l1 l2 l3 l4 l5 (0 : Int32) (l4 - (1 : Int32)) x20))))) (bGR 9 l0 27 (fun x9 => bGR 9 l0 24 (fun x10 => bAI 11 x10 ((326 : Int32) + ((4 : Int32) * l5)) (fun x11 => bIf (x11 = (9 : Int32)) (bGR 9 l0 27 (fun x16 => bAI 13 x16 ((l4 + (-1)) - (1 : Int32)) (fun x17 => bIf (x17 = 0) (fX9_holdsRule_163 (fX9_holdsRule_15 n) l0 l1 l2 l3 (l4 + (-1)) l5 ((l4 + (-1)) - (1 : Int32)) x9) (bGR 9 l0 27 (fun x18 => bAI 13 x18 (l4 + (-1)) (fun x19 => bIf (x19 = 0) (fX9_holdsRule_163 (fX9_holdsRule_15 n) l0 l1 l2 l3 (l4 + (-1)) l5 ((l4 + (-1)) - (1 : Int32)) x9) (fX9_holdsRule_194 (fX9_holdsRule_15 n) l0 l1 l2 l3 (l4 + (-1)) l5 (1 : Int32) ((l4 + (-1)) - (1 : Int32)) x9))))))) (bGR 9 l0 27 (fun x12 => bAI 13 x12 ((l4 + (-1)) - (1 : Int32)) (fun x13 => bIf (x13 = 0) (bGR 9 l0 27 (fun x14 => bAI 13 x14 (l4 + (-1)) (fun x15 => bIf (x15 = 0) (fX9_holdsRule_194 (fX9_holdsRule_15 n) l0 l1 l2 l3 (l4 + (-1)) l5 (0 : Int32) ((l4 + (-1)) - (1 : Int32)) x9) (fX9_holdsRule_189 (fX9_holdsRule_15 n) l0 l1 l2 l3 (l4 + (-1)) l5 ((l4 + (-1)) - (1 : Int32)) x9)))) (fX9_holdsRule_189 (fX9_holdsRule_15 n) l0 l1 l2 l3 (l4 + (-1)) l5 ((l4 + (-1)) - (1 : Int32)) x9))))))))))) (bGR 9 l0 27 (fun x23 => bCallV 9 l0 (fX9_isCase l0 ((326 : Int32) + ((4 : Int32) * l5)) l2 l3) (fun x24 => bSZ x23 l4 x24 ((fX9_holdsRule_15 n) l0 l1 l2 l3 (l4 + 1) (l5 + 1)))))))))) := rfl
set_option maxRecDepth 20000 in
theorem rX9_holdsRule_15 (v : mE) (d : Nat) : ∀ (n : Nat) (l0 : Nat) (l1 : Int32) (l2 : Int32) (l3 : Int32) (l4 : Int32) (l5 : Int32), Rz v RX9 cX9_holdsRule 7 (some .boolean) false emI (d + 4) 15 [(0, vR l0), (1, vI l1), (2, vI l2), (3, vI l3), (4, vI l4), (5, vI l5)] [] (fX9_holdsRule_15 n l0 l1 l2 l3 l4 l5)
  | 0, _, _, _, _, _, _ => fun _ _ _ hm => by cases hm
  | n + 1, l0, l1, l2, l3, l4, l5 => by
    have h15 := rX9_holdsRule_15 v d n
    unfold fX9_holdsRule_15
    generalize fX9_holdsRule_15 n = r15 at h15 ⊢
    refine rz_iload 17 5 dX9_holdsRule_15 rfl rfl ?_
    refine rz_aload_n 18 0 dX9_holdsRule_17 rfl rfl ?_
    refine rz_gR 21 dX9_holdsRule_18 rfl rfl fl_X9_35 (fun x1 => ?_)
    refine rz_sipush 24 dX9_holdsRule_21 rfl cs_302 ?_
    refine rz_iload_n 25 1 dX9_holdsRule_24 rfl rfl ?_
    refine rz_iadd 26 dX9_holdsRule_25 rfl ?_
    refine rz_iald 27 dX9_holdsRule_26 rfl (fun x2 => ?_)
    refine rz_icmp_ge 201 30 dX9_holdsRule_27 rfl rfl ?_ ?_
    · refine rz_aload_n 202 0 dX9_holdsRule_201 rfl rfl ?_
      refine rz_gR 205 dX9_holdsRule_202 rfl rfl fl_X9_44 (fun x3 => ?_)
      refine rz_iconst 206 dX9_holdsRule_205 rfl ci_0 ?_
      refine rz_zald 207 dX9_holdsRule_206 rfl (fun x4 => ?_)
      exact rz_zreturn rfl rfl dX9_holdsRule_207
    · refine rz_sipush 33 dX9_holdsRule_30 rfl cs_326 ?_
      refine rz_iconst 34 dX9_holdsRule_33 rfl ci_4 ?_
      refine rz_iload 36 5 dX9_holdsRule_34 rfl rfl ?_
      refine rz_imul 37 dX9_holdsRule_36 rfl ?_
      refine rz_iadd 38 dX9_holdsRule_37 rfl ?_
      refine rz_istore (lv' := [(6, vI ((326 : Int32) + ((4 : Int32) * l5))), (0, vR l0), (1, vI l1), (2, vI l2), (3, vI l3), (4, vI l4), (5, vI l5)]) 40 dX9_holdsRule_38 rfl rfl rfl ?_
      refine rz_aload_n 41 1 dX9_holdsRule_40 rfl rfl ?_
      refine rz_gR 44 dX9_holdsRule_41 rfl rfl fl_X9_35 (fun x5 => ?_)
      refine rz_iload 46 0 dX9_holdsRule_44 rfl rfl ?_
      refine rz_iald 47 dX9_holdsRule_46 rfl (fun x6 => ?_)
      refine rz_bipush 49 dX9_holdsRule_47 rfl cb_8 ?_
      refine rz_icmp_ge 73 52 dX9_holdsRule_49 rfl rfl ?_ ?_
      · refine rz_aload_n 74 1 dX9_holdsRule_73 rfl rfl ?_
        refine rz_gR 77 dX9_holdsRule_74 rfl rfl fl_X9_35 (fun x7 => ?_)
        refine rz_iload 79 0 dX9_holdsRule_77 rfl rfl ?_
        refine rz_iald 80 dX9_holdsRule_79 rfl (fun x8 => ?_)
        refine rz_bipush 82 dX9_holdsRule_80 rfl cb_8 ?_
        refine rz_icmp_ne 114 85 dX9_holdsRule_82 rfl rfl ?_ ?_
        · refine rz_iinc (lv' := [(4, vI (l4 + (-1))), (6, vI ((326 : Int32) + ((4 : Int32) * l5))), (0, vR l0), (1, vI l1), (2, vI l2), (3, vI l3), (5, vI l5)]) 117 5 dX9_holdsRule_114 rfl rfl (cn_m1 _) rfl rfl ?_
          refine rz_aload_n 118 2 dX9_holdsRule_117 rfl rfl ?_
          refine rz_gR 121 dX9_holdsRule_118 rfl rfl fl_X9_44 (fun x9 => ?_)
          refine rz_iload 123 0 dX9_holdsRule_121 rfl rfl ?_
          refine rz_iconst 124 dX9_holdsRule_123 rfl ci_1 ?_
          refine rz_isub 125 dX9_holdsRule_124 rfl ?_
          refine rz_aload_n 126 2 dX9_holdsRule_125 rfl rfl ?_
          refine rz_gR 129 dX9_holdsRule_126 rfl rfl fl_X9_35 (fun x10 => ?_)
          refine rz_iload 131 1 dX9_holdsRule_129 rfl rfl ?_
          refine rz_iald 132 dX9_holdsRule_131 rfl (fun x11 => ?_)
          refine rz_bipush 134 dX9_holdsRule_132 rfl cb_9 ?_
          refine rz_icmp_ne 167 137 dX9_holdsRule_134 rfl rfl ?_ ?_
          · refine rz_aload_n 168 2 dX9_holdsRule_167 rfl rfl ?_
            refine rz_gR 171 dX9_holdsRule_168 rfl rfl fl_X9_44 (fun x12 => ?_)
            refine rz_iload 173 0 dX9_holdsRule_171 rfl rfl ?_
            refine rz_iconst 174 dX9_holdsRule_173 rfl ci_1 ?_
            refine rz_isub 175 dX9_holdsRule_174 rfl ?_
            refine rz_zald 176 dX9_holdsRule_175 rfl (fun x13 => ?_)
            refine rz_if_ne 189 179 dX9_holdsRule_176 rfl rfl ?_ ?_
            · exact rz_sub [2, 3, 4, 5, 0, 6] rfl (rX9_holdsRule_189 v d r15 h15 l0 l1 l2 l3 (l4 + (-1)) l5 ((l4 + (-1)) - (1 : Int32)) x9)
            · refine rz_aload_n 180 2 dX9_holdsRule_179 rfl rfl ?_
              refine rz_gR 183 dX9_holdsRule_180 rfl rfl fl_X9_44 (fun x14 => ?_)
              refine rz_iload 185 0 dX9_holdsRule_183 rfl rfl ?_
              refine rz_zald 186 dX9_holdsRule_185 rfl (fun x15 => ?_)
              refine rz_if_eq 193 189 dX9_holdsRule_186 rfl rfl ?_ ?_
              · refine rz_iconst 194 dX9_holdsRule_193 rfl ci_0 ?_
                exact rz_sub [2, 3, 4, 5, 0, 6] rfl (rX9_holdsRule_194 v d r15 h15 l0 l1 l2 l3 (l4 + (-1)) l5 (0 : Int32) ((l4 + (-1)) - (1 : Int32)) x9)
              · exact rz_sub [2, 3, 4, 5, 0, 6] rfl (rX9_holdsRule_189 v d r15 h15 l0 l1 l2 l3 (l4 + (-1)) l5 ((l4 + (-1)) - (1 : Int32)) x9)
          · refine rz_aload_n 138 2 dX9_holdsRule_137 rfl rfl ?_
            refine rz_gR 141 dX9_holdsRule_138 rfl rfl fl_X9_44 (fun x16 => ?_)
            refine rz_iload 143 0 dX9_holdsRule_141 rfl rfl ?_
            refine rz_iconst 144 dX9_holdsRule_143 rfl ci_1 ?_
            refine rz_isub 145 dX9_holdsRule_144 rfl ?_
            refine rz_zald 146 dX9_holdsRule_145 rfl (fun x17 => ?_)
            refine rz_if_eq 163 149 dX9_holdsRule_146 rfl rfl ?_ ?_
            · exact rz_sub [2, 3, 4, 5, 0, 6] rfl (rX9_holdsRule_163 v d r15 h15 l0 l1 l2 l3 (l4 + (-1)) l5 ((l4 + (-1)) - (1 : Int32)) x9)
            · refine rz_aload_n 150 2 dX9_holdsRule_149 rfl rfl ?_
              refine rz_gR 153 dX9_holdsRule_150 rfl rfl fl_X9_44 (fun x18 => ?_)
              refine rz_iload 155 0 dX9_holdsRule_153 rfl rfl ?_
              refine rz_zald 156 dX9_holdsRule_155 rfl (fun x19 => ?_)
              refine rz_if_eq 163 159 dX9_holdsRule_156 rfl rfl ?_ ?_
              · exact rz_sub [2, 3, 4, 5, 0, 6] rfl (rX9_holdsRule_163 v d r15 h15 l0 l1 l2 l3 (l4 + (-1)) l5 ((l4 + (-1)) - (1 : Int32)) x9)
              · refine rz_iconst 160 dX9_holdsRule_159 rfl ci_1 ?_
                refine rz_goto 194 dX9_holdsRule_160 rfl ?_
                exact rz_sub [2, 3, 4, 5, 0, 6] rfl (rX9_holdsRule_194 v d r15 h15 l0 l1 l2 l3 (l4 + (-1)) l5 (1 : Int32) ((l4 + (-1)) - (1 : Int32)) x9)
        · refine rz_aload_n 86 1 dX9_holdsRule_85 rfl rfl ?_
          refine rz_gR 89 dX9_holdsRule_86 rfl rfl fl_X9_44 (fun x20 => ?_)
          refine rz_iload 91 5 dX9_holdsRule_89 rfl rfl ?_
          refine rz_iconst 92 dX9_holdsRule_91 rfl ci_1 ?_
          refine rz_isub 93 dX9_holdsRule_92 rfl ?_
          refine rz_aload_n 94 1 dX9_holdsRule_93 rfl rfl ?_
          refine rz_gR 97 dX9_holdsRule_94 rfl rfl fl_X9_44 (fun x21 => ?_)
          refine rz_iload 99 5 dX9_holdsRule_97 rfl rfl ?_
          refine rz_iconst 100 dX9_holdsRule_99 rfl ci_1 ?_
          refine rz_isub 101 dX9_holdsRule_100 rfl ?_
          refine rz_zald 102 dX9_holdsRule_101 rfl (fun x22 => ?_)
          refine rz_if_ne 109 105 dX9_holdsRule_102 rfl rfl ?_ ?_
          · refine rz_iconst 110 dX9_holdsRule_109 rfl ci_0 ?_
            exact rz_sub [1, 2, 3, 4, 5, 6] rfl (rX9_holdsRule_110 v d r15 h15 l0 l1 l2 l3 l4 l5 (0 : Int32) (l4 - (1 : Int32)) x20)
          · refine rz_iconst 106 dX9_holdsRule_105 rfl ci_1 ?_
            refine rz_goto 110 dX9_holdsRule_106 rfl ?_
            exact rz_sub [1, 2, 3, 4, 5, 6] rfl (rX9_holdsRule_110 v d r15 h15 l0 l1 l2 l3 l4 l5 (1 : Int32) (l4 - (1 : Int32)) x20)
      · refine rz_aload_n 53 1 dX9_holdsRule_52 rfl rfl ?_
        refine rz_gR 56 dX9_holdsRule_53 rfl rfl fl_X9_44 (fun x23 => ?_)
        refine rz_iload 58 5 dX9_holdsRule_56 rfl rfl ?_
        refine rz_aload_n 59 1 dX9_holdsRule_58 rfl rfl ?_
        refine rz_iload 61 0 dX9_holdsRule_59 rfl rfl ?_
        refine rz_iload_n 62 3 dX9_holdsRule_61 rfl rfl ?_
        refine rz_iload_n 63 4 dX9_holdsRule_62 rfl rfl ?_
        refine rz_callV 66 dX9_holdsRule_63 rfl (tX9_isCase v (d + 0) l0 ((326 : Int32) + ((4 : Int32) * l5)) l2 l3) rfl rfl rfl rfl ml_X9_380 im_X9_isCase se_X9_X9_isCase in_X9 co_X9_isCase rfl rfl (fun x24 => ?_)
        refine rz_zast 67 dX9_holdsRule_66 rfl ?_
        refine rz_iinc (lv' := [(4, vI (l4 + 1)), (6, vI ((326 : Int32) + ((4 : Int32) * l5))), (0, vR l0), (1, vI l1), (2, vI l2), (3, vI l3), (5, vI l5)]) 70 5 dX9_holdsRule_67 rfl rfl (cn_1 _) rfl rfl ?_
        refine rz_goto 195 dX9_holdsRule_70 rfl ?_
        refine rz_iinc (lv' := [(5, vI (l5 + 1)), (4, vI (l4 + 1)), (6, vI ((326 : Int32) + ((4 : Int32) * l5))), (0, vR l0), (1, vI l1), (2, vI l2), (3, vI l3)]) 198 6 dX9_holdsRule_195 rfl rfl (cn_1 _) rfl rfl ?_
        refine rz_goto 15 dX9_holdsRule_198 rfl ?_
        exact rz_sub [3, 4, 5, 6, 1, 0] rfl (h15 l0 l1 l2 l3 (l4 + 1) (l5 + 1))
def fX9_holdsRule (l0 : Nat) (l1 : Int32) (l2 : Int32) (l3 : Int32) : mM Int32 := bGR 9 l0 24 (fun x1 => bAI 11 x1 ((290 : Int32) + l1) (fun x2 => fX9_holdsRule_15 fu l0 l1 l2 l3 (0 : Int32) x2))
set_option maxRecDepth 20000 in
theorem rX9_holdsRule (v : mE) (d : Nat) (l0 : Nat) (l1 : Int32) (l2 : Int32) (l3 : Int32) : Rz v RX9 cX9_holdsRule 7 (some .boolean) false emI (d + 4) 0 [(0, vR l0), (1, vI l1), (2, vI l2), (3, vI l3)] [] (fX9_holdsRule l0 l1 l2 l3) := by
  unfold fX9_holdsRule
  refine rz_iconst 1 dX9_holdsRule_0 rfl ci_0 ?_
  refine rz_istore (lv' := [(4, vI (0 : Int32)), (0, vR l0), (1, vI l1), (2, vI l2), (3, vI l3)]) 3 dX9_holdsRule_1 rfl rfl rfl ?_
  refine rz_aload_n 4 1 dX9_holdsRule_3 rfl rfl ?_
  refine rz_gR 7 dX9_holdsRule_4 rfl rfl fl_X9_35 (fun x1 => ?_)
  refine rz_sipush 10 dX9_holdsRule_7 rfl cs_290 ?_
  refine rz_iload_n 11 2 dX9_holdsRule_10 rfl rfl ?_
  refine rz_iadd 12 dX9_holdsRule_11 rfl ?_
  refine rz_iald 13 dX9_holdsRule_12 rfl (fun x2 => ?_)
  refine rz_istore (lv' := [(5, vI x2), (4, vI (0 : Int32)), (0, vR l0), (1, vI l1), (2, vI l2), (3, vI l3)]) 15 dX9_holdsRule_13 rfl rfl rfl ?_
  exact rz_sub [2, 3, 4, 5, 1, 0] rfl (rX9_holdsRule_15 v d fu l0 l1 l2 l3 (0 : Int32) x2)
theorem tX9_holdsRule (v : mE) (d : Nat) (l0 : Nat) (l1 : Int32) (l2 : Int32) (l3 : Int32) : Mt v yX9_holdsRule cX9_holdsRule 7 (some .boolean) emI (d + 4) [vR l0, vI l1, vI l2, vI l3] (fX9_holdsRule l0 l1 l2 l3) := mt_of rfl rfl (fun h => by cases h) rfl rfl (rX9_holdsRule v d l0 l1 l2 l3)
theorem dX9_whomFor_0 : decode cX9_whomFor 0 = .ok (.iconst 0, 1) := by decide +kernel
theorem dX9_whomFor_1 : decode cX9_whomFor 1 = .ok (.istore_n 3, 1) := by decide +kernel
theorem dX9_whomFor_2 : decode cX9_whomFor 2 = .ok (.iload_n 3, 1) := by decide +kernel
theorem dX9_whomFor_3 : decode cX9_whomFor 3 = .ok (.aload_n 0, 1) := by decide +kernel
theorem dX9_whomFor_4 : decode cX9_whomFor 4 = .ok (.getfield 35, 3) := by decide +kernel
theorem dX9_whomFor_7 : decode cX9_whomFor 7 = .ok (.sipush 289, 3) := by decide +kernel
theorem dX9_whomFor_10 : decode cX9_whomFor 10 = .ok (.iaload, 1) := by decide +kernel
theorem dX9_whomFor_11 : decode cX9_whomFor 11 = .ok (.if_icmp .ge 30, 3) := by decide +kernel
theorem dX9_whomFor_14 : decode cX9_whomFor 14 = .ok (.aload_n 0, 1) := by decide +kernel
theorem dX9_whomFor_15 : decode cX9_whomFor 15 = .ok (.iload_n 3, 1) := by decide +kernel
theorem dX9_whomFor_16 : decode cX9_whomFor 16 = .ok (.iload_n 1, 1) := by decide +kernel
theorem dX9_whomFor_17 : decode cX9_whomFor 17 = .ok (.iload_n 2, 1) := by decide +kernel
theorem dX9_whomFor_18 : decode cX9_whomFor 18 = .ok (.invokevirtual 384, 3) := by decide +kernel
theorem dX9_whomFor_21 : decode cX9_whomFor 21 = .ok (.ifCond .eq 14, 3) := by decide +kernel
theorem dX9_whomFor_24 : decode cX9_whomFor 24 = .ok (.aload_n 0, 1) := by decide +kernel
theorem dX9_whomFor_25 : decode cX9_whomFor 25 = .ok (.getfield 35, 3) := by decide +kernel
theorem dX9_whomFor_28 : decode cX9_whomFor 28 = .ok (.sipush 314, 3) := by decide +kernel
theorem dX9_whomFor_31 : decode cX9_whomFor 31 = .ok (.iload_n 3, 1) := by decide +kernel
theorem dX9_whomFor_32 : decode cX9_whomFor 32 = .ok (.iadd, 1) := by decide +kernel
theorem dX9_whomFor_33 : decode cX9_whomFor 33 = .ok (.iaload, 1) := by decide +kernel
theorem dX9_whomFor_34 : decode cX9_whomFor 34 = .ok (.ireturn, 1) := by decide +kernel
theorem dX9_whomFor_35 : decode cX9_whomFor 35 = .ok (.iinc 3 1, 3) := by decide +kernel
theorem dX9_whomFor_38 : decode cX9_whomFor 38 = .ok (.goto (-36), 3) := by decide +kernel
theorem dX9_whomFor_41 : decode cX9_whomFor 41 = .ok (.iconst 0, 1) := by decide +kernel
theorem dX9_whomFor_42 : decode cX9_whomFor 42 = .ok (.ireturn, 1) := by decide +kernel
def fX9_whomFor_24 (l0 : Nat) (l3 : Int32) : mM Int32 := bGR 9 l0 24 (fun x1 => bAI 11 x1 ((314 : Int32) + l3) (fun x2 => bRet x2))
set_option maxRecDepth 20000 in
theorem rX9_whomFor_24 (v : mE) (d : Nat) (l0 : Nat) (l3 : Int32) : Rz v RX9 cX9_whomFor 4 (some .int) false emI (d + 5) 24 [(0, vR l0), (3, vI l3)] [] (fX9_whomFor_24 l0 l3) := by
  unfold fX9_whomFor_24
  refine rz_aload_n 25 0 dX9_whomFor_24 rfl rfl ?_
  refine rz_gR 28 dX9_whomFor_25 rfl rfl fl_X9_35 (fun x1 => ?_)
  refine rz_sipush 31 dX9_whomFor_28 rfl cs_314 ?_
  refine rz_iload_n 32 1 dX9_whomFor_31 rfl rfl ?_
  refine rz_iadd 33 dX9_whomFor_32 rfl ?_
  refine rz_iald 34 dX9_whomFor_33 rfl (fun x2 => ?_)
  exact rz_ireturn rfl rfl dX9_whomFor_34
def fX9_whomFor_2 : Nat → Nat → Int32 → Int32 → Int32 → mM Int32
  | 0 => fun _ _ _ _ => fun _ => none
  | n + 1 => fun l0 l1 l2 l3 => let r2 := fX9_whomFor_2 n; bGR 9 l0 24 (fun x1 => bAI 11 x1 (289 : Int32) (fun x2 => bIf (x2 ≤ l3) (bRet (0 : Int32)) (bCallV 9 l0 (fX9_holdsRule l0 l3 l1 l2) (fun x3 => bIf (x3 = 0) (r2 l0 l1 l2 (l3 + 1)) (fX9_whomFor_24 l0 l3)))))
theorem qX9_whomFor_2  (n : Nat) (l0 : Nat) (l1 : Int32) (l2 : Int32) (l3 : Int32) : fX9_whomFor_2 (n + 1) l0 l1 l2 l3 = bGR 9 l0 24 (fun x1 => bAI 11 x1 (289 : Int32) (fun x2 => bIf (x2 ≤ l3) (bRet (0 : Int32)) (bCallV 9 l0 (fX9_holdsRule l0 l3 l1 l2) (fun x3 => bIf (x3 = 0) ((fX9_whomFor_2 n) l0 l1 l2 (l3 + 1)) (fX9_whomFor_24 l0 l3))))) := rfl
set_option maxRecDepth 20000 in
theorem rX9_whomFor_2 (v : mE) (d : Nat) : ∀ (n : Nat) (l0 : Nat) (l1 : Int32) (l2 : Int32) (l3 : Int32), Rz v RX9 cX9_whomFor 4 (some .int) false emI (d + 5) 2 [(0, vR l0), (1, vI l1), (2, vI l2), (3, vI l3)] [] (fX9_whomFor_2 n l0 l1 l2 l3)
  | 0, _, _, _, _ => fun _ _ _ hm => by cases hm
  | n + 1, l0, l1, l2, l3 => by
    have h2 := rX9_whomFor_2 v d n
    unfold fX9_whomFor_2
    generalize fX9_whomFor_2 n = r2 at h2 ⊢
    refine rz_iload_n 3 3 dX9_whomFor_2 rfl rfl ?_
    refine rz_aload_n 4 0 dX9_whomFor_3 rfl rfl ?_
    refine rz_gR 7 dX9_whomFor_4 rfl rfl fl_X9_35 (fun x1 => ?_)
    refine rz_sipush 10 dX9_whomFor_7 rfl cs_289 ?_
    refine rz_iald 11 dX9_whomFor_10 rfl (fun x2 => ?_)
    refine rz_icmp_ge 41 14 dX9_whomFor_11 rfl rfl ?_ ?_
    · refine rz_iconst 42 dX9_whomFor_41 rfl ci_0 ?_
      exact rz_ireturn rfl rfl dX9_whomFor_42
    · refine rz_aload_n 15 0 dX9_whomFor_14 rfl rfl ?_
      refine rz_iload_n 16 3 dX9_whomFor_15 rfl rfl ?_
      refine rz_iload_n 17 1 dX9_whomFor_16 rfl rfl ?_
      refine rz_iload_n 18 2 dX9_whomFor_17 rfl rfl ?_
      refine rz_callV 21 dX9_whomFor_18 rfl (tX9_holdsRule v (d + 0) l0 l3 l1 l2) rfl rfl rfl rfl ml_X9_384 im_X9_holdsRule se_X9_X9_holdsRule in_X9 co_X9_holdsRule rfl rfl (fun x3 => ?_)
      refine rz_if_eq 35 24 dX9_whomFor_21 rfl rfl ?_ ?_
      · refine rz_iinc (lv' := [(3, vI (l3 + 1)), (0, vR l0), (1, vI l1), (2, vI l2)]) 38 3 dX9_whomFor_35 rfl rfl (cn_1 _) rfl rfl ?_
        refine rz_goto 2 dX9_whomFor_38 rfl ?_
        exact rz_sub [1, 2, 3, 0] rfl (h2 l0 l1 l2 (l3 + 1))
      · exact rz_sub [0, 3] rfl (rX9_whomFor_24 v d l0 l3)
def fX9_whomFor (l0 : Nat) (l1 : Int32) (l2 : Int32) : mM Int32 := fX9_whomFor_2 fu l0 l1 l2 (0 : Int32)
set_option maxRecDepth 20000 in
theorem rX9_whomFor (v : mE) (d : Nat) (l0 : Nat) (l1 : Int32) (l2 : Int32) : Rz v RX9 cX9_whomFor 4 (some .int) false emI (d + 5) 0 [(0, vR l0), (1, vI l1), (2, vI l2)] [] (fX9_whomFor l0 l1 l2) := by
  unfold fX9_whomFor
  refine rz_iconst 1 dX9_whomFor_0 rfl ci_0 ?_
  refine rz_istore_n (lv' := [(3, vI (0 : Int32)), (0, vR l0), (1, vI l1), (2, vI l2)]) 2 dX9_whomFor_1 rfl rfl rfl ?_
  exact rz_sub [1, 2, 3, 0] rfl (rX9_whomFor_2 v d fu l0 l1 l2 (0 : Int32))
theorem tX9_whomFor (v : mE) (d : Nat) (l0 : Nat) (l1 : Int32) (l2 : Int32) : Mt v yX9_whomFor cX9_whomFor 4 (some .int) emI (d + 5) [vR l0, vI l1, vI l2] (fX9_whomFor l0 l1 l2) := mt_of rfl rfl (fun h => by cases h) rfl rfl (rX9_whomFor v d l0 l1 l2)
theorem dX9_freeRope_0 : decode cX9_freeRope 0 = .ok (.iconst 0, 1) := by decide +kernel
theorem dX9_freeRope_1 : decode cX9_freeRope 1 = .ok (.istore_n 1, 1) := by decide +kernel
theorem dX9_freeRope_2 : decode cX9_freeRope 2 = .ok (.iload_n 1, 1) := by decide +kernel
theorem dX9_freeRope_3 : decode cX9_freeRope 3 = .ok (.bipush 12, 2) := by decide +kernel
theorem dX9_freeRope_5 : decode cX9_freeRope 5 = .ok (.if_icmp .ge 21, 3) := by decide +kernel
theorem dX9_freeRope_8 : decode cX9_freeRope 8 = .ok (.aload_n 0, 1) := by decide +kernel
theorem dX9_freeRope_9 : decode cX9_freeRope 9 = .ok (.getfield 35, 3) := by decide +kernel
theorem dX9_freeRope_12 : decode cX9_freeRope 12 = .ok (.bipush 85, 2) := by decide +kernel
theorem dX9_freeRope_14 : decode cX9_freeRope 14 = .ok (.iload_n 1, 1) := by decide +kernel
theorem dX9_freeRope_15 : decode cX9_freeRope 15 = .ok (.iadd, 1) := by decide +kernel
theorem dX9_freeRope_16 : decode cX9_freeRope 16 = .ok (.iaload, 1) := by decide +kernel
theorem dX9_freeRope_17 : decode cX9_freeRope 17 = .ok (.ifCond .le 9, 3) := by decide +kernel
theorem dX9_freeRope_20 : decode cX9_freeRope 20 = .ok (.iinc 1 1, 3) := by decide +kernel
theorem dX9_freeRope_23 : decode cX9_freeRope 23 = .ok (.goto (-21), 3) := by decide +kernel
theorem dX9_freeRope_26 : decode cX9_freeRope 26 = .ok (.iload_n 1, 1) := by decide +kernel
theorem dX9_freeRope_27 : decode cX9_freeRope 27 = .ok (.ireturn, 1) := by decide +kernel
def fX9_freeRope_2 : Nat → Nat → Int32 → mM Int32
  | 0 => fun _ _ => fun _ => none
  | n + 1 => fun l0 l1 => let r2 := fX9_freeRope_2 n; bIf ((12 : Int32) ≤ l1) (bRet l1) (bGR 9 l0 24 (fun x1 => bAI 11 x1 ((85 : Int32) + l1) (fun x2 => bIf (x2 ≤ 0) (bRet l1) (r2 l0 (l1 + 1)))))
theorem qX9_freeRope_2  (n : Nat) (l0 : Nat) (l1 : Int32) : fX9_freeRope_2 (n + 1) l0 l1 = bIf ((12 : Int32) ≤ l1) (bRet l1) (bGR 9 l0 24 (fun x1 => bAI 11 x1 ((85 : Int32) + l1) (fun x2 => bIf (x2 ≤ 0) (bRet l1) ((fX9_freeRope_2 n) l0 (l1 + 1))))) := rfl
set_option maxRecDepth 20000 in
theorem rX9_freeRope_2 (v : mE) (d : Nat) : ∀ (n : Nat) (l0 : Nat) (l1 : Int32), Rz v RX9 cX9_freeRope 2 (some .int) false emI (d + 0) 2 [(0, vR l0), (1, vI l1)] [] (fX9_freeRope_2 n l0 l1)
  | 0, _, _ => fun _ _ _ hm => by cases hm
  | n + 1, l0, l1 => by
    have h2 := rX9_freeRope_2 v d n
    unfold fX9_freeRope_2
    generalize fX9_freeRope_2 n = r2 at h2 ⊢
    refine rz_iload_n 3 1 dX9_freeRope_2 rfl rfl ?_
    refine rz_bipush 5 dX9_freeRope_3 rfl cb_12 ?_
    refine rz_icmp_ge 26 8 dX9_freeRope_5 rfl rfl ?_ ?_
    · refine rz_iload_n 27 1 dX9_freeRope_26 rfl rfl ?_
      exact rz_ireturn rfl rfl dX9_freeRope_27
    · refine rz_aload_n 9 0 dX9_freeRope_8 rfl rfl ?_
      refine rz_gR 12 dX9_freeRope_9 rfl rfl fl_X9_35 (fun x1 => ?_)
      refine rz_bipush 14 dX9_freeRope_12 rfl cb_85 ?_
      refine rz_iload_n 15 1 dX9_freeRope_14 rfl rfl ?_
      refine rz_iadd 16 dX9_freeRope_15 rfl ?_
      refine rz_iald 17 dX9_freeRope_16 rfl (fun x2 => ?_)
      refine rz_if_le 26 20 dX9_freeRope_17 rfl rfl ?_ ?_
      · refine rz_iload_n 27 1 dX9_freeRope_26 rfl rfl ?_
        exact rz_ireturn rfl rfl dX9_freeRope_27
      · refine rz_iinc (lv' := [(1, vI (l1 + 1)), (0, vR l0)]) 23 1 dX9_freeRope_20 rfl rfl (cn_1 _) rfl rfl ?_
        refine rz_goto 2 dX9_freeRope_23 rfl ?_
        exact rz_sub [1, 0] rfl (h2 l0 (l1 + 1))
def fX9_freeRope (l0 : Nat) : mM Int32 := fX9_freeRope_2 fu l0 (0 : Int32)
set_option maxRecDepth 20000 in
theorem rX9_freeRope (v : mE) (d : Nat) (l0 : Nat) : Rz v RX9 cX9_freeRope 2 (some .int) false emI (d + 0) 0 [(0, vR l0)] [] (fX9_freeRope l0) := by
  unfold fX9_freeRope
  refine rz_iconst 1 dX9_freeRope_0 rfl ci_0 ?_
  refine rz_istore_n (lv' := [(1, vI (0 : Int32)), (0, vR l0)]) 2 dX9_freeRope_1 rfl rfl rfl ?_
  exact rz_sub [1, 0] rfl (rX9_freeRope_2 v d fu l0 (0 : Int32))
theorem tX9_freeRope (v : mE) (d : Nat) (l0 : Nat) : Mt v yX9_freeRope cX9_freeRope 2 (some .int) emI (d + 0) [vR l0] (fX9_freeRope l0) := mt_of rfl rfl (fun h => by cases h) rfl rfl (rX9_freeRope v d l0)
theorem dX9_partFrom_0 : decode cX9_partFrom 0 = .ok (.aload_n 0, 1) := by decide +kernel
theorem dX9_partFrom_1 : decode cX9_partFrom 1 = .ok (.invokevirtual 387, 3) := by decide +kernel
theorem dX9_partFrom_4 : decode cX9_partFrom 4 = .ok (.istore_n 3, 1) := by decide +kernel
theorem dX9_partFrom_5 : decode cX9_partFrom 5 = .ok (.aload_n 0, 1) := by decide +kernel
theorem dX9_partFrom_6 : decode cX9_partFrom 6 = .ok (.getfield 35, 3) := by decide +kernel
theorem dX9_partFrom_9 : decode cX9_partFrom 9 = .ok (.bipush 37, 2) := by decide +kernel
theorem dX9_partFrom_11 : decode cX9_partFrom 11 = .ok (.iload_n 3, 1) := by decide +kernel
theorem dX9_partFrom_12 : decode cX9_partFrom 12 = .ok (.iadd, 1) := by decide +kernel
theorem dX9_partFrom_13 : decode cX9_partFrom 13 = .ok (.aload_n 0, 1) := by decide +kernel
theorem dX9_partFrom_14 : decode cX9_partFrom 14 = .ok (.getfield 35, 3) := by decide +kernel
theorem dX9_partFrom_17 : decode cX9_partFrom 17 = .ok (.bipush 37, 2) := by decide +kernel
theorem dX9_partFrom_19 : decode cX9_partFrom 19 = .ok (.iload_n 1, 1) := by decide +kernel
theorem dX9_partFrom_20 : decode cX9_partFrom 20 = .ok (.iadd, 1) := by decide +kernel
theorem dX9_partFrom_21 : decode cX9_partFrom 21 = .ok (.iaload, 1) := by decide +kernel
theorem dX9_partFrom_22 : decode cX9_partFrom 22 = .ok (.iastore, 1) := by decide +kernel
theorem dX9_partFrom_23 : decode cX9_partFrom 23 = .ok (.aload_n 0, 1) := by decide +kernel
theorem dX9_partFrom_24 : decode cX9_partFrom 24 = .ok (.getfield 35, 3) := by decide +kernel
theorem dX9_partFrom_27 : decode cX9_partFrom 27 = .ok (.bipush 49, 2) := by decide +kernel
theorem dX9_partFrom_29 : decode cX9_partFrom 29 = .ok (.iload_n 3, 1) := by decide +kernel
theorem dX9_partFrom_30 : decode cX9_partFrom 30 = .ok (.iadd, 1) := by decide +kernel
theorem dX9_partFrom_31 : decode cX9_partFrom 31 = .ok (.iconst (-1), 1) := by decide +kernel
theorem dX9_partFrom_32 : decode cX9_partFrom 32 = .ok (.iastore, 1) := by decide +kernel
theorem dX9_partFrom_33 : decode cX9_partFrom 33 = .ok (.aload_n 0, 1) := by decide +kernel
theorem dX9_partFrom_34 : decode cX9_partFrom 34 = .ok (.getfield 35, 3) := by decide +kernel
theorem dX9_partFrom_37 : decode cX9_partFrom 37 = .ok (.bipush 61, 2) := by decide +kernel
theorem dX9_partFrom_39 : decode cX9_partFrom 39 = .ok (.iload_n 3, 1) := by decide +kernel
theorem dX9_partFrom_40 : decode cX9_partFrom 40 = .ok (.iadd, 1) := by decide +kernel
theorem dX9_partFrom_41 : decode cX9_partFrom 41 = .ok (.iconst 0, 1) := by decide +kernel
theorem dX9_partFrom_42 : decode cX9_partFrom 42 = .ok (.iastore, 1) := by decide +kernel
theorem dX9_partFrom_43 : decode cX9_partFrom 43 = .ok (.aload_n 0, 1) := by decide +kernel
theorem dX9_partFrom_44 : decode cX9_partFrom 44 = .ok (.getfield 35, 3) := by decide +kernel
theorem dX9_partFrom_47 : decode cX9_partFrom 47 = .ok (.bipush 73, 2) := by decide +kernel
theorem dX9_partFrom_49 : decode cX9_partFrom 49 = .ok (.iload_n 3, 1) := by decide +kernel
theorem dX9_partFrom_50 : decode cX9_partFrom 50 = .ok (.iadd, 1) := by decide +kernel
theorem dX9_partFrom_51 : decode cX9_partFrom 51 = .ok (.aload_n 0, 1) := by decide +kernel
theorem dX9_partFrom_52 : decode cX9_partFrom 52 = .ok (.getfield 35, 3) := by decide +kernel
theorem dX9_partFrom_55 : decode cX9_partFrom 55 = .ok (.bipush 73, 2) := by decide +kernel
theorem dX9_partFrom_57 : decode cX9_partFrom 57 = .ok (.iload_n 1, 1) := by decide +kernel
theorem dX9_partFrom_58 : decode cX9_partFrom 58 = .ok (.iadd, 1) := by decide +kernel
theorem dX9_partFrom_59 : decode cX9_partFrom 59 = .ok (.iaload, 1) := by decide +kernel
theorem dX9_partFrom_60 : decode cX9_partFrom 60 = .ok (.iastore, 1) := by decide +kernel
theorem dX9_partFrom_61 : decode cX9_partFrom 61 = .ok (.iload_n 2, 1) := by decide +kernel
theorem dX9_partFrom_62 : decode cX9_partFrom 62 = .ok (.istore 4, 2) := by decide +kernel
theorem dX9_partFrom_64 : decode cX9_partFrom 64 = .ok (.iconst 0, 1) := by decide +kernel
theorem dX9_partFrom_65 : decode cX9_partFrom 65 = .ok (.istore 5, 2) := by decide +kernel
theorem dX9_partFrom_67 : decode cX9_partFrom 67 = .ok (.iconst 0, 1) := by decide +kernel
theorem dX9_partFrom_68 : decode cX9_partFrom 68 = .ok (.istore 6, 2) := by decide +kernel
theorem dX9_partFrom_70 : decode cX9_partFrom 70 = .ok (.iconst 0, 1) := by decide +kernel
theorem dX9_partFrom_71 : decode cX9_partFrom 71 = .ok (.istore 7, 2) := by decide +kernel
theorem dX9_partFrom_73 : decode cX9_partFrom 73 = .ok (.iload 7, 2) := by decide +kernel
theorem dX9_partFrom_75 : decode cX9_partFrom 75 = .ok (.aload_n 0, 1) := by decide +kernel
theorem dX9_partFrom_76 : decode cX9_partFrom 76 = .ok (.getfield 35, 3) := by decide +kernel
theorem dX9_partFrom_79 : decode cX9_partFrom 79 = .ok (.bipush 85, 2) := by decide +kernel
theorem dX9_partFrom_81 : decode cX9_partFrom 81 = .ok (.iload_n 1, 1) := by decide +kernel
theorem dX9_partFrom_82 : decode cX9_partFrom 82 = .ok (.iadd, 1) := by decide +kernel
theorem dX9_partFrom_83 : decode cX9_partFrom 83 = .ok (.iaload, 1) := by decide +kernel
theorem dX9_partFrom_84 : decode cX9_partFrom 84 = .ok (.if_icmp .ge 129, 3) := by decide +kernel
theorem dX9_partFrom_87 : decode cX9_partFrom 87 = .ok (.aload_n 0, 1) := by decide +kernel
theorem dX9_partFrom_88 : decode cX9_partFrom 88 = .ok (.getfield 35, 3) := by decide +kernel
theorem dX9_partFrom_91 : decode cX9_partFrom 91 = .ok (.bipush 97, 2) := by decide +kernel
theorem dX9_partFrom_93 : decode cX9_partFrom 93 = .ok (.bipush 8, 2) := by decide +kernel
theorem dX9_partFrom_95 : decode cX9_partFrom 95 = .ok (.iload_n 1, 1) := by decide +kernel
theorem dX9_partFrom_96 : decode cX9_partFrom 96 = .ok (.imul, 1) := by decide +kernel
theorem dX9_partFrom_97 : decode cX9_partFrom 97 = .ok (.iadd, 1) := by decide +kernel
theorem dX9_partFrom_98 : decode cX9_partFrom 98 = .ok (.iload 7, 2) := by decide +kernel
theorem dX9_partFrom_100 : decode cX9_partFrom 100 = .ok (.iadd, 1) := by decide +kernel
theorem dX9_partFrom_101 : decode cX9_partFrom 101 = .ok (.iaload, 1) := by decide +kernel
theorem dX9_partFrom_102 : decode cX9_partFrom 102 = .ok (.istore 8, 2) := by decide +kernel
theorem dX9_partFrom_104 : decode cX9_partFrom 104 = .ok (.iload 4, 2) := by decide +kernel
theorem dX9_partFrom_106 : decode cX9_partFrom 106 = .ok (.iload 8, 2) := by decide +kernel
theorem dX9_partFrom_108 : decode cX9_partFrom 108 = .ok (.invokestatic 390, 3) := by decide +kernel
theorem dX9_partFrom_111 : decode cX9_partFrom 111 = .ok (.istore 9, 2) := by decide +kernel
theorem dX9_partFrom_113 : decode cX9_partFrom 113 = .ok (.iload 4, 2) := by decide +kernel
theorem dX9_partFrom_115 : decode cX9_partFrom 115 = .ok (.iload 9, 2) := by decide +kernel
theorem dX9_partFrom_117 : decode cX9_partFrom 117 = .ok (.isub, 1) := by decide +kernel
theorem dX9_partFrom_118 : decode cX9_partFrom 118 = .ok (.istore 4, 2) := by decide +kernel
theorem dX9_partFrom_120 : decode cX9_partFrom 120 = .ok (.iload 9, 2) := by decide +kernel
theorem dX9_partFrom_122 : decode cX9_partFrom 122 = .ok (.iload 8, 2) := by decide +kernel
theorem dX9_partFrom_124 : decode cX9_partFrom 124 = .ok (.if_icmp .ge 58, 3) := by decide +kernel
theorem dX9_partFrom_127 : decode cX9_partFrom 127 = .ok (.aload_n 0, 1) := by decide +kernel
theorem dX9_partFrom_128 : decode cX9_partFrom 128 = .ok (.getfield 35, 3) := by decide +kernel
theorem dX9_partFrom_131 : decode cX9_partFrom 131 = .ok (.bipush 97, 2) := by decide +kernel
theorem dX9_partFrom_133 : decode cX9_partFrom 133 = .ok (.bipush 8, 2) := by decide +kernel
theorem dX9_partFrom_135 : decode cX9_partFrom 135 = .ok (.iload_n 3, 1) := by decide +kernel
theorem dX9_partFrom_136 : decode cX9_partFrom 136 = .ok (.imul, 1) := by decide +kernel
theorem dX9_partFrom_137 : decode cX9_partFrom 137 = .ok (.iadd, 1) := by decide +kernel
theorem dX9_partFrom_138 : decode cX9_partFrom 138 = .ok (.iload 6, 2) := by decide +kernel
theorem dX9_partFrom_140 : decode cX9_partFrom 140 = .ok (.iadd, 1) := by decide +kernel
theorem dX9_partFrom_141 : decode cX9_partFrom 141 = .ok (.iload 8, 2) := by decide +kernel
theorem dX9_partFrom_143 : decode cX9_partFrom 143 = .ok (.iload 9, 2) := by decide +kernel
theorem dX9_partFrom_145 : decode cX9_partFrom 145 = .ok (.isub, 1) := by decide +kernel
theorem dX9_partFrom_146 : decode cX9_partFrom 146 = .ok (.iastore, 1) := by decide +kernel
theorem dX9_partFrom_147 : decode cX9_partFrom 147 = .ok (.aload_n 0, 1) := by decide +kernel
theorem dX9_partFrom_148 : decode cX9_partFrom 148 = .ok (.getfield 35, 3) := by decide +kernel
theorem dX9_partFrom_151 : decode cX9_partFrom 151 = .ok (.sipush 193, 3) := by decide +kernel
theorem dX9_partFrom_154 : decode cX9_partFrom 154 = .ok (.bipush 8, 2) := by decide +kernel
theorem dX9_partFrom_156 : decode cX9_partFrom 156 = .ok (.iload_n 3, 1) := by decide +kernel
theorem dX9_partFrom_157 : decode cX9_partFrom 157 = .ok (.imul, 1) := by decide +kernel
theorem dX9_partFrom_158 : decode cX9_partFrom 158 = .ok (.iadd, 1) := by decide +kernel
theorem dX9_partFrom_159 : decode cX9_partFrom 159 = .ok (.iload 6, 2) := by decide +kernel
theorem dX9_partFrom_161 : decode cX9_partFrom 161 = .ok (.iadd, 1) := by decide +kernel
theorem dX9_partFrom_162 : decode cX9_partFrom 162 = .ok (.aload_n 0, 1) := by decide +kernel
theorem dX9_partFrom_163 : decode cX9_partFrom 163 = .ok (.getfield 35, 3) := by decide +kernel
theorem dX9_partFrom_166 : decode cX9_partFrom 166 = .ok (.sipush 193, 3) := by decide +kernel
theorem dX9_partFrom_169 : decode cX9_partFrom 169 = .ok (.bipush 8, 2) := by decide +kernel
theorem dX9_partFrom_171 : decode cX9_partFrom 171 = .ok (.iload_n 1, 1) := by decide +kernel
theorem dX9_partFrom_172 : decode cX9_partFrom 172 = .ok (.imul, 1) := by decide +kernel
theorem dX9_partFrom_173 : decode cX9_partFrom 173 = .ok (.iadd, 1) := by decide +kernel
theorem dX9_partFrom_174 : decode cX9_partFrom 174 = .ok (.iload 7, 2) := by decide +kernel
theorem dX9_partFrom_176 : decode cX9_partFrom 176 = .ok (.iadd, 1) := by decide +kernel
theorem dX9_partFrom_177 : decode cX9_partFrom 177 = .ok (.iaload, 1) := by decide +kernel
theorem dX9_partFrom_178 : decode cX9_partFrom 178 = .ok (.iastore, 1) := by decide +kernel
theorem dX9_partFrom_179 : decode cX9_partFrom 179 = .ok (.iinc 6 1, 3) := by decide +kernel
theorem dX9_partFrom_182 : decode cX9_partFrom 182 = .ok (.iload 9, 2) := by decide +kernel
theorem dX9_partFrom_184 : decode cX9_partFrom 184 = .ok (.ifCond .le 23, 3) := by decide +kernel
theorem dX9_partFrom_187 : decode cX9_partFrom 187 = .ok (.aload_n 0, 1) := by decide +kernel
theorem dX9_partFrom_188 : decode cX9_partFrom 188 = .ok (.getfield 35, 3) := by decide +kernel
theorem dX9_partFrom_191 : decode cX9_partFrom 191 = .ok (.bipush 97, 2) := by decide +kernel
theorem dX9_partFrom_193 : decode cX9_partFrom 193 = .ok (.bipush 8, 2) := by decide +kernel
theorem dX9_partFrom_195 : decode cX9_partFrom 195 = .ok (.iload_n 1, 1) := by decide +kernel
theorem dX9_partFrom_196 : decode cX9_partFrom 196 = .ok (.imul, 1) := by decide +kernel
theorem dX9_partFrom_197 : decode cX9_partFrom 197 = .ok (.iadd, 1) := by decide +kernel
theorem dX9_partFrom_198 : decode cX9_partFrom 198 = .ok (.iload 7, 2) := by decide +kernel
theorem dX9_partFrom_200 : decode cX9_partFrom 200 = .ok (.iadd, 1) := by decide +kernel
theorem dX9_partFrom_201 : decode cX9_partFrom 201 = .ok (.iload 9, 2) := by decide +kernel
theorem dX9_partFrom_203 : decode cX9_partFrom 203 = .ok (.iastore, 1) := by decide +kernel
theorem dX9_partFrom_204 : decode cX9_partFrom 204 = .ok (.iinc 5 1, 3) := by decide +kernel
theorem dX9_partFrom_207 : decode cX9_partFrom 207 = .ok (.iinc 7 1, 3) := by decide +kernel
theorem dX9_partFrom_210 : decode cX9_partFrom 210 = .ok (.goto (-137), 3) := by decide +kernel
theorem dX9_partFrom_213 : decode cX9_partFrom 213 = .ok (.aload_n 0, 1) := by decide +kernel
theorem dX9_partFrom_214 : decode cX9_partFrom 214 = .ok (.getfield 35, 3) := by decide +kernel
theorem dX9_partFrom_217 : decode cX9_partFrom 217 = .ok (.bipush 85, 2) := by decide +kernel
theorem dX9_partFrom_219 : decode cX9_partFrom 219 = .ok (.iload_n 1, 1) := by decide +kernel
theorem dX9_partFrom_220 : decode cX9_partFrom 220 = .ok (.iadd, 1) := by decide +kernel
theorem dX9_partFrom_221 : decode cX9_partFrom 221 = .ok (.iload 5, 2) := by decide +kernel
theorem dX9_partFrom_223 : decode cX9_partFrom 223 = .ok (.iastore, 1) := by decide +kernel
theorem dX9_partFrom_224 : decode cX9_partFrom 224 = .ok (.aload_n 0, 1) := by decide +kernel
theorem dX9_partFrom_225 : decode cX9_partFrom 225 = .ok (.getfield 35, 3) := by decide +kernel
theorem dX9_partFrom_228 : decode cX9_partFrom 228 = .ok (.bipush 85, 2) := by decide +kernel
theorem dX9_partFrom_230 : decode cX9_partFrom 230 = .ok (.iload_n 3, 1) := by decide +kernel
theorem dX9_partFrom_231 : decode cX9_partFrom 231 = .ok (.iadd, 1) := by decide +kernel
theorem dX9_partFrom_232 : decode cX9_partFrom 232 = .ok (.iload 6, 2) := by decide +kernel
theorem dX9_partFrom_234 : decode cX9_partFrom 234 = .ok (.iastore, 1) := by decide +kernel
theorem dX9_partFrom_235 : decode cX9_partFrom 235 = .ok (.iload_n 3, 1) := by decide +kernel
theorem dX9_partFrom_236 : decode cX9_partFrom 236 = .ok (.ireturn, 1) := by decide +kernel
def fX9_partFrom_213 (l0 : Nat) (l1 : Int32) (l3 : Int32) (l5 : Int32) (l6 : Int32) : mM Int32 := bGR 9 l0 24 (fun x1 => bSI x1 ((85 : Int32) + l1) l5 (bGR 9 l0 24 (fun x2 => bSI x2 ((85 : Int32) + l3) l6 (bRet l3))))
set_option maxRecDepth 20000 in
theorem rX9_partFrom_213 (v : mE) (d : Nat) (l0 : Nat) (l1 : Int32) (l3 : Int32) (l5 : Int32) (l6 : Int32) : Rz v RX9 cX9_partFrom 10 (some .int) false emI (d + 1) 213 [(0, vR l0), (1, vI l1), (3, vI l3), (5, vI l5), (6, vI l6)] [] (fX9_partFrom_213 l0 l1 l3 l5 l6) := by
  unfold fX9_partFrom_213
  refine rz_aload_n 214 0 dX9_partFrom_213 rfl rfl ?_
  refine rz_gR 217 dX9_partFrom_214 rfl rfl fl_X9_35 (fun x1 => ?_)
  refine rz_bipush 219 dX9_partFrom_217 rfl cb_85 ?_
  refine rz_iload_n 220 1 dX9_partFrom_219 rfl rfl ?_
  refine rz_iadd 221 dX9_partFrom_220 rfl ?_
  refine rz_iload 223 3 dX9_partFrom_221 rfl rfl ?_
  refine rz_iast 224 dX9_partFrom_223 rfl ?_
  refine rz_aload_n 225 0 dX9_partFrom_224 rfl rfl ?_
  refine rz_gR 228 dX9_partFrom_225 rfl rfl fl_X9_35 (fun x2 => ?_)
  refine rz_bipush 230 dX9_partFrom_228 rfl cb_85 ?_
  refine rz_iload_n 231 2 dX9_partFrom_230 rfl rfl ?_
  refine rz_iadd 232 dX9_partFrom_231 rfl ?_
  refine rz_iload 234 4 dX9_partFrom_232 rfl rfl ?_
  refine rz_iast 235 dX9_partFrom_234 rfl ?_
  refine rz_iload_n 236 2 dX9_partFrom_235 rfl rfl ?_
  exact rz_ireturn rfl rfl dX9_partFrom_236
def fX9_partFrom_182 (r73 : Nat → Int32 → Int32 → Int32 → Int32 → Int32 → Int32 → mM Int32) (l0 : Nat) (l1 : Int32) (l3 : Int32) (l4 : Int32) (l5 : Int32) (l6 : Int32) (l7 : Int32) (l9 : Int32) : mM Int32 := bIf (l9 ≤ 0) (r73 l0 l1 l3 l4 l5 l6 (l7 + 1)) (bGR 9 l0 24 (fun x1 => bSI x1 (((97 : Int32) + ((8 : Int32) * l1)) + l7) l9 (r73 l0 l1 l3 l4 (l5 + 1) l6 (l7 + 1))))
set_option maxRecDepth 20000 in
theorem rX9_partFrom_182 (v : mE) (d : Nat) (r73 : Nat → Int32 → Int32 → Int32 → Int32 → Int32 → Int32 → mM Int32) (h73 : ∀ (y0 : Nat) (y1 : Int32) (y3 : Int32) (y4 : Int32) (y5 : Int32) (y6 : Int32) (y7 : Int32), Rz v RX9 cX9_partFrom 10 (some .int) false emI (d + 1) 73 [(0, vR y0), (1, vI y1), (3, vI y3), (4, vI y4), (5, vI y5), (6, vI y6), (7, vI y7)] [] (r73 y0 y1 y3 y4 y5 y6 y7)) (l0 : Nat) (l1 : Int32) (l3 : Int32) (l4 : Int32) (l5 : Int32) (l6 : Int32) (l7 : Int32) (l9 : Int32) : Rz v RX9 cX9_partFrom 10 (some .int) false emI (d + 1) 182 [(0, vR l0), (1, vI l1), (3, vI l3), (4, vI l4), (5, vI l5), (6, vI l6), (7, vI l7), (9, vI l9)] [] (fX9_partFrom_182 r73 l0 l1 l3 l4 l5 l6 l7 l9) := by
  unfold fX9_partFrom_182
  refine rz_iload 184 7 dX9_partFrom_182 rfl rfl ?_
  refine rz_if_le 207 187 dX9_partFrom_184 rfl rfl ?_ ?_
  · refine rz_iinc (lv' := [(7, vI (l7 + 1)), (0, vR l0), (1, vI l1), (3, vI l3), (4, vI l4), (5, vI l5), (6, vI l6), (9, vI l9)]) 210 6 dX9_partFrom_207 rfl rfl (cn_1 _) rfl rfl ?_
    refine rz_goto 73 dX9_partFrom_210 rfl ?_
    exact rz_sub [1, 2, 3, 4, 5, 6, 0] rfl (h73 l0 l1 l3 l4 l5 l6 (l7 + 1))
  · refine rz_aload_n 188 0 dX9_partFrom_187 rfl rfl ?_
    refine rz_gR 191 dX9_partFrom_188 rfl rfl fl_X9_35 (fun x1 => ?_)
    refine rz_bipush 193 dX9_partFrom_191 rfl cb_97 ?_
    refine rz_bipush 195 dX9_partFrom_193 rfl cb_8 ?_
    refine rz_iload_n 196 1 dX9_partFrom_195 rfl rfl ?_
    refine rz_imul 197 dX9_partFrom_196 rfl ?_
    refine rz_iadd 198 dX9_partFrom_197 rfl ?_
    refine rz_iload 200 6 dX9_partFrom_198 rfl rfl ?_
    refine rz_iadd 201 dX9_partFrom_200 rfl ?_
    refine rz_iload 203 7 dX9_partFrom_201 rfl rfl ?_
    refine rz_iast 204 dX9_partFrom_203 rfl ?_
    refine rz_iinc (lv' := [(5, vI (l5 + 1)), (0, vR l0), (1, vI l1), (3, vI l3), (4, vI l4), (6, vI l6), (7, vI l7), (9, vI l9)]) 207 4 dX9_partFrom_204 rfl rfl (cn_1 _) rfl rfl ?_
    refine rz_iinc (lv' := [(7, vI (l7 + 1)), (5, vI (l5 + 1)), (0, vR l0), (1, vI l1), (3, vI l3), (4, vI l4), (6, vI l6), (9, vI l9)]) 210 6 dX9_partFrom_207 rfl rfl (cn_1 _) rfl rfl ?_
    refine rz_goto 73 dX9_partFrom_210 rfl ?_
    exact rz_sub [2, 3, 4, 5, 1, 6, 0] rfl (h73 l0 l1 l3 l4 (l5 + 1) l6 (l7 + 1))
def fX9_partFrom_73 : Nat → Nat → Int32 → Int32 → Int32 → Int32 → Int32 → Int32 → mM Int32
  | 0 => fun _ _ _ _ _ _ _ => fun _ => none
  | n + 1 => fun l0 l1 l3 l4 l5 l6 l7 => let r73 := fX9_partFrom_73 n; bGR 9 l0 24 (fun x1 => bAI 11 x1 ((85 : Int32) + l1) (fun x2 => bIf (x2 ≤ l7) (fX9_partFrom_213 l0 l1 l3 l5 l6) (bGR 9 l0 24 (fun x3 => bAI 11 x3 (((97 : Int32) + ((8 : Int32) * l1)) + l7) (fun x4 => bIf (x4 ≤ (jMin l4 x4)) (fX9_partFrom_182 r73 l0 l1 l3 (l4 - (jMin l4 x4)) l5 l6 l7 (jMin l4 x4)) (bGR 9 l0 24 (fun x5 => bSI x5 (((97 : Int32) + ((8 : Int32) * l3)) + l6) (x4 - (jMin l4 x4)) (bGR 9 l0 24 (fun x6 => bGR 9 l0 24 (fun x7 => bAI 11 x7 (((193 : Int32) + ((8 : Int32) * l1)) + l7) (fun x8 => bSI x6 (((193 : Int32) + ((8 : Int32) * l3)) + l6) x8 (fX9_partFrom_182 r73 l0 l1 l3 (l4 - (jMin l4 x4)) l5 (l6 + 1) l7 (jMin l4 x4)))))))))))))
theorem qX9_partFrom_73  (n : Nat) (l0 : Nat) (l1 : Int32) (l3 : Int32) (l4 : Int32) (l5 : Int32) (l6 : Int32) (l7 : Int32) : fX9_partFrom_73 (n + 1) l0 l1 l3 l4 l5 l6 l7 = bGR 9 l0 24 (fun x1 => bAI 11 x1 ((85 : Int32) + l1) (fun x2 => bIf (x2 ≤ l7) (fX9_partFrom_213 l0 l1 l3 l5 l6) (bGR 9 l0 24 (fun x3 => bAI 11 x3 (((97 : Int32) + ((8 : Int32) * l1)) + l7) (fun x4 => bIf (x4 ≤ (jMin l4 x4)) (fX9_partFrom_182 (fX9_partFrom_73 n) l0 l1 l3 (l4 - (jMin l4 x4)) l5 l6 l7 (jMin l4 x4)) (bGR 9 l0 24 (fun x5 => bSI x5 (((97 : Int32) + ((8 : Int32) * l3)) + l6) (x4 - (jMin l4 x4)) (bGR 9 l0 24 (fun x6 => bGR 9 l0 24 (fun x7 => bAI 11 x7 (((193 : Int32) + ((8 : Int32) * l1)) + l7) (fun x8 => bSI x6 (((193 : Int32) + ((8 : Int32) * l3)) + l6) x8 (fX9_partFrom_182 (fX9_partFrom_73 n) l0 l1 l3 (l4 - (jMin l4 x4)) l5 (l6 + 1) l7 (jMin l4 x4))))))))))))) := rfl
set_option maxRecDepth 20000 in
theorem rX9_partFrom_73 (v : mE) (d : Nat) : ∀ (n : Nat) (l0 : Nat) (l1 : Int32) (l3 : Int32) (l4 : Int32) (l5 : Int32) (l6 : Int32) (l7 : Int32), Rz v RX9 cX9_partFrom 10 (some .int) false emI (d + 1) 73 [(0, vR l0), (1, vI l1), (3, vI l3), (4, vI l4), (5, vI l5), (6, vI l6), (7, vI l7)] [] (fX9_partFrom_73 n l0 l1 l3 l4 l5 l6 l7)
  | 0, _, _, _, _, _, _, _ => fun _ _ _ hm => by cases hm
  | n + 1, l0, l1, l3, l4, l5, l6, l7 => by
    have h73 := rX9_partFrom_73 v d n
    unfold fX9_partFrom_73
    generalize fX9_partFrom_73 n = r73 at h73 ⊢
    refine rz_iload 75 6 dX9_partFrom_73 rfl rfl ?_
    refine rz_aload_n 76 0 dX9_partFrom_75 rfl rfl ?_
    refine rz_gR 79 dX9_partFrom_76 rfl rfl fl_X9_35 (fun x1 => ?_)
    refine rz_bipush 81 dX9_partFrom_79 rfl cb_85 ?_
    refine rz_iload_n 82 1 dX9_partFrom_81 rfl rfl ?_
    refine rz_iadd 83 dX9_partFrom_82 rfl ?_
    refine rz_iald 84 dX9_partFrom_83 rfl (fun x2 => ?_)
    refine rz_icmp_ge 213 87 dX9_partFrom_84 rfl rfl ?_ ?_
    · exact rz_sub [0, 1, 2, 4, 5] rfl (rX9_partFrom_213 v d l0 l1 l3 l5 l6)
    · refine rz_aload_n 88 0 dX9_partFrom_87 rfl rfl ?_
      refine rz_gR 91 dX9_partFrom_88 rfl rfl fl_X9_35 (fun x3 => ?_)
      refine rz_bipush 93 dX9_partFrom_91 rfl cb_97 ?_
      refine rz_bipush 95 dX9_partFrom_93 rfl cb_8 ?_
      refine rz_iload_n 96 1 dX9_partFrom_95 rfl rfl ?_
      refine rz_imul 97 dX9_partFrom_96 rfl ?_
      refine rz_iadd 98 dX9_partFrom_97 rfl ?_
      refine rz_iload 100 6 dX9_partFrom_98 rfl rfl ?_
      refine rz_iadd 101 dX9_partFrom_100 rfl ?_
      refine rz_iald 102 dX9_partFrom_101 rfl (fun x4 => ?_)
      refine rz_istore (lv' := [(8, vI x4), (0, vR l0), (1, vI l1), (3, vI l3), (4, vI l4), (5, vI l5), (6, vI l6), (7, vI l7)]) 104 dX9_partFrom_102 rfl rfl rfl ?_
      refine rz_iload 106 4 dX9_partFrom_104 rfl rfl ?_
      refine rz_iload 108 0 dX9_partFrom_106 rfl rfl ?_
      refine rz_mmin 111 dX9_partFrom_108 rfl ml_X9_390 rfl rfl ?_
      refine rz_istore (lv' := [(9, vI (jMin l4 x4)), (8, vI x4), (0, vR l0), (1, vI l1), (3, vI l3), (4, vI l4), (5, vI l5), (6, vI l6), (7, vI l7)]) 113 dX9_partFrom_111 rfl rfl rfl ?_
      refine rz_iload 115 5 dX9_partFrom_113 rfl rfl ?_
      refine rz_iload 117 0 dX9_partFrom_115 rfl rfl ?_
      refine rz_isub 118 dX9_partFrom_117 rfl ?_
      refine rz_istore (lv' := [(4, vI (l4 - (jMin l4 x4))), (9, vI (jMin l4 x4)), (8, vI x4), (0, vR l0), (1, vI l1), (3, vI l3), (5, vI l5), (6, vI l6), (7, vI l7)]) 120 dX9_partFrom_118 rfl rfl rfl ?_
      refine rz_iload 122 1 dX9_partFrom_120 rfl rfl ?_
      refine rz_iload 124 2 dX9_partFrom_122 rfl rfl ?_
      refine rz_icmp_ge 182 127 dX9_partFrom_124 rfl rfl ?_ ?_
      · exact rz_sub [3, 4, 5, 0, 6, 7, 8, 1] rfl (rX9_partFrom_182 v d r73 h73 l0 l1 l3 (l4 - (jMin l4 x4)) l5 l6 l7 (jMin l4 x4))
      · refine rz_aload_n 128 3 dX9_partFrom_127 rfl rfl ?_
        refine rz_gR 131 dX9_partFrom_128 rfl rfl fl_X9_35 (fun x5 => ?_)
        refine rz_bipush 133 dX9_partFrom_131 rfl cb_97 ?_
        refine rz_bipush 135 dX9_partFrom_133 rfl cb_8 ?_
        refine rz_iload_n 136 5 dX9_partFrom_135 rfl rfl ?_
        refine rz_imul 137 dX9_partFrom_136 rfl ?_
        refine rz_iadd 138 dX9_partFrom_137 rfl ?_
        refine rz_iload 140 7 dX9_partFrom_138 rfl rfl ?_
        refine rz_iadd 141 dX9_partFrom_140 rfl ?_
        refine rz_iload 143 2 dX9_partFrom_141 rfl rfl ?_
        refine rz_iload 145 1 dX9_partFrom_143 rfl rfl ?_
        refine rz_isub 146 dX9_partFrom_145 rfl ?_
        refine rz_iast 147 dX9_partFrom_146 rfl ?_
        refine rz_aload_n 148 3 dX9_partFrom_147 rfl rfl ?_
        refine rz_gR 151 dX9_partFrom_148 rfl rfl fl_X9_35 (fun x6 => ?_)
        refine rz_sipush 154 dX9_partFrom_151 rfl cs_193 ?_
        refine rz_bipush 156 dX9_partFrom_154 rfl cb_8 ?_
        refine rz_iload_n 157 5 dX9_partFrom_156 rfl rfl ?_
        refine rz_imul 158 dX9_partFrom_157 rfl ?_
        refine rz_iadd 159 dX9_partFrom_158 rfl ?_
        refine rz_iload 161 7 dX9_partFrom_159 rfl rfl ?_
        refine rz_iadd 162 dX9_partFrom_161 rfl ?_
        refine rz_aload_n 163 3 dX9_partFrom_162 rfl rfl ?_
        refine rz_gR 166 dX9_partFrom_163 rfl rfl fl_X9_35 (fun x7 => ?_)
        refine rz_sipush 169 dX9_partFrom_166 rfl cs_193 ?_
        refine rz_bipush 171 dX9_partFrom_169 rfl cb_8 ?_
        refine rz_iload_n 172 4 dX9_partFrom_171 rfl rfl ?_
        refine rz_imul 173 dX9_partFrom_172 rfl ?_
        refine rz_iadd 174 dX9_partFrom_173 rfl ?_
        refine rz_iload 176 8 dX9_partFrom_174 rfl rfl ?_
        refine rz_iadd 177 dX9_partFrom_176 rfl ?_
        refine rz_iald 178 dX9_partFrom_177 rfl (fun x8 => ?_)
        refine rz_iast 179 dX9_partFrom_178 rfl ?_
        refine rz_iinc (lv' := [(6, vI (l6 + 1)), (4, vI (l4 - (jMin l4 x4))), (9, vI (jMin l4 x4)), (8, vI x4), (0, vR l0), (1, vI l1), (3, vI l3), (5, vI l5), (7, vI l7)]) 182 7 dX9_partFrom_179 rfl rfl (cn_1 _) rfl rfl ?_
        exact rz_sub [4, 5, 6, 1, 7, 0, 8, 2] rfl (rX9_partFrom_182 v d r73 h73 l0 l1 l3 (l4 - (jMin l4 x4)) l5 (l6 + 1) l7 (jMin l4 x4))
def fX9_partFrom (l0 : Nat) (l1 : Int32) (l2 : Int32) : mM Int32 := bCallV 9 l0 (fX9_freeRope l0) (fun x1 => bGR 9 l0 24 (fun x2 => bGR 9 l0 24 (fun x3 => bAI 11 x3 ((37 : Int32) + l1) (fun x4 => bSI x2 ((37 : Int32) + x1) x4 (bGR 9 l0 24 (fun x5 => bSI x5 ((49 : Int32) + x1) (-1 : Int32) (bGR 9 l0 24 (fun x6 => bSI x6 ((61 : Int32) + x1) (0 : Int32) (bGR 9 l0 24 (fun x7 => bGR 9 l0 24 (fun x8 => bAI 11 x8 ((73 : Int32) + l1) (fun x9 => bSI x7 ((73 : Int32) + x1) x9 (fX9_partFrom_73 fu l0 l1 x1 l2 (0 : Int32) (0 : Int32) (0 : Int32))))))))))))))
set_option maxRecDepth 20000 in
theorem rX9_partFrom (v : mE) (d : Nat) (l0 : Nat) (l1 : Int32) (l2 : Int32) : Rz v RX9 cX9_partFrom 10 (some .int) false emI (d + 1) 0 [(0, vR l0), (1, vI l1), (2, vI l2)] [] (fX9_partFrom l0 l1 l2) := by
  unfold fX9_partFrom
  refine rz_aload_n 1 0 dX9_partFrom_0 rfl rfl ?_
  refine rz_callV 4 dX9_partFrom_1 rfl (tX9_freeRope v (d + 0) l0) rfl rfl rfl rfl ml_X9_387 im_X9_freeRope se_X9_X9_freeRope in_X9 co_X9_freeRope rfl rfl (fun x1 => ?_)
  refine rz_istore_n (lv' := [(3, vI x1), (0, vR l0), (1, vI l1), (2, vI l2)]) 5 dX9_partFrom_4 rfl rfl rfl ?_
  refine rz_aload_n 6 1 dX9_partFrom_5 rfl rfl ?_
  refine rz_gR 9 dX9_partFrom_6 rfl rfl fl_X9_35 (fun x2 => ?_)
  refine rz_bipush 11 dX9_partFrom_9 rfl cb_37 ?_
  refine rz_iload_n 12 0 dX9_partFrom_11 rfl rfl ?_
  refine rz_iadd 13 dX9_partFrom_12 rfl ?_
  refine rz_aload_n 14 1 dX9_partFrom_13 rfl rfl ?_
  refine rz_gR 17 dX9_partFrom_14 rfl rfl fl_X9_35 (fun x3 => ?_)
  refine rz_bipush 19 dX9_partFrom_17 rfl cb_37 ?_
  refine rz_iload_n 20 2 dX9_partFrom_19 rfl rfl ?_
  refine rz_iadd 21 dX9_partFrom_20 rfl ?_
  refine rz_iald 22 dX9_partFrom_21 rfl (fun x4 => ?_)
  refine rz_iast 23 dX9_partFrom_22 rfl ?_
  refine rz_aload_n 24 1 dX9_partFrom_23 rfl rfl ?_
  refine rz_gR 27 dX9_partFrom_24 rfl rfl fl_X9_35 (fun x5 => ?_)
  refine rz_bipush 29 dX9_partFrom_27 rfl cb_49 ?_
  refine rz_iload_n 30 0 dX9_partFrom_29 rfl rfl ?_
  refine rz_iadd 31 dX9_partFrom_30 rfl ?_
  refine rz_iconst 32 dX9_partFrom_31 rfl ci_m1 ?_
  refine rz_iast 33 dX9_partFrom_32 rfl ?_
  refine rz_aload_n 34 1 dX9_partFrom_33 rfl rfl ?_
  refine rz_gR 37 dX9_partFrom_34 rfl rfl fl_X9_35 (fun x6 => ?_)
  refine rz_bipush 39 dX9_partFrom_37 rfl cb_61 ?_
  refine rz_iload_n 40 0 dX9_partFrom_39 rfl rfl ?_
  refine rz_iadd 41 dX9_partFrom_40 rfl ?_
  refine rz_iconst 42 dX9_partFrom_41 rfl ci_0 ?_
  refine rz_iast 43 dX9_partFrom_42 rfl ?_
  refine rz_aload_n 44 1 dX9_partFrom_43 rfl rfl ?_
  refine rz_gR 47 dX9_partFrom_44 rfl rfl fl_X9_35 (fun x7 => ?_)
  refine rz_bipush 49 dX9_partFrom_47 rfl cb_73 ?_
  refine rz_iload_n 50 0 dX9_partFrom_49 rfl rfl ?_
  refine rz_iadd 51 dX9_partFrom_50 rfl ?_
  refine rz_aload_n 52 1 dX9_partFrom_51 rfl rfl ?_
  refine rz_gR 55 dX9_partFrom_52 rfl rfl fl_X9_35 (fun x8 => ?_)
  refine rz_bipush 57 dX9_partFrom_55 rfl cb_73 ?_
  refine rz_iload_n 58 2 dX9_partFrom_57 rfl rfl ?_
  refine rz_iadd 59 dX9_partFrom_58 rfl ?_
  refine rz_iald 60 dX9_partFrom_59 rfl (fun x9 => ?_)
  refine rz_iast 61 dX9_partFrom_60 rfl ?_
  refine rz_iload_n 62 3 dX9_partFrom_61 rfl rfl ?_
  refine rz_istore (lv' := [(4, vI l2), (3, vI x1), (0, vR l0), (1, vI l1), (2, vI l2)]) 64 dX9_partFrom_62 rfl rfl rfl ?_
  refine rz_iconst 65 dX9_partFrom_64 rfl ci_0 ?_
  refine rz_istore (lv' := [(5, vI (0 : Int32)), (4, vI l2), (3, vI x1), (0, vR l0), (1, vI l1), (2, vI l2)]) 67 dX9_partFrom_65 rfl rfl rfl ?_
  refine rz_iconst 68 dX9_partFrom_67 rfl ci_0 ?_
  refine rz_istore (lv' := [(6, vI (0 : Int32)), (5, vI (0 : Int32)), (4, vI l2), (3, vI x1), (0, vR l0), (1, vI l1), (2, vI l2)]) 70 dX9_partFrom_68 rfl rfl rfl ?_
  refine rz_iconst 71 dX9_partFrom_70 rfl ci_0 ?_
  refine rz_istore (lv' := [(7, vI (0 : Int32)), (6, vI (0 : Int32)), (5, vI (0 : Int32)), (4, vI l2), (3, vI x1), (0, vR l0), (1, vI l1), (2, vI l2)]) 73 dX9_partFrom_71 rfl rfl rfl ?_
  exact rz_sub [5, 6, 4, 3, 2, 1, 0] rfl (rX9_partFrom_73 v d fu l0 l1 x1 l2 (0 : Int32) (0 : Int32) (0 : Int32))
theorem tX9_partFrom (v : mE) (d : Nat) (l0 : Nat) (l1 : Int32) (l2 : Int32) : Mt v yX9_partFrom cX9_partFrom 10 (some .int) emI (d + 1) [vR l0, vI l1, vI l2] (fX9_partFrom l0 l1 l2) := mt_of rfl rfl (fun h => by cases h) rfl rfl (rX9_partFrom v d l0 l1 l2)
theorem dX9_leastOf_0 : decode cX9_leastOf 0 = .ok (.iconst 0, 1) := by decide +kernel
theorem dX9_leastOf_1 : decode cX9_leastOf 1 = .ok (.istore_n 2, 1) := by decide +kernel
theorem dX9_leastOf_2 : decode cX9_leastOf 2 = .ok (.iload_n 1, 1) := by decide +kernel
theorem dX9_leastOf_3 : decode cX9_leastOf 3 = .ok (.iload_n 2, 1) := by decide +kernel
theorem dX9_leastOf_4 : decode cX9_leastOf 4 = .ok (.ishr, 1) := by decide +kernel
theorem dX9_leastOf_5 : decode cX9_leastOf 5 = .ok (.iconst 1, 1) := by decide +kernel
theorem dX9_leastOf_6 : decode cX9_leastOf 6 = .ok (.iand, 1) := by decide +kernel
theorem dX9_leastOf_7 : decode cX9_leastOf 7 = .ok (.ifCond .ne 9, 3) := by decide +kernel
theorem dX9_leastOf_10 : decode cX9_leastOf 10 = .ok (.iinc 2 1, 3) := by decide +kernel
theorem dX9_leastOf_13 : decode cX9_leastOf 13 = .ok (.goto (-11), 3) := by decide +kernel
theorem dX9_leastOf_16 : decode cX9_leastOf 16 = .ok (.iload_n 2, 1) := by decide +kernel
theorem dX9_leastOf_17 : decode cX9_leastOf 17 = .ok (.ireturn, 1) := by decide +kernel
def fX9_leastOf_2 : Nat → Int32 → Int32 → mM Int32
  | 0 => fun _ _ => fun _ => none
  | n + 1 => fun l1 l2 => let r2 := fX9_leastOf_2 n; bIf (((l1 >>> (l2 &&& 31)) &&& (1 : Int32)) = 0) (r2 l1 (l2 + 1)) (bRet l2)
theorem qX9_leastOf_2  (n : Nat) (l1 : Int32) (l2 : Int32) : fX9_leastOf_2 (n + 1) l1 l2 = bIf (((l1 >>> (l2 &&& 31)) &&& (1 : Int32)) = 0) ((fX9_leastOf_2 n) l1 (l2 + 1)) (bRet l2) := rfl
set_option maxRecDepth 20000 in
theorem rX9_leastOf_2 (v : mE) (d : Nat) : ∀ (n : Nat) (l1 : Int32) (l2 : Int32), Rz v RX9 cX9_leastOf 3 (some .int) false emI (d + 0) 2 [(1, vI l1), (2, vI l2)] [] (fX9_leastOf_2 n l1 l2)
  | 0, _, _ => fun _ _ _ hm => by cases hm
  | n + 1, l1, l2 => by
    have h2 := rX9_leastOf_2 v d n
    unfold fX9_leastOf_2
    generalize fX9_leastOf_2 n = r2 at h2 ⊢
    refine rz_iload_n 3 0 dX9_leastOf_2 rfl rfl ?_
    refine rz_iload_n 4 1 dX9_leastOf_3 rfl rfl ?_
    refine rz_ishr 5 dX9_leastOf_4 rfl ?_
    refine rz_iconst 6 dX9_leastOf_5 rfl ci_1 ?_
    refine rz_iand 7 dX9_leastOf_6 rfl ?_
    refine rz_if_ne 16 10 dX9_leastOf_7 rfl rfl ?_ ?_
    · refine rz_iload_n 17 1 dX9_leastOf_16 rfl rfl ?_
      exact rz_ireturn rfl rfl dX9_leastOf_17
    · refine rz_iinc (lv' := [(2, vI (l2 + 1)), (1, vI l1)]) 13 1 dX9_leastOf_10 rfl rfl (cn_1 _) rfl rfl ?_
      refine rz_goto 2 dX9_leastOf_13 rfl ?_
      exact rz_sub [1, 0] rfl (h2 l1 (l2 + 1))
def fX9_leastOf (l0 : Nat) (l1 : Int32) : mM Int32 := fX9_leastOf_2 fu l1 (0 : Int32)
set_option maxRecDepth 20000 in
theorem rX9_leastOf (v : mE) (d : Nat) (l0 : Nat) (l1 : Int32) : Rz v RX9 cX9_leastOf 3 (some .int) false emI (d + 0) 0 [(0, vR l0), (1, vI l1)] [] (fX9_leastOf l0 l1) := by
  unfold fX9_leastOf
  refine rz_iconst 1 dX9_leastOf_0 rfl ci_0 ?_
  refine rz_istore_n (lv' := [(2, vI (0 : Int32)), (0, vR l0), (1, vI l1)]) 2 dX9_leastOf_1 rfl rfl rfl ?_
  exact rz_sub [2, 0] rfl (rX9_leastOf_2 v d fu l1 (0 : Int32))
theorem tX9_leastOf (v : mE) (d : Nat) (l0 : Nat) (l1 : Int32) : Mt v yX9_leastOf cX9_leastOf 3 (some .int) emI (d + 0) [vR l0, vI l1] (fX9_leastOf l0 l1) := mt_of rfl rfl (fun h => by cases h) rfl rfl (rX9_leastOf v d l0 l1)
theorem dX9_greatestOf_0 : decode cX9_greatestOf 0 = .ok (.bipush 7, 2) := by decide +kernel
theorem dX9_greatestOf_2 : decode cX9_greatestOf 2 = .ok (.istore_n 2, 1) := by decide +kernel
theorem dX9_greatestOf_3 : decode cX9_greatestOf 3 = .ok (.iload_n 1, 1) := by decide +kernel
theorem dX9_greatestOf_4 : decode cX9_greatestOf 4 = .ok (.iload_n 2, 1) := by decide +kernel
theorem dX9_greatestOf_5 : decode cX9_greatestOf 5 = .ok (.ishr, 1) := by decide +kernel
theorem dX9_greatestOf_6 : decode cX9_greatestOf 6 = .ok (.iconst 1, 1) := by decide +kernel
theorem dX9_greatestOf_7 : decode cX9_greatestOf 7 = .ok (.iand, 1) := by decide +kernel
theorem dX9_greatestOf_8 : decode cX9_greatestOf 8 = .ok (.ifCond .ne 9, 3) := by decide +kernel
theorem dX9_greatestOf_11 : decode cX9_greatestOf 11 = .ok (.iinc 2 (-1), 3) := by decide +kernel
theorem dX9_greatestOf_14 : decode cX9_greatestOf 14 = .ok (.goto (-11), 3) := by decide +kernel
theorem dX9_greatestOf_17 : decode cX9_greatestOf 17 = .ok (.iload_n 2, 1) := by decide +kernel
theorem dX9_greatestOf_18 : decode cX9_greatestOf 18 = .ok (.ireturn, 1) := by decide +kernel
def fX9_greatestOf_3 : Nat → Int32 → Int32 → mM Int32
  | 0 => fun _ _ => fun _ => none
  | n + 1 => fun l1 l2 => let r3 := fX9_greatestOf_3 n; bIf (((l1 >>> (l2 &&& 31)) &&& (1 : Int32)) = 0) (r3 l1 (l2 + (-1))) (bRet l2)
theorem qX9_greatestOf_3  (n : Nat) (l1 : Int32) (l2 : Int32) : fX9_greatestOf_3 (n + 1) l1 l2 = bIf (((l1 >>> (l2 &&& 31)) &&& (1 : Int32)) = 0) ((fX9_greatestOf_3 n) l1 (l2 + (-1))) (bRet l2) := rfl
set_option maxRecDepth 20000 in
theorem rX9_greatestOf_3 (v : mE) (d : Nat) : ∀ (n : Nat) (l1 : Int32) (l2 : Int32), Rz v RX9 cX9_greatestOf 3 (some .int) false emI (d + 0) 3 [(1, vI l1), (2, vI l2)] [] (fX9_greatestOf_3 n l1 l2)
  | 0, _, _ => fun _ _ _ hm => by cases hm
  | n + 1, l1, l2 => by
    have h3 := rX9_greatestOf_3 v d n
    unfold fX9_greatestOf_3
    generalize fX9_greatestOf_3 n = r3 at h3 ⊢
    refine rz_iload_n 4 0 dX9_greatestOf_3 rfl rfl ?_
    refine rz_iload_n 5 1 dX9_greatestOf_4 rfl rfl ?_
    refine rz_ishr 6 dX9_greatestOf_5 rfl ?_
    refine rz_iconst 7 dX9_greatestOf_6 rfl ci_1 ?_
    refine rz_iand 8 dX9_greatestOf_7 rfl ?_
    refine rz_if_ne 17 11 dX9_greatestOf_8 rfl rfl ?_ ?_
    · refine rz_iload_n 18 1 dX9_greatestOf_17 rfl rfl ?_
      exact rz_ireturn rfl rfl dX9_greatestOf_18
    · refine rz_iinc (lv' := [(2, vI (l2 + (-1))), (1, vI l1)]) 14 1 dX9_greatestOf_11 rfl rfl (cn_m1 _) rfl rfl ?_
      refine rz_goto 3 dX9_greatestOf_14 rfl ?_
      exact rz_sub [1, 0] rfl (h3 l1 (l2 + (-1)))
def fX9_greatestOf (l0 : Nat) (l1 : Int32) : mM Int32 := fX9_greatestOf_3 fu l1 (7 : Int32)
set_option maxRecDepth 20000 in
theorem rX9_greatestOf (v : mE) (d : Nat) (l0 : Nat) (l1 : Int32) : Rz v RX9 cX9_greatestOf 3 (some .int) false emI (d + 0) 0 [(0, vR l0), (1, vI l1)] [] (fX9_greatestOf l0 l1) := by
  unfold fX9_greatestOf
  refine rz_bipush 2 dX9_greatestOf_0 rfl cb_7 ?_
  refine rz_istore_n (lv' := [(2, vI (7 : Int32)), (0, vR l0), (1, vI l1)]) 3 dX9_greatestOf_2 rfl rfl rfl ?_
  exact rz_sub [2, 0] rfl (rX9_greatestOf_3 v d fu l1 (7 : Int32))
theorem tX9_greatestOf (v : mE) (d : Nat) (l0 : Nat) (l1 : Int32) : Mt v yX9_greatestOf cX9_greatestOf 3 (some .int) emI (d + 0) [vR l0, vI l1] (fX9_greatestOf l0 l1) := mt_of rfl rfl (fun h => by cases h) rfl rfl (rX9_greatestOf v d l0 l1)
theorem dX9_poorestOf_0 : decode cX9_poorestOf 0 = .ok (.iconst (-1), 1) := by decide +kernel
theorem dX9_poorestOf_1 : decode cX9_poorestOf 1 = .ok (.istore_n 2, 1) := by decide +kernel
theorem dX9_poorestOf_2 : decode cX9_poorestOf 2 = .ok (.iconst 0, 1) := by decide +kernel
theorem dX9_poorestOf_3 : decode cX9_poorestOf 3 = .ok (.istore_n 3, 1) := by decide +kernel
theorem dX9_poorestOf_4 : decode cX9_poorestOf 4 = .ok (.iload_n 3, 1) := by decide +kernel
theorem dX9_poorestOf_5 : decode cX9_poorestOf 5 = .ok (.aload_n 0, 1) := by decide +kernel
theorem dX9_poorestOf_6 : decode cX9_poorestOf 6 = .ok (.getfield 35, 3) := by decide +kernel
theorem dX9_poorestOf_9 : decode cX9_poorestOf 9 = .ok (.bipush 7, 2) := by decide +kernel
theorem dX9_poorestOf_11 : decode cX9_poorestOf 11 = .ok (.iaload, 1) := by decide +kernel
theorem dX9_poorestOf_12 : decode cX9_poorestOf 12 = .ok (.if_icmp .ge 37, 3) := by decide +kernel
theorem dX9_poorestOf_15 : decode cX9_poorestOf 15 = .ok (.iload_n 1, 1) := by decide +kernel
theorem dX9_poorestOf_16 : decode cX9_poorestOf 16 = .ok (.iload_n 3, 1) := by decide +kernel
theorem dX9_poorestOf_17 : decode cX9_poorestOf 17 = .ok (.ishr, 1) := by decide +kernel
theorem dX9_poorestOf_18 : decode cX9_poorestOf 18 = .ok (.iconst 1, 1) := by decide +kernel
theorem dX9_poorestOf_19 : decode cX9_poorestOf 19 = .ok (.iand, 1) := by decide +kernel
theorem dX9_poorestOf_20 : decode cX9_poorestOf 20 = .ok (.iconst 1, 1) := by decide +kernel
theorem dX9_poorestOf_21 : decode cX9_poorestOf 21 = .ok (.if_icmp .ne 22, 3) := by decide +kernel
theorem dX9_poorestOf_24 : decode cX9_poorestOf 24 = .ok (.iload_n 2, 1) := by decide +kernel
theorem dX9_poorestOf_25 : decode cX9_poorestOf 25 = .ok (.ifCond .lt 16, 3) := by decide +kernel
theorem dX9_poorestOf_28 : decode cX9_poorestOf 28 = .ok (.aload_n 0, 1) := by decide +kernel
theorem dX9_poorestOf_29 : decode cX9_poorestOf 29 = .ok (.iload_n 3, 1) := by decide +kernel
theorem dX9_poorestOf_30 : decode cX9_poorestOf 30 = .ok (.invokevirtual 366, 3) := by decide +kernel
theorem dX9_poorestOf_33 : decode cX9_poorestOf 33 = .ok (.aload_n 0, 1) := by decide +kernel
theorem dX9_poorestOf_34 : decode cX9_poorestOf 34 = .ok (.iload_n 2, 1) := by decide +kernel
theorem dX9_poorestOf_35 : decode cX9_poorestOf 35 = .ok (.invokevirtual 366, 3) := by decide +kernel
theorem dX9_poorestOf_38 : decode cX9_poorestOf 38 = .ok (.if_icmp .ge 5, 3) := by decide +kernel
theorem dX9_poorestOf_41 : decode cX9_poorestOf 41 = .ok (.iload_n 3, 1) := by decide +kernel
theorem dX9_poorestOf_42 : decode cX9_poorestOf 42 = .ok (.istore_n 2, 1) := by decide +kernel
theorem dX9_poorestOf_43 : decode cX9_poorestOf 43 = .ok (.iinc 3 1, 3) := by decide +kernel
theorem dX9_poorestOf_46 : decode cX9_poorestOf 46 = .ok (.goto (-42), 3) := by decide +kernel
theorem dX9_poorestOf_49 : decode cX9_poorestOf 49 = .ok (.iload_n 2, 1) := by decide +kernel
theorem dX9_poorestOf_50 : decode cX9_poorestOf 50 = .ok (.ireturn, 1) := by decide +kernel
def fX9_poorestOf_41 (r4 : Nat → Int32 → Int32 → Int32 → mM Int32) (l0 : Nat) (l1 : Int32) (l3 : Int32) : mM Int32 := r4 l0 l1 l3 (l3 + 1)
set_option maxRecDepth 20000 in
theorem rX9_poorestOf_41 (v : mE) (d : Nat) (r4 : Nat → Int32 → Int32 → Int32 → mM Int32) (h4 : ∀ (y0 : Nat) (y1 : Int32) (y2 : Int32) (y3 : Int32), Rz v RX9 cX9_poorestOf 4 (some .int) false emI (d + 4) 4 [(0, vR y0), (1, vI y1), (2, vI y2), (3, vI y3)] [] (r4 y0 y1 y2 y3)) (l0 : Nat) (l1 : Int32) (l3 : Int32) : Rz v RX9 cX9_poorestOf 4 (some .int) false emI (d + 4) 41 [(0, vR l0), (1, vI l1), (3, vI l3)] [] (fX9_poorestOf_41 r4 l0 l1 l3) := by
  unfold fX9_poorestOf_41
  refine rz_iload_n 42 2 dX9_poorestOf_41 rfl rfl ?_
  refine rz_istore_n (lv' := [(2, vI l3), (0, vR l0), (1, vI l1), (3, vI l3)]) 43 dX9_poorestOf_42 rfl rfl rfl ?_
  refine rz_iinc (lv' := [(3, vI (l3 + 1)), (2, vI l3), (0, vR l0), (1, vI l1)]) 46 3 dX9_poorestOf_43 rfl rfl (cn_1 _) rfl rfl ?_
  refine rz_goto 4 dX9_poorestOf_46 rfl ?_
  exact rz_sub [2, 3, 1, 0] rfl (h4 l0 l1 l3 (l3 + 1))
def fX9_poorestOf_4 : Nat → Nat → Int32 → Int32 → Int32 → mM Int32
  | 0 => fun _ _ _ _ => fun _ => none
  | n + 1 => fun l0 l1 l2 l3 => let r4 := fX9_poorestOf_4 n; bGR 9 l0 24 (fun x1 => bAI 11 x1 (7 : Int32) (fun x2 => bIf (x2 ≤ l3) (bRet l2) (bIf (((l1 >>> (l3 &&& 31)) &&& (1 : Int32)) = (1 : Int32)) (bIf (l2 < 0) (fX9_poorestOf_41 r4 l0 l1 l3) (bCallV 9 l0 (fX9_yardsHeld l0 l3) (fun x3 => bCallV 9 l0 (fX9_yardsHeld l0 l2) (fun x4 => bIf (x4 ≤ x3) (r4 l0 l1 l2 (l3 + 1)) (fX9_poorestOf_41 r4 l0 l1 l3))))) (r4 l0 l1 l2 (l3 + 1)))))
theorem qX9_poorestOf_4  (n : Nat) (l0 : Nat) (l1 : Int32) (l2 : Int32) (l3 : Int32) : fX9_poorestOf_4 (n + 1) l0 l1 l2 l3 = bGR 9 l0 24 (fun x1 => bAI 11 x1 (7 : Int32) (fun x2 => bIf (x2 ≤ l3) (bRet l2) (bIf (((l1 >>> (l3 &&& 31)) &&& (1 : Int32)) = (1 : Int32)) (bIf (l2 < 0) (fX9_poorestOf_41 (fX9_poorestOf_4 n) l0 l1 l3) (bCallV 9 l0 (fX9_yardsHeld l0 l3) (fun x3 => bCallV 9 l0 (fX9_yardsHeld l0 l2) (fun x4 => bIf (x4 ≤ x3) ((fX9_poorestOf_4 n) l0 l1 l2 (l3 + 1)) (fX9_poorestOf_41 (fX9_poorestOf_4 n) l0 l1 l3))))) ((fX9_poorestOf_4 n) l0 l1 l2 (l3 + 1))))) := rfl
set_option maxRecDepth 20000 in
theorem rX9_poorestOf_4 (v : mE) (d : Nat) : ∀ (n : Nat) (l0 : Nat) (l1 : Int32) (l2 : Int32) (l3 : Int32), Rz v RX9 cX9_poorestOf 4 (some .int) false emI (d + 4) 4 [(0, vR l0), (1, vI l1), (2, vI l2), (3, vI l3)] [] (fX9_poorestOf_4 n l0 l1 l2 l3)
  | 0, _, _, _, _ => fun _ _ _ hm => by cases hm
  | n + 1, l0, l1, l2, l3 => by
    have h4 := rX9_poorestOf_4 v d n
    unfold fX9_poorestOf_4
    generalize fX9_poorestOf_4 n = r4 at h4 ⊢
    refine rz_iload_n 5 3 dX9_poorestOf_4 rfl rfl ?_
    refine rz_aload_n 6 0 dX9_poorestOf_5 rfl rfl ?_
    refine rz_gR 9 dX9_poorestOf_6 rfl rfl fl_X9_35 (fun x1 => ?_)
    refine rz_bipush 11 dX9_poorestOf_9 rfl cb_7 ?_
    refine rz_iald 12 dX9_poorestOf_11 rfl (fun x2 => ?_)
    refine rz_icmp_ge 49 15 dX9_poorestOf_12 rfl rfl ?_ ?_
    · refine rz_iload_n 50 2 dX9_poorestOf_49 rfl rfl ?_
      exact rz_ireturn rfl rfl dX9_poorestOf_50
    · refine rz_iload_n 16 1 dX9_poorestOf_15 rfl rfl ?_
      refine rz_iload_n 17 3 dX9_poorestOf_16 rfl rfl ?_
      refine rz_ishr 18 dX9_poorestOf_17 rfl ?_
      refine rz_iconst 19 dX9_poorestOf_18 rfl ci_1 ?_
      refine rz_iand 20 dX9_poorestOf_19 rfl ?_
      refine rz_iconst 21 dX9_poorestOf_20 rfl ci_1 ?_
      refine rz_icmp_ne 43 24 dX9_poorestOf_21 rfl rfl ?_ ?_
      · refine rz_iinc (lv' := [(3, vI (l3 + 1)), (0, vR l0), (1, vI l1), (2, vI l2)]) 46 3 dX9_poorestOf_43 rfl rfl (cn_1 _) rfl rfl ?_
        refine rz_goto 4 dX9_poorestOf_46 rfl ?_
        exact rz_sub [1, 2, 3, 0] rfl (h4 l0 l1 l2 (l3 + 1))
      · refine rz_iload_n 25 2 dX9_poorestOf_24 rfl rfl ?_
        refine rz_if_lt 41 28 dX9_poorestOf_25 rfl rfl ?_ ?_
        · exact rz_sub [0, 1, 3] rfl (rX9_poorestOf_41 v d r4 h4 l0 l1 l3)
        · refine rz_aload_n 29 0 dX9_poorestOf_28 rfl rfl ?_
          refine rz_iload_n 30 3 dX9_poorestOf_29 rfl rfl ?_
          refine rz_callV 33 dX9_poorestOf_30 rfl (tX9_yardsHeld v (d + 0) l0 l3) rfl rfl rfl rfl ml_X9_366 im_X9_yardsHeld se_X9_X9_yardsHeld in_X9 co_X9_yardsHeld rfl rfl (fun x3 => ?_)
          refine rz_aload_n 34 0 dX9_poorestOf_33 rfl rfl ?_
          refine rz_iload_n 35 2 dX9_poorestOf_34 rfl rfl ?_
          refine rz_callV 38 dX9_poorestOf_35 rfl (tX9_yardsHeld v (d + 0) l0 l2) rfl rfl rfl rfl ml_X9_366 im_X9_yardsHeld se_X9_X9_yardsHeld in_X9 co_X9_yardsHeld rfl rfl (fun x4 => ?_)
          refine rz_icmp_ge 43 41 dX9_poorestOf_38 rfl rfl ?_ ?_
          · refine rz_iinc (lv' := [(3, vI (l3 + 1)), (0, vR l0), (1, vI l1), (2, vI l2)]) 46 3 dX9_poorestOf_43 rfl rfl (cn_1 _) rfl rfl ?_
            refine rz_goto 4 dX9_poorestOf_46 rfl ?_
            exact rz_sub [1, 2, 3, 0] rfl (h4 l0 l1 l2 (l3 + 1))
          · exact rz_sub [0, 1, 3] rfl (rX9_poorestOf_41 v d r4 h4 l0 l1 l3)
def fX9_poorestOf (l0 : Nat) (l1 : Int32) : mM Int32 := fX9_poorestOf_4 fu l0 l1 (-1 : Int32) (0 : Int32)
set_option maxRecDepth 20000 in
theorem rX9_poorestOf (v : mE) (d : Nat) (l0 : Nat) (l1 : Int32) : Rz v RX9 cX9_poorestOf 4 (some .int) false emI (d + 4) 0 [(0, vR l0), (1, vI l1)] [] (fX9_poorestOf l0 l1) := by
  unfold fX9_poorestOf
  refine rz_iconst 1 dX9_poorestOf_0 rfl ci_m1 ?_
  refine rz_istore_n (lv' := [(2, vI (-1 : Int32)), (0, vR l0), (1, vI l1)]) 2 dX9_poorestOf_1 rfl rfl rfl ?_
  refine rz_iconst 3 dX9_poorestOf_2 rfl ci_0 ?_
  refine rz_istore_n (lv' := [(3, vI (0 : Int32)), (2, vI (-1 : Int32)), (0, vR l0), (1, vI l1)]) 4 dX9_poorestOf_3 rfl rfl rfl ?_
  exact rz_sub [2, 3, 1, 0] rfl (rX9_poorestOf_4 v d fu l0 l1 (-1 : Int32) (0 : Int32))
theorem tX9_poorestOf (v : mE) (d : Nat) (l0 : Nat) (l1 : Int32) : Mt v yX9_poorestOf cX9_poorestOf 4 (some .int) emI (d + 4) [vR l0, vI l1] (fX9_poorestOf l0 l1) := mt_of rfl rfl (fun h => by cases h) rfl rfl (rX9_poorestOf v d l0 l1)
theorem dX9_share2_0 : decode cX9_share2 0 = .ok (.iload_n 2, 1) := by decide +kernel
theorem dX9_share2_1 : decode cX9_share2 1 = .ok (.invokestatic 377, 3) := by decide +kernel
theorem dX9_share2_4 : decode cX9_share2 4 = .ok (.istore_n 3, 1) := by decide +kernel
theorem dX9_share2_5 : decode cX9_share2 5 = .ok (.aload_n 0, 1) := by decide +kernel
theorem dX9_share2_6 : decode cX9_share2 6 = .ok (.iload_n 1, 1) := by decide +kernel
theorem dX9_share2_7 : decode cX9_share2 7 = .ok (.invokevirtual 327, 3) := by decide +kernel
theorem dX9_share2_10 : decode cX9_share2 10 = .ok (.istore 4, 2) := by decide +kernel
theorem dX9_share2_12 : decode cX9_share2 12 = .ok (.iload 4, 2) := by decide +kernel
theorem dX9_share2_14 : decode cX9_share2 14 = .ok (.iload_n 3, 1) := by decide +kernel
theorem dX9_share2_15 : decode cX9_share2 15 = .ok (.idiv, 1) := by decide +kernel
theorem dX9_share2_16 : decode cX9_share2 16 = .ok (.istore 5, 2) := by decide +kernel
theorem dX9_share2_18 : decode cX9_share2 18 = .ok (.iload 4, 2) := by decide +kernel
theorem dX9_share2_20 : decode cX9_share2 20 = .ok (.iload_n 3, 1) := by decide +kernel
theorem dX9_share2_21 : decode cX9_share2 21 = .ok (.irem, 1) := by decide +kernel
theorem dX9_share2_22 : decode cX9_share2 22 = .ok (.istore 6, 2) := by decide +kernel
theorem dX9_share2_24 : decode cX9_share2 24 = .ok (.iload_n 1, 1) := by decide +kernel
theorem dX9_share2_25 : decode cX9_share2 25 = .ok (.istore 7, 2) := by decide +kernel
theorem dX9_share2_27 : decode cX9_share2 27 = .ok (.iload_n 3, 1) := by decide +kernel
theorem dX9_share2_28 : decode cX9_share2 28 = .ok (.istore 8, 2) := by decide +kernel
theorem dX9_share2_30 : decode cX9_share2 30 = .ok (.iconst 0, 1) := by decide +kernel
theorem dX9_share2_31 : decode cX9_share2 31 = .ok (.istore 9, 2) := by decide +kernel
theorem dX9_share2_33 : decode cX9_share2 33 = .ok (.iload 9, 2) := by decide +kernel
theorem dX9_share2_35 : decode cX9_share2 35 = .ok (.aload_n 0, 1) := by decide +kernel
theorem dX9_share2_36 : decode cX9_share2 36 = .ok (.getfield 35, 3) := by decide +kernel
theorem dX9_share2_39 : decode cX9_share2 39 = .ok (.bipush 7, 2) := by decide +kernel
theorem dX9_share2_41 : decode cX9_share2 41 = .ok (.iaload, 1) := by decide +kernel
theorem dX9_share2_42 : decode cX9_share2 42 = .ok (.if_icmp .ge 85, 3) := by decide +kernel
theorem dX9_share2_45 : decode cX9_share2 45 = .ok (.iload_n 2, 1) := by decide +kernel
theorem dX9_share2_46 : decode cX9_share2 46 = .ok (.iload 9, 2) := by decide +kernel
theorem dX9_share2_48 : decode cX9_share2 48 = .ok (.ishr, 1) := by decide +kernel
theorem dX9_share2_49 : decode cX9_share2 49 = .ok (.iconst 1, 1) := by decide +kernel
theorem dX9_share2_50 : decode cX9_share2 50 = .ok (.iand, 1) := by decide +kernel
theorem dX9_share2_51 : decode cX9_share2 51 = .ok (.ifCond .ne 6, 3) := by decide +kernel
theorem dX9_share2_54 : decode cX9_share2 54 = .ok (.goto 67, 3) := by decide +kernel
theorem dX9_share2_57 : decode cX9_share2 57 = .ok (.iinc 8 (-1), 3) := by decide +kernel
theorem dX9_share2_60 : decode cX9_share2 60 = .ok (.iload 5, 2) := by decide +kernel
theorem dX9_share2_62 : decode cX9_share2 62 = .ok (.iload_n 3, 1) := by decide +kernel
theorem dX9_share2_63 : decode cX9_share2 63 = .ok (.iconst 1, 1) := by decide +kernel
theorem dX9_share2_64 : decode cX9_share2 64 = .ok (.isub, 1) := by decide +kernel
theorem dX9_share2_65 : decode cX9_share2 65 = .ok (.iload 8, 2) := by decide +kernel
theorem dX9_share2_67 : decode cX9_share2 67 = .ok (.isub, 1) := by decide +kernel
theorem dX9_share2_68 : decode cX9_share2 68 = .ok (.iload 6, 2) := by decide +kernel
theorem dX9_share2_70 : decode cX9_share2 70 = .ok (.if_icmp .ge 7, 3) := by decide +kernel
theorem dX9_share2_73 : decode cX9_share2 73 = .ok (.iconst 1, 1) := by decide +kernel
theorem dX9_share2_74 : decode cX9_share2 74 = .ok (.goto 4, 3) := by decide +kernel
theorem dX9_share2_77 : decode cX9_share2 77 = .ok (.iconst 0, 1) := by decide +kernel
theorem dX9_share2_78 : decode cX9_share2 78 = .ok (.iadd, 1) := by decide +kernel
theorem dX9_share2_79 : decode cX9_share2 79 = .ok (.istore 10, 2) := by decide +kernel
theorem dX9_share2_81 : decode cX9_share2 81 = .ok (.iload 8, 2) := by decide +kernel
theorem dX9_share2_83 : decode cX9_share2 83 = .ok (.ifCond .le 14, 3) := by decide +kernel
theorem dX9_share2_86 : decode cX9_share2 86 = .ok (.aload_n 0, 1) := by decide +kernel
theorem dX9_share2_87 : decode cX9_share2 87 = .ok (.iload 7, 2) := by decide +kernel
theorem dX9_share2_89 : decode cX9_share2 89 = .ok (.iload 10, 2) := by decide +kernel
theorem dX9_share2_91 : decode cX9_share2 91 = .ok (.invokevirtual 393, 3) := by decide +kernel
theorem dX9_share2_94 : decode cX9_share2 94 = .ok (.goto 4, 3) := by decide +kernel
theorem dX9_share2_97 : decode cX9_share2 97 = .ok (.iconst (-1), 1) := by decide +kernel
theorem dX9_share2_98 : decode cX9_share2 98 = .ok (.istore 11, 2) := by decide +kernel
theorem dX9_share2_100 : decode cX9_share2 100 = .ok (.aload_n 0, 1) := by decide +kernel
theorem dX9_share2_101 : decode cX9_share2 101 = .ok (.getfield 35, 3) := by decide +kernel
theorem dX9_share2_104 : decode cX9_share2 104 = .ok (.bipush 37, 2) := by decide +kernel
theorem dX9_share2_106 : decode cX9_share2 106 = .ok (.iload 7, 2) := by decide +kernel
theorem dX9_share2_108 : decode cX9_share2 108 = .ok (.iadd, 1) := by decide +kernel
theorem dX9_share2_109 : decode cX9_share2 109 = .ok (.iload 9, 2) := by decide +kernel
theorem dX9_share2_111 : decode cX9_share2 111 = .ok (.iastore, 1) := by decide +kernel
theorem dX9_share2_112 : decode cX9_share2 112 = .ok (.iload 11, 2) := by decide +kernel
theorem dX9_share2_114 : decode cX9_share2 114 = .ok (.ifCond .lt 7, 3) := by decide +kernel
theorem dX9_share2_117 : decode cX9_share2 117 = .ok (.iload 11, 2) := by decide +kernel
theorem dX9_share2_119 : decode cX9_share2 119 = .ok (.istore 7, 2) := by decide +kernel
theorem dX9_share2_121 : decode cX9_share2 121 = .ok (.iinc 9 1, 3) := by decide +kernel
theorem dX9_share2_124 : decode cX9_share2 124 = .ok (.goto (-91), 3) := by decide +kernel
theorem dX9_share2_127 : decode cX9_share2 127 = .ok (.return_, 1) := by decide +kernel
def fX9_share2_98 (r33 : Nat → Int32 → Int32 → Int32 → Int32 → Int32 → Int32 → Int32 → mM Unit) (l0 : Nat) (l2 : Int32) (l3 : Int32) (l5 : Int32) (l6 : Int32) (l7 : Int32) (l8 : Int32) (l9 : Int32) (s0 : Int32) : mM Unit := bGR 9 l0 24 (fun x1 => bSI x1 ((37 : Int32) + l7) l9 (bIf (s0 < 0) (r33 l0 l2 l3 l5 l6 l7 l8 (l9 + 1)) (r33 l0 l2 l3 l5 l6 s0 l8 (l9 + 1))))
set_option maxRecDepth 20000 in
theorem rX9_share2_98 (v : mE) (d : Nat) (r33 : Nat → Int32 → Int32 → Int32 → Int32 → Int32 → Int32 → Int32 → mM Unit) (h33 : ∀ (y0 : Nat) (y2 : Int32) (y3 : Int32) (y5 : Int32) (y6 : Int32) (y7 : Int32) (y8 : Int32) (y9 : Int32), Rz v RX9 cX9_share2 12 none false emU (d + 2) 33 [(0, vR y0), (2, vI y2), (3, vI y3), (5, vI y5), (6, vI y6), (7, vI y7), (8, vI y8), (9, vI y9)] [] (r33 y0 y2 y3 y5 y6 y7 y8 y9)) (l0 : Nat) (l2 : Int32) (l3 : Int32) (l5 : Int32) (l6 : Int32) (l7 : Int32) (l8 : Int32) (l9 : Int32) (s0 : Int32) : Rz v RX9 cX9_share2 12 none false emU (d + 2) 98 [(0, vR l0), (2, vI l2), (3, vI l3), (5, vI l5), (6, vI l6), (7, vI l7), (8, vI l8), (9, vI l9)] [vI s0] (fX9_share2_98 r33 l0 l2 l3 l5 l6 l7 l8 l9 s0) := by
  unfold fX9_share2_98
  refine rz_istore (lv' := [(11, vI s0), (0, vR l0), (2, vI l2), (3, vI l3), (5, vI l5), (6, vI l6), (7, vI l7), (8, vI l8), (9, vI l9)]) 100 dX9_share2_98 rfl rfl rfl ?_
  refine rz_aload_n 101 1 dX9_share2_100 rfl rfl ?_
  refine rz_gR 104 dX9_share2_101 rfl rfl fl_X9_35 (fun x1 => ?_)
  refine rz_bipush 106 dX9_share2_104 rfl cb_37 ?_
  refine rz_iload 108 6 dX9_share2_106 rfl rfl ?_
  refine rz_iadd 109 dX9_share2_108 rfl ?_
  refine rz_iload 111 8 dX9_share2_109 rfl rfl ?_
  refine rz_iast 112 dX9_share2_111 rfl ?_
  refine rz_iload 114 0 dX9_share2_112 rfl rfl ?_
  refine rz_if_lt 121 117 dX9_share2_114 rfl rfl ?_ ?_
  · refine rz_iinc (lv' := [(9, vI (l9 + 1)), (11, vI s0), (0, vR l0), (2, vI l2), (3, vI l3), (5, vI l5), (6, vI l6), (7, vI l7), (8, vI l8)]) 124 8 dX9_share2_121 rfl rfl (cn_1 _) rfl rfl ?_
    refine rz_goto 33 dX9_share2_124 rfl ?_
    exact rz_sub [2, 3, 4, 5, 6, 7, 8, 0] rfl (h33 l0 l2 l3 l5 l6 l7 l8 (l9 + 1))
  · refine rz_iload 119 0 dX9_share2_117 rfl rfl ?_
    refine rz_istore (lv' := [(7, vI s0), (11, vI s0), (0, vR l0), (2, vI l2), (3, vI l3), (5, vI l5), (6, vI l6), (8, vI l8), (9, vI l9)]) 121 dX9_share2_119 rfl rfl rfl ?_
    refine rz_iinc (lv' := [(9, vI (l9 + 1)), (7, vI s0), (11, vI s0), (0, vR l0), (2, vI l2), (3, vI l3), (5, vI l5), (6, vI l6), (8, vI l8)]) 124 8 dX9_share2_121 rfl rfl (cn_1 _) rfl rfl ?_
    refine rz_goto 33 dX9_share2_124 rfl ?_
    exact rz_sub [3, 4, 5, 6, 7, 1, 8, 0] rfl (h33 l0 l2 l3 l5 l6 s0 l8 (l9 + 1))
def fX9_share2_78 (r33 : Nat → Int32 → Int32 → Int32 → Int32 → Int32 → Int32 → Int32 → mM Unit) (l0 : Nat) (l2 : Int32) (l3 : Int32) (l5 : Int32) (l6 : Int32) (l7 : Int32) (l8 : Int32) (l9 : Int32) (s0 : Int32) (s1 : Int32) : mM Unit := bIf (l8 ≤ 0) (fX9_share2_98 r33 l0 l2 l3 l5 l6 l7 l8 l9 (-1 : Int32)) (bCallV 9 l0 (fX9_partFrom l0 l7 (s1 + s0)) (fun x1 => fX9_share2_98 r33 l0 l2 l3 l5 l6 l7 l8 l9 x1))
set_option maxRecDepth 20000 in
theorem rX9_share2_78 (v : mE) (d : Nat) (r33 : Nat → Int32 → Int32 → Int32 → Int32 → Int32 → Int32 → Int32 → mM Unit) (h33 : ∀ (y0 : Nat) (y2 : Int32) (y3 : Int32) (y5 : Int32) (y6 : Int32) (y7 : Int32) (y8 : Int32) (y9 : Int32), Rz v RX9 cX9_share2 12 none false emU (d + 2) 33 [(0, vR y0), (2, vI y2), (3, vI y3), (5, vI y5), (6, vI y6), (7, vI y7), (8, vI y8), (9, vI y9)] [] (r33 y0 y2 y3 y5 y6 y7 y8 y9)) (l0 : Nat) (l2 : Int32) (l3 : Int32) (l5 : Int32) (l6 : Int32) (l7 : Int32) (l8 : Int32) (l9 : Int32) (s0 : Int32) (s1 : Int32) : Rz v RX9 cX9_share2 12 none false emU (d + 2) 78 [(0, vR l0), (2, vI l2), (3, vI l3), (5, vI l5), (6, vI l6), (7, vI l7), (8, vI l8), (9, vI l9)] [vI s0, vI s1] (fX9_share2_78 r33 l0 l2 l3 l5 l6 l7 l8 l9 s0 s1) := by
  unfold fX9_share2_78
  refine rz_iadd 79 dX9_share2_78 rfl ?_
  refine rz_istore (lv' := [(10, vI (s1 + s0)), (0, vR l0), (2, vI l2), (3, vI l3), (5, vI l5), (6, vI l6), (7, vI l7), (8, vI l8), (9, vI l9)]) 81 dX9_share2_79 rfl rfl rfl ?_
  refine rz_iload 83 7 dX9_share2_81 rfl rfl ?_
  refine rz_if_le 97 86 dX9_share2_83 rfl rfl ?_ ?_
  · refine rz_iconst 98 dX9_share2_97 rfl ci_m1 ?_
    exact rz_sub [1, 2, 3, 4, 5, 6, 7, 8] rfl (rX9_share2_98 v d r33 h33 l0 l2 l3 l5 l6 l7 l8 l9 (-1 : Int32))
  · refine rz_aload_n 87 1 dX9_share2_86 rfl rfl ?_
    refine rz_iload 89 6 dX9_share2_87 rfl rfl ?_
    refine rz_iload 91 0 dX9_share2_89 rfl rfl ?_
    refine rz_callV 94 dX9_share2_91 rfl (tX9_partFrom v (d + 0) l0 l7 (s1 + s0)) rfl rfl rfl rfl ml_X9_393 im_X9_partFrom se_X9_X9_partFrom in_X9 co_X9_partFrom rfl rfl (fun x1 => ?_)
    refine rz_goto 98 dX9_share2_94 rfl ?_
    exact rz_sub [1, 2, 3, 4, 5, 6, 7, 8] rfl (rX9_share2_98 v d r33 h33 l0 l2 l3 l5 l6 l7 l8 l9 x1)
def fX9_share2_33 : Nat → Nat → Int32 → Int32 → Int32 → Int32 → Int32 → Int32 → Int32 → mM Unit
  | 0 => fun _ _ _ _ _ _ _ _ => fun _ => none
  | n + 1 => fun l0 l2 l3 l5 l6 l7 l8 l9 => let r33 := fX9_share2_33 n; bGR 9 l0 24 (fun x1 => bAI 11 x1 (7 : Int32) (fun x2 => bIf (x2 ≤ l9) (bRet ()) (bIf (((l2 >>> (l9 &&& 31)) &&& (1 : Int32)) = 0) (r33 l0 l2 l3 l5 l6 l7 l8 (l9 + 1)) (bIf (l6 ≤ ((l3 - (1 : Int32)) - (l8 + (-1)))) (fX9_share2_78 r33 l0 l2 l3 l5 l6 l7 (l8 + (-1)) l9 (0 : Int32) l5) (fX9_share2_78 r33 l0 l2 l3 l5 l6 l7 (l8 + (-1)) l9 (1 : Int32) l5)))))
theorem qX9_share2_33  (n : Nat) (l0 : Nat) (l2 : Int32) (l3 : Int32) (l5 : Int32) (l6 : Int32) (l7 : Int32) (l8 : Int32) (l9 : Int32) : fX9_share2_33 (n + 1) l0 l2 l3 l5 l6 l7 l8 l9 = bGR 9 l0 24 (fun x1 => bAI 11 x1 (7 : Int32) (fun x2 => bIf (x2 ≤ l9) (bRet ()) (bIf (((l2 >>> (l9 &&& 31)) &&& (1 : Int32)) = 0) ((fX9_share2_33 n) l0 l2 l3 l5 l6 l7 l8 (l9 + 1)) (bIf (l6 ≤ ((l3 - (1 : Int32)) - (l8 + (-1)))) (fX9_share2_78 (fX9_share2_33 n) l0 l2 l3 l5 l6 l7 (l8 + (-1)) l9 (0 : Int32) l5) (fX9_share2_78 (fX9_share2_33 n) l0 l2 l3 l5 l6 l7 (l8 + (-1)) l9 (1 : Int32) l5))))) := rfl
set_option maxRecDepth 20000 in
theorem rX9_share2_33 (v : mE) (d : Nat) : ∀ (n : Nat) (l0 : Nat) (l2 : Int32) (l3 : Int32) (l5 : Int32) (l6 : Int32) (l7 : Int32) (l8 : Int32) (l9 : Int32), Rz v RX9 cX9_share2 12 none false emU (d + 2) 33 [(0, vR l0), (2, vI l2), (3, vI l3), (5, vI l5), (6, vI l6), (7, vI l7), (8, vI l8), (9, vI l9)] [] (fX9_share2_33 n l0 l2 l3 l5 l6 l7 l8 l9)
  | 0, _, _, _, _, _, _, _, _ => fun _ _ _ hm => by cases hm
  | n + 1, l0, l2, l3, l5, l6, l7, l8, l9 => by
    have h33 := rX9_share2_33 v d n
    unfold fX9_share2_33
    generalize fX9_share2_33 n = r33 at h33 ⊢
    refine rz_iload 35 7 dX9_share2_33 rfl rfl ?_
    refine rz_aload_n 36 0 dX9_share2_35 rfl rfl ?_
    refine rz_gR 39 dX9_share2_36 rfl rfl fl_X9_35 (fun x1 => ?_)
    refine rz_bipush 41 dX9_share2_39 rfl cb_7 ?_
    refine rz_iald 42 dX9_share2_41 rfl (fun x2 => ?_)
    refine rz_icmp_ge 127 45 dX9_share2_42 rfl rfl ?_ ?_
    · exact rz_return rfl rfl dX9_share2_127
    · refine rz_iload_n 46 1 dX9_share2_45 rfl rfl ?_
      refine rz_iload 48 7 dX9_share2_46 rfl rfl ?_
      refine rz_ishr 49 dX9_share2_48 rfl ?_
      refine rz_iconst 50 dX9_share2_49 rfl ci_1 ?_
      refine rz_iand 51 dX9_share2_50 rfl ?_
      refine rz_if_ne 57 54 dX9_share2_51 rfl rfl ?_ ?_
      · refine rz_iinc (lv' := [(8, vI (l8 + (-1))), (0, vR l0), (2, vI l2), (3, vI l3), (5, vI l5), (6, vI l6), (7, vI l7), (9, vI l9)]) 60 6 dX9_share2_57 rfl rfl (cn_m1 _) rfl rfl ?_
        refine rz_iload 62 4 dX9_share2_60 rfl rfl ?_
        refine rz_iload_n 63 3 dX9_share2_62 rfl rfl ?_
        refine rz_iconst 64 dX9_share2_63 rfl ci_1 ?_
        refine rz_isub 65 dX9_share2_64 rfl ?_
        refine rz_iload 67 0 dX9_share2_65 rfl rfl ?_
        refine rz_isub 68 dX9_share2_67 rfl ?_
        refine rz_iload 70 5 dX9_share2_68 rfl rfl ?_
        refine rz_icmp_ge 77 73 dX9_share2_70 rfl rfl ?_ ?_
        · refine rz_iconst 78 dX9_share2_77 rfl ci_0 ?_
          exact rz_sub [1, 2, 3, 4, 5, 6, 0, 7] rfl (rX9_share2_78 v d r33 h33 l0 l2 l3 l5 l6 l7 (l8 + (-1)) l9 (0 : Int32) l5)
        · refine rz_iconst 74 dX9_share2_73 rfl ci_1 ?_
          refine rz_goto 78 dX9_share2_74 rfl ?_
          exact rz_sub [1, 2, 3, 4, 5, 6, 0, 7] rfl (rX9_share2_78 v d r33 h33 l0 l2 l3 l5 l6 l7 (l8 + (-1)) l9 (1 : Int32) l5)
      · refine rz_goto 121 dX9_share2_54 rfl ?_
        refine rz_iinc (lv' := [(9, vI (l9 + 1)), (0, vR l0), (2, vI l2), (3, vI l3), (5, vI l5), (6, vI l6), (7, vI l7), (8, vI l8)]) 124 7 dX9_share2_121 rfl rfl (cn_1 _) rfl rfl ?_
        refine rz_goto 33 dX9_share2_124 rfl ?_
        exact rz_sub [1, 2, 3, 4, 5, 6, 7, 0] rfl (h33 l0 l2 l3 l5 l6 l7 l8 (l9 + 1))
def fX9_share2 (l0 : Nat) (l1 : Int32) (l2 : Int32) : mM Unit := bCall (fX9_bits l2) (fun x1 => bCallV 9 l0 (fX9_yardsOfRope l0 l1) (fun x2 => bNz x1 (bNz x1 (fX9_share2_33 fu l0 l2 x1 (x2 / x1) (x2 - x2 / x1 * x1) l1 x1 (0 : Int32)))))
set_option maxRecDepth 20000 in
theorem rX9_share2 (v : mE) (d : Nat) (l0 : Nat) (l1 : Int32) (l2 : Int32) : Rz v RX9 cX9_share2 12 none false emU (d + 2) 0 [(0, vR l0), (1, vI l1), (2, vI l2)] [] (fX9_share2 l0 l1 l2) := by
  unfold fX9_share2
  refine rz_iload_n 1 2 dX9_share2_0 rfl rfl ?_
  refine rz_callS 4 dX9_share2_1 rfl (tX9_bits v (d + 1) l2) rfl rfl ml_X9_377 sm_X9_bits in_X9 co_X9_bits rfl rfl (fun x1 => ?_)
  refine rz_istore_n (lv' := [(3, vI x1), (0, vR l0), (1, vI l1), (2, vI l2)]) 5 dX9_share2_4 rfl rfl rfl ?_
  refine rz_aload_n 6 1 dX9_share2_5 rfl rfl ?_
  refine rz_iload_n 7 2 dX9_share2_6 rfl rfl ?_
  refine rz_callV 10 dX9_share2_7 rfl (tX9_yardsOfRope v (d + 1) l0 l1) rfl rfl rfl rfl ml_X9_327 im_X9_yardsOfRope se_X9_X9_yardsOfRope in_X9 co_X9_yardsOfRope rfl rfl (fun x2 => ?_)
  refine rz_istore (lv' := [(4, vI x2), (3, vI x1), (0, vR l0), (1, vI l1), (2, vI l2)]) 12 dX9_share2_10 rfl rfl rfl ?_
  refine rz_iload 14 0 dX9_share2_12 rfl rfl ?_
  refine rz_iload_n 15 1 dX9_share2_14 rfl rfl ?_
  refine rz_idiv 16 dX9_share2_15 rfl ?_
  refine rz_istore (lv' := [(5, vI (x2 / x1)), (4, vI x2), (3, vI x1), (0, vR l0), (1, vI l1), (2, vI l2)]) 18 dX9_share2_16 rfl rfl rfl ?_
  refine rz_iload 20 1 dX9_share2_18 rfl rfl ?_
  refine rz_iload_n 21 2 dX9_share2_20 rfl rfl ?_
  refine rz_irem 22 dX9_share2_21 rfl ?_
  refine rz_istore (lv' := [(6, vI (x2 - x2 / x1 * x1)), (5, vI (x2 / x1)), (4, vI x2), (3, vI x1), (0, vR l0), (1, vI l1), (2, vI l2)]) 24 dX9_share2_22 rfl rfl rfl ?_
  refine rz_iload_n 25 5 dX9_share2_24 rfl rfl ?_
  refine rz_istore (lv' := [(7, vI l1), (6, vI (x2 - x2 / x1 * x1)), (5, vI (x2 / x1)), (4, vI x2), (3, vI x1), (0, vR l0), (1, vI l1), (2, vI l2)]) 27 dX9_share2_25 rfl rfl rfl ?_
  refine rz_iload_n 28 4 dX9_share2_27 rfl rfl ?_
  refine rz_istore (lv' := [(8, vI x1), (7, vI l1), (6, vI (x2 - x2 / x1 * x1)), (5, vI (x2 / x1)), (4, vI x2), (3, vI x1), (0, vR l0), (1, vI l1), (2, vI l2)]) 30 dX9_share2_28 rfl rfl rfl ?_
  refine rz_iconst 31 dX9_share2_30 rfl ci_0 ?_
  refine rz_istore (lv' := [(9, vI (0 : Int32)), (8, vI x1), (7, vI l1), (6, vI (x2 - x2 / x1 * x1)), (5, vI (x2 / x1)), (4, vI x2), (3, vI x1), (0, vR l0), (1, vI l1), (2, vI l2)]) 33 dX9_share2_31 rfl rfl rfl ?_
  exact rz_sub [7, 9, 6, 4, 3, 2, 1, 0] rfl (rX9_share2_33 v d fu l0 l2 x1 (x2 / x1) (x2 - x2 / x1 * x1) l1 x1 (0 : Int32))
theorem tX9_share2 (v : mE) (d : Nat) (l0 : Nat) (l1 : Int32) (l2 : Int32) : Mt v yX9_share2 cX9_share2 12 none emU (d + 2) [vR l0, vI l1, vI l2] (fX9_share2 l0 l1 l2) := mt_of rfl rfl (fun h => by cases h) rfl rfl (rX9_share2 v d l0 l1 l2)
theorem dX9_inherit_0 : decode cX9_inherit 0 = .ok (.aload_n 0, 1) := by decide +kernel
theorem dX9_inherit_1 : decode cX9_inherit 1 = .ok (.iload_n 2, 1) := by decide +kernel
theorem dX9_inherit_2 : decode cX9_inherit 2 = .ok (.invokevirtual 369, 3) := by decide +kernel
theorem dX9_inherit_5 : decode cX9_inherit 5 = .ok (.istore_n 3, 1) := by decide +kernel
theorem dX9_inherit_6 : decode cX9_inherit 6 = .ok (.aload_n 0, 1) := by decide +kernel
theorem dX9_inherit_7 : decode cX9_inherit 7 = .ok (.iload_n 1, 1) := by decide +kernel
theorem dX9_inherit_8 : decode cX9_inherit 8 = .ok (.iload_n 2, 1) := by decide +kernel
theorem dX9_inherit_9 : decode cX9_inherit 9 = .ok (.invokevirtual 396, 3) := by decide +kernel
theorem dX9_inherit_12 : decode cX9_inherit 12 = .ok (.istore 4, 2) := by decide +kernel
theorem dX9_inherit_14 : decode cX9_inherit 14 = .ok (.aload_n 0, 1) := by decide +kernel
theorem dX9_inherit_15 : decode cX9_inherit 15 = .ok (.getfield 35, 3) := by decide +kernel
theorem dX9_inherit_18 : decode cX9_inherit 18 = .ok (.bipush 49, 2) := by decide +kernel
theorem dX9_inherit_20 : decode cX9_inherit 20 = .ok (.iload_n 1, 1) := by decide +kernel
theorem dX9_inherit_21 : decode cX9_inherit 21 = .ok (.iadd, 1) := by decide +kernel
theorem dX9_inherit_22 : decode cX9_inherit 22 = .ok (.iconst (-1), 1) := by decide +kernel
theorem dX9_inherit_23 : decode cX9_inherit 23 = .ok (.iastore, 1) := by decide +kernel
theorem dX9_inherit_24 : decode cX9_inherit 24 = .ok (.aload_n 0, 1) := by decide +kernel
theorem dX9_inherit_25 : decode cX9_inherit 25 = .ok (.getfield 35, 3) := by decide +kernel
theorem dX9_inherit_28 : decode cX9_inherit 28 = .ok (.bipush 61, 2) := by decide +kernel
theorem dX9_inherit_30 : decode cX9_inherit 30 = .ok (.iload_n 1, 1) := by decide +kernel
theorem dX9_inherit_31 : decode cX9_inherit 31 = .ok (.iadd, 1) := by decide +kernel
theorem dX9_inherit_32 : decode cX9_inherit 32 = .ok (.iaload, 1) := by decide +kernel
theorem dX9_inherit_33 : decode cX9_inherit 33 = .ok (.iconst 1, 1) := by decide +kernel
theorem dX9_inherit_34 : decode cX9_inherit 34 = .ok (.if_icmp .eq 31, 3) := by decide +kernel
theorem dX9_inherit_37 : decode cX9_inherit 37 = .ok (.aload_n 0, 1) := by decide +kernel
theorem dX9_inherit_38 : decode cX9_inherit 38 = .ok (.iload_n 1, 1) := by decide +kernel
theorem dX9_inherit_39 : decode cX9_inherit 39 = .ok (.invokevirtual 327, 3) := by decide +kernel
theorem dX9_inherit_42 : decode cX9_inherit 42 = .ok (.iload_n 3, 1) := by decide +kernel
theorem dX9_inherit_43 : decode cX9_inherit 43 = .ok (.invokestatic 377, 3) := by decide +kernel
theorem dX9_inherit_46 : decode cX9_inherit 46 = .ok (.if_icmp .lt 19, 3) := by decide +kernel
theorem dX9_inherit_49 : decode cX9_inherit 49 = .ok (.aload_n 0, 1) := by decide +kernel
theorem dX9_inherit_50 : decode cX9_inherit 50 = .ok (.invokevirtual 354, 3) := by decide +kernel
theorem dX9_inherit_53 : decode cX9_inherit 53 = .ok (.iload_n 3, 1) := by decide +kernel
theorem dX9_inherit_54 : decode cX9_inherit 54 = .ok (.invokestatic 377, 3) := by decide +kernel
theorem dX9_inherit_57 : decode cX9_inherit 57 = .ok (.iadd, 1) := by decide +kernel
theorem dX9_inherit_58 : decode cX9_inherit 58 = .ok (.iconst 1, 1) := by decide +kernel
theorem dX9_inherit_59 : decode cX9_inherit 59 = .ok (.isub, 1) := by decide +kernel
theorem dX9_inherit_60 : decode cX9_inherit 60 = .ok (.bipush 12, 2) := by decide +kernel
theorem dX9_inherit_62 : decode cX9_inherit 62 = .ok (.if_icmp .le 7, 3) := by decide +kernel
theorem dX9_inherit_65 : decode cX9_inherit 65 = .ok (.iconst 1, 1) := by decide +kernel
theorem dX9_inherit_66 : decode cX9_inherit 66 = .ok (.goto 4, 3) := by decide +kernel
theorem dX9_inherit_69 : decode cX9_inherit 69 = .ok (.iconst 0, 1) := by decide +kernel
theorem dX9_inherit_70 : decode cX9_inherit 70 = .ok (.istore 5, 2) := by decide +kernel
theorem dX9_inherit_72 : decode cX9_inherit 72 = .ok (.iload_n 3, 1) := by decide +kernel
theorem dX9_inherit_73 : decode cX9_inherit 73 = .ok (.ifCond .eq 9, 3) := by decide +kernel
theorem dX9_inherit_76 : decode cX9_inherit 76 = .ok (.iload 4, 2) := by decide +kernel
theorem dX9_inherit_78 : decode cX9_inherit 78 = .ok (.iconst 4, 1) := by decide +kernel
theorem dX9_inherit_79 : decode cX9_inherit 79 = .ok (.if_icmp .ne 16, 3) := by decide +kernel
theorem dX9_inherit_82 : decode cX9_inherit 82 = .ok (.aload_n 0, 1) := by decide +kernel
theorem dX9_inherit_83 : decode cX9_inherit 83 = .ok (.getfield 35, 3) := by decide +kernel
theorem dX9_inherit_86 : decode cX9_inherit 86 = .ok (.bipush 37, 2) := by decide +kernel
theorem dX9_inherit_88 : decode cX9_inherit 88 = .ok (.iload_n 1, 1) := by decide +kernel
theorem dX9_inherit_89 : decode cX9_inherit 89 = .ok (.iadd, 1) := by decide +kernel
theorem dX9_inherit_90 : decode cX9_inherit 90 = .ok (.iconst (-1), 1) := by decide +kernel
theorem dX9_inherit_91 : decode cX9_inherit 91 = .ok (.iastore, 1) := by decide +kernel
theorem dX9_inherit_92 : decode cX9_inherit 92 = .ok (.goto 83, 3) := by decide +kernel
theorem dX9_inherit_95 : decode cX9_inherit 95 = .ok (.iload 4, 2) := by decide +kernel
theorem dX9_inherit_97 : decode cX9_inherit 97 = .ok (.iconst 1, 1) := by decide +kernel
theorem dX9_inherit_98 : decode cX9_inherit 98 = .ok (.if_icmp .ne 20, 3) := by decide +kernel
theorem dX9_inherit_101 : decode cX9_inherit 101 = .ok (.aload_n 0, 1) := by decide +kernel
theorem dX9_inherit_102 : decode cX9_inherit 102 = .ok (.getfield 35, 3) := by decide +kernel
theorem dX9_inherit_105 : decode cX9_inherit 105 = .ok (.bipush 37, 2) := by decide +kernel
theorem dX9_inherit_107 : decode cX9_inherit 107 = .ok (.iload_n 1, 1) := by decide +kernel
theorem dX9_inherit_108 : decode cX9_inherit 108 = .ok (.iadd, 1) := by decide +kernel
theorem dX9_inherit_109 : decode cX9_inherit 109 = .ok (.aload_n 0, 1) := by decide +kernel
theorem dX9_inherit_110 : decode cX9_inherit 110 = .ok (.iload_n 3, 1) := by decide +kernel
theorem dX9_inherit_111 : decode cX9_inherit 111 = .ok (.invokevirtual 399, 3) := by decide +kernel
theorem dX9_inherit_114 : decode cX9_inherit 114 = .ok (.iastore, 1) := by decide +kernel
theorem dX9_inherit_115 : decode cX9_inherit 115 = .ok (.goto 60, 3) := by decide +kernel
theorem dX9_inherit_118 : decode cX9_inherit 118 = .ok (.iload 4, 2) := by decide +kernel
theorem dX9_inherit_120 : decode cX9_inherit 120 = .ok (.iconst 2, 1) := by decide +kernel
theorem dX9_inherit_121 : decode cX9_inherit 121 = .ok (.if_icmp .ne 20, 3) := by decide +kernel
theorem dX9_inherit_124 : decode cX9_inherit 124 = .ok (.aload_n 0, 1) := by decide +kernel
theorem dX9_inherit_125 : decode cX9_inherit 125 = .ok (.getfield 35, 3) := by decide +kernel
theorem dX9_inherit_128 : decode cX9_inherit 128 = .ok (.bipush 37, 2) := by decide +kernel
theorem dX9_inherit_130 : decode cX9_inherit 130 = .ok (.iload_n 1, 1) := by decide +kernel
theorem dX9_inherit_131 : decode cX9_inherit 131 = .ok (.iadd, 1) := by decide +kernel
theorem dX9_inherit_132 : decode cX9_inherit 132 = .ok (.aload_n 0, 1) := by decide +kernel
theorem dX9_inherit_133 : decode cX9_inherit 133 = .ok (.iload_n 3, 1) := by decide +kernel
theorem dX9_inherit_134 : decode cX9_inherit 134 = .ok (.invokevirtual 402, 3) := by decide +kernel
theorem dX9_inherit_137 : decode cX9_inherit 137 = .ok (.iastore, 1) := by decide +kernel
theorem dX9_inherit_138 : decode cX9_inherit 138 = .ok (.goto 37, 3) := by decide +kernel
theorem dX9_inherit_141 : decode cX9_inherit 141 = .ok (.iload 4, 2) := by decide +kernel
theorem dX9_inherit_143 : decode cX9_inherit 143 = .ok (.iconst 3, 1) := by decide +kernel
theorem dX9_inherit_144 : decode cX9_inherit 144 = .ok (.if_icmp .ne 17, 3) := by decide +kernel
theorem dX9_inherit_147 : decode cX9_inherit 147 = .ok (.iload 5, 2) := by decide +kernel
theorem dX9_inherit_149 : decode cX9_inherit 149 = .ok (.ifCond .ne 12, 3) := by decide +kernel
theorem dX9_inherit_152 : decode cX9_inherit 152 = .ok (.aload_n 0, 1) := by decide +kernel
theorem dX9_inherit_153 : decode cX9_inherit 153 = .ok (.iload_n 1, 1) := by decide +kernel
theorem dX9_inherit_154 : decode cX9_inherit 154 = .ok (.iload_n 3, 1) := by decide +kernel
theorem dX9_inherit_155 : decode cX9_inherit 155 = .ok (.invokevirtual 405, 3) := by decide +kernel
theorem dX9_inherit_158 : decode cX9_inherit 158 = .ok (.goto 17, 3) := by decide +kernel
theorem dX9_inherit_161 : decode cX9_inherit 161 = .ok (.aload_n 0, 1) := by decide +kernel
theorem dX9_inherit_162 : decode cX9_inherit 162 = .ok (.getfield 35, 3) := by decide +kernel
theorem dX9_inherit_165 : decode cX9_inherit 165 = .ok (.bipush 37, 2) := by decide +kernel
theorem dX9_inherit_167 : decode cX9_inherit 167 = .ok (.iload_n 1, 1) := by decide +kernel
theorem dX9_inherit_168 : decode cX9_inherit 168 = .ok (.iadd, 1) := by decide +kernel
theorem dX9_inherit_169 : decode cX9_inherit 169 = .ok (.aload_n 0, 1) := by decide +kernel
theorem dX9_inherit_170 : decode cX9_inherit 170 = .ok (.iload_n 3, 1) := by decide +kernel
theorem dX9_inherit_171 : decode cX9_inherit 171 = .ok (.invokevirtual 408, 3) := by decide +kernel
theorem dX9_inherit_174 : decode cX9_inherit 174 = .ok (.iastore, 1) := by decide +kernel
theorem dX9_inherit_175 : decode cX9_inherit 175 = .ok (.return_, 1) := by decide +kernel
def fX9_inherit_161 (l0 : Nat) (l1 : Int32) (l3 : Int32) : mM Unit := bGR 9 l0 24 (fun x1 => bCallV 9 l0 (fX9_leastOf l0 l3) (fun x2 => bSI x1 ((37 : Int32) + l1) x2 (bRet ())))
set_option maxRecDepth 20000 in
theorem rX9_inherit_161 (v : mE) (d : Nat) (l0 : Nat) (l1 : Int32) (l3 : Int32) : Rz v RX9 cX9_inherit 6 none false emU (d + 6) 161 [(0, vR l0), (1, vI l1), (3, vI l3)] [] (fX9_inherit_161 l0 l1 l3) := by
  unfold fX9_inherit_161
  refine rz_aload_n 162 0 dX9_inherit_161 rfl rfl ?_
  refine rz_gR 165 dX9_inherit_162 rfl rfl fl_X9_35 (fun x1 => ?_)
  refine rz_bipush 167 dX9_inherit_165 rfl cb_37 ?_
  refine rz_iload_n 168 1 dX9_inherit_167 rfl rfl ?_
  refine rz_iadd 169 dX9_inherit_168 rfl ?_
  refine rz_aload_n 170 0 dX9_inherit_169 rfl rfl ?_
  refine rz_iload_n 171 2 dX9_inherit_170 rfl rfl ?_
  refine rz_callV 174 dX9_inherit_171 rfl (tX9_leastOf v (d + 5) l0 l3) rfl rfl rfl rfl ml_X9_408 im_X9_leastOf se_X9_X9_leastOf in_X9 co_X9_leastOf rfl rfl (fun x2 => ?_)
  refine rz_iast 175 dX9_inherit_174 rfl ?_
  exact rz_return rfl rfl dX9_inherit_175
def fX9_inherit_82 (l0 : Nat) (l1 : Int32) : mM Unit := bGR 9 l0 24 (fun x1 => bSI x1 ((37 : Int32) + l1) (-1 : Int32) (bRet ()))
set_option maxRecDepth 20000 in
theorem rX9_inherit_82 (v : mE) (d : Nat) (l0 : Nat) (l1 : Int32) : Rz v RX9 cX9_inherit 6 none false emU (d + 6) 82 [(0, vR l0), (1, vI l1)] [] (fX9_inherit_82 l0 l1) := by
  unfold fX9_inherit_82
  refine rz_aload_n 83 0 dX9_inherit_82 rfl rfl ?_
  refine rz_gR 86 dX9_inherit_83 rfl rfl fl_X9_35 (fun x1 => ?_)
  refine rz_bipush 88 dX9_inherit_86 rfl cb_37 ?_
  refine rz_iload_n 89 1 dX9_inherit_88 rfl rfl ?_
  refine rz_iadd 90 dX9_inherit_89 rfl ?_
  refine rz_iconst 91 dX9_inherit_90 rfl ci_m1 ?_
  refine rz_iast 92 dX9_inherit_91 rfl ?_
  refine rz_goto 175 dX9_inherit_92 rfl ?_
  exact rz_return rfl rfl dX9_inherit_175
def fX9_inherit_70 (l0 : Nat) (l1 : Int32) (l3 : Int32) (l4 : Int32) (s0 : Int32) : mM Unit := bIf (l3 = 0) (fX9_inherit_82 l0 l1) (bIf (l4 = (4 : Int32)) (fX9_inherit_82 l0 l1) (bIf (l4 = (1 : Int32)) (bGR 9 l0 24 (fun x3 => bCallV 9 l0 (fX9_greatestOf l0 l3) (fun x4 => bSI x3 ((37 : Int32) + l1) x4 (bRet ())))) (bIf (l4 = (2 : Int32)) (bGR 9 l0 24 (fun x1 => bCallV 9 l0 (fX9_poorestOf l0 l3) (fun x2 => bSI x1 ((37 : Int32) + l1) x2 (bRet ())))) (bIf (l4 = (3 : Int32)) (bIf (s0 = 0) (bCallV 9 l0 (fX9_share2 l0 l1 l3) (fun _ => bRet ())) (fX9_inherit_161 l0 l1 l3)) (fX9_inherit_161 l0 l1 l3)))))
set_option maxRecDepth 20000 in
theorem rX9_inherit_70 (v : mE) (d : Nat) (l0 : Nat) (l1 : Int32) (l3 : Int32) (l4 : Int32) (s0 : Int32) : Rz v RX9 cX9_inherit 6 none false emU (d + 6) 70 [(0, vR l0), (1, vI l1), (3, vI l3), (4, vI l4)] [vI s0] (fX9_inherit_70 l0 l1 l3 l4 s0) := by
  unfold fX9_inherit_70
  refine rz_istore (lv' := [(5, vI s0), (0, vR l0), (1, vI l1), (3, vI l3), (4, vI l4)]) 72 dX9_inherit_70 rfl rfl rfl ?_
  refine rz_iload_n 73 3 dX9_inherit_72 rfl rfl ?_
  refine rz_if_eq 82 76 dX9_inherit_73 rfl rfl ?_ ?_
  · exact rz_sub [1, 2] rfl (rX9_inherit_82 v d l0 l1)
  · refine rz_iload 78 4 dX9_inherit_76 rfl rfl ?_
    refine rz_iconst 79 dX9_inherit_78 rfl ci_4 ?_
    refine rz_icmp_ne 95 82 dX9_inherit_79 rfl rfl ?_ ?_
    · refine rz_iload 97 4 dX9_inherit_95 rfl rfl ?_
      refine rz_iconst 98 dX9_inherit_97 rfl ci_1 ?_
      refine rz_icmp_ne 118 101 dX9_inherit_98 rfl rfl ?_ ?_
      · refine rz_iload 120 4 dX9_inherit_118 rfl rfl ?_
        refine rz_iconst 121 dX9_inherit_120 rfl ci_2 ?_
        refine rz_icmp_ne 141 124 dX9_inherit_121 rfl rfl ?_ ?_
        · refine rz_iload 143 4 dX9_inherit_141 rfl rfl ?_
          refine rz_iconst 144 dX9_inherit_143 rfl ci_3 ?_
          refine rz_icmp_ne 161 147 dX9_inherit_144 rfl rfl ?_ ?_
          · exact rz_sub [1, 2, 3] rfl (rX9_inherit_161 v d l0 l1 l3)
          · refine rz_iload 149 0 dX9_inherit_147 rfl rfl ?_
            refine rz_if_ne 161 152 dX9_inherit_149 rfl rfl ?_ ?_
            · exact rz_sub [1, 2, 3] rfl (rX9_inherit_161 v d l0 l1 l3)
            · refine rz_aload_n 153 1 dX9_inherit_152 rfl rfl ?_
              refine rz_iload_n 154 2 dX9_inherit_153 rfl rfl ?_
              refine rz_iload_n 155 3 dX9_inherit_154 rfl rfl ?_
              refine rz_callV 158 dX9_inherit_155 rfl (tX9_share2 v (d + 3) l0 l1 l3) rfl rfl rfl rfl ml_X9_405 im_X9_share2 se_X9_X9_share2 in_X9 co_X9_share2 rfl rfl (fun _ => ?_)
              refine rz_goto 175 dX9_inherit_158 rfl ?_
              exact rz_return rfl rfl dX9_inherit_175
        · refine rz_aload_n 125 1 dX9_inherit_124 rfl rfl ?_
          refine rz_gR 128 dX9_inherit_125 rfl rfl fl_X9_35 (fun x1 => ?_)
          refine rz_bipush 130 dX9_inherit_128 rfl cb_37 ?_
          refine rz_iload_n 131 2 dX9_inherit_130 rfl rfl ?_
          refine rz_iadd 132 dX9_inherit_131 rfl ?_
          refine rz_aload_n 133 1 dX9_inherit_132 rfl rfl ?_
          refine rz_iload_n 134 3 dX9_inherit_133 rfl rfl ?_
          refine rz_callV 137 dX9_inherit_134 rfl (tX9_poorestOf v (d + 1) l0 l3) rfl rfl rfl rfl ml_X9_402 im_X9_poorestOf se_X9_X9_poorestOf in_X9 co_X9_poorestOf rfl rfl (fun x2 => ?_)
          refine rz_iast 138 dX9_inherit_137 rfl ?_
          refine rz_goto 175 dX9_inherit_138 rfl ?_
          exact rz_return rfl rfl dX9_inherit_175
      · refine rz_aload_n 102 1 dX9_inherit_101 rfl rfl ?_
        refine rz_gR 105 dX9_inherit_102 rfl rfl fl_X9_35 (fun x3 => ?_)
        refine rz_bipush 107 dX9_inherit_105 rfl cb_37 ?_
        refine rz_iload_n 108 2 dX9_inherit_107 rfl rfl ?_
        refine rz_iadd 109 dX9_inherit_108 rfl ?_
        refine rz_aload_n 110 1 dX9_inherit_109 rfl rfl ?_
        refine rz_iload_n 111 3 dX9_inherit_110 rfl rfl ?_
        refine rz_callV 114 dX9_inherit_111 rfl (tX9_greatestOf v (d + 5) l0 l3) rfl rfl rfl rfl ml_X9_399 im_X9_greatestOf se_X9_X9_greatestOf in_X9 co_X9_greatestOf rfl rfl (fun x4 => ?_)
        refine rz_iast 115 dX9_inherit_114 rfl ?_
        refine rz_goto 175 dX9_inherit_115 rfl ?_
        exact rz_return rfl rfl dX9_inherit_175
    · exact rz_sub [1, 2] rfl (rX9_inherit_82 v d l0 l1)
def fX9_inherit_65 (l0 : Nat) (l1 : Int32) (l3 : Int32) (l4 : Int32) : mM Unit := fX9_inherit_70 l0 l1 l3 l4 (1 : Int32)
set_option maxRecDepth 20000 in
theorem rX9_inherit_65 (v : mE) (d : Nat) (l0 : Nat) (l1 : Int32) (l3 : Int32) (l4 : Int32) : Rz v RX9 cX9_inherit 6 none false emU (d + 6) 65 [(0, vR l0), (1, vI l1), (3, vI l3), (4, vI l4)] [] (fX9_inherit_65 l0 l1 l3 l4) := by
  unfold fX9_inherit_65
  refine rz_iconst 66 dX9_inherit_65 rfl ci_1 ?_
  refine rz_goto 70 dX9_inherit_66 rfl ?_
  exact rz_sub [0, 1, 2, 3] rfl (rX9_inherit_70 v d l0 l1 l3 l4 (1 : Int32))
def fX9_inherit (l0 : Nat) (l1 : Int32) (l2 : Int32) : mM Unit := bCallV 9 l0 (fX9_childrenOf l0 l2) (fun x1 => bCallV 9 l0 (fX9_whomFor l0 l1 l2) (fun x2 => bGR 9 l0 24 (fun x3 => bSI x3 ((49 : Int32) + l1) (-1 : Int32) (bGR 9 l0 24 (fun x4 => bAI 11 x4 ((61 : Int32) + l1) (fun x5 => bIf (x5 = (1 : Int32)) (fX9_inherit_65 l0 l1 x1 x2) (bCallV 9 l0 (fX9_yardsOfRope l0 l1) (fun x6 => bCall (fX9_bits x1) (fun x7 => bIf (x6 < x7) (fX9_inherit_65 l0 l1 x1 x2) (bCallV 9 l0 (fX9_ropes l0) (fun x8 => bCall (fX9_bits x1) (fun x9 => bIf (((x8 + x9) - (1 : Int32)) ≤ (12 : Int32)) (fX9_inherit_70 l0 l1 x1 x2 (0 : Int32)) (fX9_inherit_65 l0 l1 x1 x2)))))))))))))
set_option maxRecDepth 20000 in
theorem rX9_inherit (v : mE) (d : Nat) (l0 : Nat) (l1 : Int32) (l2 : Int32) : Rz v RX9 cX9_inherit 6 none false emU (d + 6) 0 [(0, vR l0), (1, vI l1), (2, vI l2)] [] (fX9_inherit l0 l1 l2) := by
  unfold fX9_inherit
  refine rz_aload_n 1 0 dX9_inherit_0 rfl rfl ?_
  refine rz_iload_n 2 2 dX9_inherit_1 rfl rfl ?_
  refine rz_callV 5 dX9_inherit_2 rfl (tX9_childrenOf v (d + 4) l0 l2) rfl rfl rfl rfl ml_X9_369 im_X9_childrenOf se_X9_X9_childrenOf in_X9 co_X9_childrenOf rfl rfl (fun x1 => ?_)
  refine rz_istore_n (lv' := [(3, vI x1), (0, vR l0), (1, vI l1), (2, vI l2)]) 6 dX9_inherit_5 rfl rfl rfl ?_
  refine rz_aload_n 7 1 dX9_inherit_6 rfl rfl ?_
  refine rz_iload_n 8 2 dX9_inherit_7 rfl rfl ?_
  refine rz_iload_n 9 3 dX9_inherit_8 rfl rfl ?_
  refine rz_callV 12 dX9_inherit_9 rfl (tX9_whomFor v (d + 0) l0 l1 l2) rfl rfl rfl rfl ml_X9_396 im_X9_whomFor se_X9_X9_whomFor in_X9 co_X9_whomFor rfl rfl (fun x2 => ?_)
  refine rz_istore (lv' := [(4, vI x2), (3, vI x1), (0, vR l0), (1, vI l1), (2, vI l2)]) 14 dX9_inherit_12 rfl rfl rfl ?_
  refine rz_aload_n 15 2 dX9_inherit_14 rfl rfl ?_
  refine rz_gR 18 dX9_inherit_15 rfl rfl fl_X9_35 (fun x3 => ?_)
  refine rz_bipush 20 dX9_inherit_18 rfl cb_49 ?_
  refine rz_iload_n 21 3 dX9_inherit_20 rfl rfl ?_
  refine rz_iadd 22 dX9_inherit_21 rfl ?_
  refine rz_iconst 23 dX9_inherit_22 rfl ci_m1 ?_
  refine rz_iast 24 dX9_inherit_23 rfl ?_
  refine rz_aload_n 25 2 dX9_inherit_24 rfl rfl ?_
  refine rz_gR 28 dX9_inherit_25 rfl rfl fl_X9_35 (fun x4 => ?_)
  refine rz_bipush 30 dX9_inherit_28 rfl cb_61 ?_
  refine rz_iload_n 31 3 dX9_inherit_30 rfl rfl ?_
  refine rz_iadd 32 dX9_inherit_31 rfl ?_
  refine rz_iald 33 dX9_inherit_32 rfl (fun x5 => ?_)
  refine rz_iconst 34 dX9_inherit_33 rfl ci_1 ?_
  refine rz_icmp_eq 65 37 dX9_inherit_34 rfl rfl ?_ ?_
  · exact rz_sub [2, 3, 1, 0] rfl (rX9_inherit_65 v d l0 l1 x1 x2)
  · refine rz_aload_n 38 2 dX9_inherit_37 rfl rfl ?_
    refine rz_iload_n 39 3 dX9_inherit_38 rfl rfl ?_
    refine rz_callV 42 dX9_inherit_39 rfl (tX9_yardsOfRope v (d + 5) l0 l1) rfl rfl rfl rfl ml_X9_327 im_X9_yardsOfRope se_X9_X9_yardsOfRope in_X9 co_X9_yardsOfRope rfl rfl (fun x6 => ?_)
    refine rz_iload_n 43 1 dX9_inherit_42 rfl rfl ?_
    refine rz_callS 46 dX9_inherit_43 rfl (tX9_bits v (d + 5) x1) rfl rfl ml_X9_377 sm_X9_bits in_X9 co_X9_bits rfl rfl (fun x7 => ?_)
    refine rz_icmp_lt 65 49 dX9_inherit_46 rfl rfl ?_ ?_
    · exact rz_sub [2, 3, 1, 0] rfl (rX9_inherit_65 v d l0 l1 x1 x2)
    · refine rz_aload_n 50 2 dX9_inherit_49 rfl rfl ?_
      refine rz_callV 53 dX9_inherit_50 rfl (tX9_ropes v (d + 3) l0) rfl rfl rfl rfl ml_X9_354 im_X9_ropes se_X9_X9_ropes in_X9 co_X9_ropes rfl rfl (fun x8 => ?_)
      refine rz_iload_n 54 1 dX9_inherit_53 rfl rfl ?_
      refine rz_callS 57 dX9_inherit_54 rfl (tX9_bits v (d + 5) x1) rfl rfl ml_X9_377 sm_X9_bits in_X9 co_X9_bits rfl rfl (fun x9 => ?_)
      refine rz_iadd 58 dX9_inherit_57 rfl ?_
      refine rz_iconst 59 dX9_inherit_58 rfl ci_1 ?_
      refine rz_isub 60 dX9_inherit_59 rfl ?_
      refine rz_bipush 62 dX9_inherit_60 rfl cb_12 ?_
      refine rz_icmp_le 69 65 dX9_inherit_62 rfl rfl ?_ ?_
      · refine rz_iconst 70 dX9_inherit_69 rfl ci_0 ?_
        exact rz_sub [2, 3, 1, 0] rfl (rX9_inherit_70 v d l0 l1 x1 x2 (0 : Int32))
      · exact rz_sub [2, 3, 1, 0] rfl (rX9_inherit_65 v d l0 l1 x1 x2)
theorem tX9_inherit (v : mE) (d : Nat) (l0 : Nat) (l1 : Int32) (l2 : Int32) : Mt v yX9_inherit cX9_inherit 6 none emU (d + 6) [vR l0, vI l1, vI l2] (fX9_inherit l0 l1 l2) := mt_of rfl rfl (fun h => by cases h) rfl rfl (rX9_inherit v d l0 l1 l2)
theorem dX9_oneYear_0 : decode cX9_oneYear 0 = .ok (.aload_n 0, 1) := by decide +kernel
theorem dX9_oneYear_1 : decode cX9_oneYear 1 = .ok (.getfield 35, 3) := by decide +kernel
theorem dX9_oneYear_4 : decode cX9_oneYear 4 = .ok (.iconst 5, 1) := by decide +kernel
theorem dX9_oneYear_5 : decode cX9_oneYear 5 = .ok (.dup2, 1) := by decide +kernel
theorem dX9_oneYear_6 : decode cX9_oneYear 6 = .ok (.iaload, 1) := by decide +kernel
theorem dX9_oneYear_7 : decode cX9_oneYear 7 = .ok (.iconst 1, 1) := by decide +kernel
theorem dX9_oneYear_8 : decode cX9_oneYear 8 = .ok (.iadd, 1) := by decide +kernel
theorem dX9_oneYear_9 : decode cX9_oneYear 9 = .ok (.iastore, 1) := by decide +kernel
theorem dX9_oneYear_10 : decode cX9_oneYear 10 = .ok (.aload_n 0, 1) := by decide +kernel
theorem dX9_oneYear_11 : decode cX9_oneYear 11 = .ok (.getfield 35, 3) := by decide +kernel
theorem dX9_oneYear_14 : decode cX9_oneYear 14 = .ok (.iconst 0, 1) := by decide +kernel
theorem dX9_oneYear_15 : decode cX9_oneYear 15 = .ok (.sipush 999, 3) := by decide +kernel
theorem dX9_oneYear_18 : decode cX9_oneYear 18 = .ok (.aload_n 0, 1) := by decide +kernel
theorem dX9_oneYear_19 : decode cX9_oneYear 19 = .ok (.getfield 35, 3) := by decide +kernel
theorem dX9_oneYear_22 : decode cX9_oneYear 22 = .ok (.iconst 0, 1) := by decide +kernel
theorem dX9_oneYear_23 : decode cX9_oneYear 23 = .ok (.iaload, 1) := by decide +kernel
theorem dX9_oneYear_24 : decode cX9_oneYear 24 = .ok (.aload_n 0, 1) := by decide +kernel
theorem dX9_oneYear_25 : decode cX9_oneYear 25 = .ok (.getfield 35, 3) := by decide +kernel
theorem dX9_oneYear_28 : decode cX9_oneYear 28 = .ok (.iconst 2, 1) := by decide +kernel
theorem dX9_oneYear_29 : decode cX9_oneYear 29 = .ok (.iaload, 1) := by decide +kernel
theorem dX9_oneYear_30 : decode cX9_oneYear 30 = .ok (.iadd, 1) := by decide +kernel
theorem dX9_oneYear_31 : decode cX9_oneYear 31 = .ok (.invokestatic 390, 3) := by decide +kernel
theorem dX9_oneYear_34 : decode cX9_oneYear 34 = .ok (.iastore, 1) := by decide +kernel
theorem dX9_oneYear_35 : decode cX9_oneYear 35 = .ok (.aload_n 0, 1) := by decide +kernel
theorem dX9_oneYear_36 : decode cX9_oneYear 36 = .ok (.getfield 35, 3) := by decide +kernel
theorem dX9_oneYear_39 : decode cX9_oneYear 39 = .ok (.iconst 3, 1) := by decide +kernel
theorem dX9_oneYear_40 : decode cX9_oneYear 40 = .ok (.iaload, 1) := by decide +kernel
theorem dX9_oneYear_41 : decode cX9_oneYear 41 = .ok (.ifCond .le 74, 3) := by decide +kernel
theorem dX9_oneYear_44 : decode cX9_oneYear 44 = .ok (.aload_n 0, 1) := by decide +kernel
theorem dX9_oneYear_45 : decode cX9_oneYear 45 = .ok (.getfield 35, 3) := by decide +kernel
theorem dX9_oneYear_48 : decode cX9_oneYear 48 = .ok (.bipush 6, 2) := by decide +kernel
theorem dX9_oneYear_50 : decode cX9_oneYear 50 = .ok (.aload_n 0, 1) := by decide +kernel
theorem dX9_oneYear_51 : decode cX9_oneYear 51 = .ok (.getfield 35, 3) := by decide +kernel
theorem dX9_oneYear_54 : decode cX9_oneYear 54 = .ok (.bipush 6, 2) := by decide +kernel
theorem dX9_oneYear_56 : decode cX9_oneYear 56 = .ok (.iaload, 1) := by decide +kernel
theorem dX9_oneYear_57 : decode cX9_oneYear 57 = .ok (.sipush 2801, 3) := by decide +kernel
theorem dX9_oneYear_60 : decode cX9_oneYear 60 = .ok (.imul, 1) := by decide +kernel
theorem dX9_oneYear_61 : decode cX9_oneYear 61 = .ok (.sipush 9011, 3) := by decide +kernel
theorem dX9_oneYear_64 : decode cX9_oneYear 64 = .ok (.iadd, 1) := by decide +kernel
theorem dX9_oneYear_65 : decode cX9_oneYear 65 = .ok (.ldc_w 411, 3) := by decide +kernel
theorem dX9_oneYear_68 : decode cX9_oneYear 68 = .ok (.irem, 1) := by decide +kernel
theorem dX9_oneYear_69 : decode cX9_oneYear 69 = .ok (.iastore, 1) := by decide +kernel
theorem dX9_oneYear_70 : decode cX9_oneYear 70 = .ok (.aload_n 0, 1) := by decide +kernel
theorem dX9_oneYear_71 : decode cX9_oneYear 71 = .ok (.getfield 35, 3) := by decide +kernel
theorem dX9_oneYear_74 : decode cX9_oneYear 74 = .ok (.bipush 6, 2) := by decide +kernel
theorem dX9_oneYear_76 : decode cX9_oneYear 76 = .ok (.iaload, 1) := by decide +kernel
theorem dX9_oneYear_77 : decode cX9_oneYear 77 = .ok (.bipush 8, 2) := by decide +kernel
theorem dX9_oneYear_79 : decode cX9_oneYear 79 = .ok (.idiv, 1) := by decide +kernel
theorem dX9_oneYear_80 : decode cX9_oneYear 80 = .ok (.bipush 16, 2) := by decide +kernel
theorem dX9_oneYear_82 : decode cX9_oneYear 82 = .ok (.irem, 1) := by decide +kernel
theorem dX9_oneYear_83 : decode cX9_oneYear 83 = .ok (.aload_n 0, 1) := by decide +kernel
theorem dX9_oneYear_84 : decode cX9_oneYear 84 = .ok (.getfield 35, 3) := by decide +kernel
theorem dX9_oneYear_87 : decode cX9_oneYear 87 = .ok (.iconst 3, 1) := by decide +kernel
theorem dX9_oneYear_88 : decode cX9_oneYear 88 = .ok (.iaload, 1) := by decide +kernel
theorem dX9_oneYear_89 : decode cX9_oneYear 89 = .ok (.if_icmp .ge 26, 3) := by decide +kernel
theorem dX9_oneYear_92 : decode cX9_oneYear 92 = .ok (.aload_n 0, 1) := by decide +kernel
theorem dX9_oneYear_93 : decode cX9_oneYear 93 = .ok (.getfield 35, 3) := by decide +kernel
theorem dX9_oneYear_96 : decode cX9_oneYear 96 = .ok (.iconst 0, 1) := by decide +kernel
theorem dX9_oneYear_97 : decode cX9_oneYear 97 = .ok (.iconst 0, 1) := by decide +kernel
theorem dX9_oneYear_98 : decode cX9_oneYear 98 = .ok (.aload_n 0, 1) := by decide +kernel
theorem dX9_oneYear_99 : decode cX9_oneYear 99 = .ok (.getfield 35, 3) := by decide +kernel
theorem dX9_oneYear_102 : decode cX9_oneYear 102 = .ok (.iconst 0, 1) := by decide +kernel
theorem dX9_oneYear_103 : decode cX9_oneYear 103 = .ok (.iaload, 1) := by decide +kernel
theorem dX9_oneYear_104 : decode cX9_oneYear 104 = .ok (.aload_n 0, 1) := by decide +kernel
theorem dX9_oneYear_105 : decode cX9_oneYear 105 = .ok (.getfield 35, 3) := by decide +kernel
theorem dX9_oneYear_108 : decode cX9_oneYear 108 = .ok (.iconst 4, 1) := by decide +kernel
theorem dX9_oneYear_109 : decode cX9_oneYear 109 = .ok (.iaload, 1) := by decide +kernel
theorem dX9_oneYear_110 : decode cX9_oneYear 110 = .ok (.isub, 1) := by decide +kernel
theorem dX9_oneYear_111 : decode cX9_oneYear 111 = .ok (.invokestatic 321, 3) := by decide +kernel
theorem dX9_oneYear_114 : decode cX9_oneYear 114 = .ok (.iastore, 1) := by decide +kernel
theorem dX9_oneYear_115 : decode cX9_oneYear 115 = .ok (.iconst 0, 1) := by decide +kernel
theorem dX9_oneYear_116 : decode cX9_oneYear 116 = .ok (.istore_n 1, 1) := by decide +kernel
theorem dX9_oneYear_117 : decode cX9_oneYear 117 = .ok (.iload_n 1, 1) := by decide +kernel
theorem dX9_oneYear_118 : decode cX9_oneYear 118 = .ok (.aload_n 0, 1) := by decide +kernel
theorem dX9_oneYear_119 : decode cX9_oneYear 119 = .ok (.getfield 35, 3) := by decide +kernel
theorem dX9_oneYear_122 : decode cX9_oneYear 122 = .ok (.bipush 7, 2) := by decide +kernel
theorem dX9_oneYear_124 : decode cX9_oneYear 124 = .ok (.iaload, 1) := by decide +kernel
theorem dX9_oneYear_125 : decode cX9_oneYear 125 = .ok (.if_icmp .ge 108, 3) := by decide +kernel
theorem dX9_oneYear_128 : decode cX9_oneYear 128 = .ok (.aload_n 0, 1) := by decide +kernel
theorem dX9_oneYear_129 : decode cX9_oneYear 129 = .ok (.getfield 35, 3) := by decide +kernel
theorem dX9_oneYear_132 : decode cX9_oneYear 132 = .ok (.bipush 17, 2) := by decide +kernel
theorem dX9_oneYear_134 : decode cX9_oneYear 134 = .ok (.iload_n 1, 1) := by decide +kernel
theorem dX9_oneYear_135 : decode cX9_oneYear 135 = .ok (.iadd, 1) := by decide +kernel
theorem dX9_oneYear_136 : decode cX9_oneYear 136 = .ok (.iaload, 1) := by decide +kernel
theorem dX9_oneYear_137 : decode cX9_oneYear 137 = .ok (.aload_n 0, 1) := by decide +kernel
theorem dX9_oneYear_138 : decode cX9_oneYear 138 = .ok (.getfield 35, 3) := by decide +kernel
theorem dX9_oneYear_141 : decode cX9_oneYear 141 = .ok (.iconst 5, 1) := by decide +kernel
theorem dX9_oneYear_142 : decode cX9_oneYear 142 = .ok (.iaload, 1) := by decide +kernel
theorem dX9_oneYear_143 : decode cX9_oneYear 143 = .ok (.if_icmp .eq 6, 3) := by decide +kernel
theorem dX9_oneYear_146 : decode cX9_oneYear 146 = .ok (.goto 81, 3) := by decide +kernel
theorem dX9_oneYear_149 : decode cX9_oneYear 149 = .ok (.iconst 0, 1) := by decide +kernel
theorem dX9_oneYear_150 : decode cX9_oneYear 150 = .ok (.istore_n 2, 1) := by decide +kernel
theorem dX9_oneYear_151 : decode cX9_oneYear 151 = .ok (.iload_n 2, 1) := by decide +kernel
theorem dX9_oneYear_152 : decode cX9_oneYear 152 = .ok (.bipush 12, 2) := by decide +kernel
theorem dX9_oneYear_154 : decode cX9_oneYear 154 = .ok (.if_icmp .ge 32, 3) := by decide +kernel
theorem dX9_oneYear_157 : decode cX9_oneYear 157 = .ok (.aload_n 0, 1) := by decide +kernel
theorem dX9_oneYear_158 : decode cX9_oneYear 158 = .ok (.getfield 35, 3) := by decide +kernel
theorem dX9_oneYear_161 : decode cX9_oneYear 161 = .ok (.bipush 49, 2) := by decide +kernel
theorem dX9_oneYear_163 : decode cX9_oneYear 163 = .ok (.iload_n 2, 1) := by decide +kernel
theorem dX9_oneYear_164 : decode cX9_oneYear 164 = .ok (.iadd, 1) := by decide +kernel
theorem dX9_oneYear_165 : decode cX9_oneYear 165 = .ok (.iaload, 1) := by decide +kernel
theorem dX9_oneYear_166 : decode cX9_oneYear 166 = .ok (.iload_n 1, 1) := by decide +kernel
theorem dX9_oneYear_167 : decode cX9_oneYear 167 = .ok (.if_icmp .ne 13, 3) := by decide +kernel
theorem dX9_oneYear_170 : decode cX9_oneYear 170 = .ok (.aload_n 0, 1) := by decide +kernel
theorem dX9_oneYear_171 : decode cX9_oneYear 171 = .ok (.getfield 35, 3) := by decide +kernel
theorem dX9_oneYear_174 : decode cX9_oneYear 174 = .ok (.bipush 49, 2) := by decide +kernel
theorem dX9_oneYear_176 : decode cX9_oneYear 176 = .ok (.iload_n 2, 1) := by decide +kernel
theorem dX9_oneYear_177 : decode cX9_oneYear 177 = .ok (.iadd, 1) := by decide +kernel
theorem dX9_oneYear_178 : decode cX9_oneYear 178 = .ok (.iconst (-1), 1) := by decide +kernel
theorem dX9_oneYear_179 : decode cX9_oneYear 179 = .ok (.iastore, 1) := by decide +kernel
theorem dX9_oneYear_180 : decode cX9_oneYear 180 = .ok (.iinc 2 1, 3) := by decide +kernel
theorem dX9_oneYear_183 : decode cX9_oneYear 183 = .ok (.goto (-32), 3) := by decide +kernel
theorem dX9_oneYear_186 : decode cX9_oneYear 186 = .ok (.iconst 0, 1) := by decide +kernel
theorem dX9_oneYear_187 : decode cX9_oneYear 187 = .ok (.istore_n 2, 1) := by decide +kernel
theorem dX9_oneYear_188 : decode cX9_oneYear 188 = .ok (.iload_n 2, 1) := by decide +kernel
theorem dX9_oneYear_189 : decode cX9_oneYear 189 = .ok (.bipush 12, 2) := by decide +kernel
theorem dX9_oneYear_191 : decode cX9_oneYear 191 = .ok (.if_icmp .ge 36, 3) := by decide +kernel
theorem dX9_oneYear_194 : decode cX9_oneYear 194 = .ok (.aload_n 0, 1) := by decide +kernel
theorem dX9_oneYear_195 : decode cX9_oneYear 195 = .ok (.iload_n 2, 1) := by decide +kernel
theorem dX9_oneYear_196 : decode cX9_oneYear 196 = .ok (.invokevirtual 318, 3) := by decide +kernel
theorem dX9_oneYear_199 : decode cX9_oneYear 199 = .ok (.ifCond .eq 22, 3) := by decide +kernel
theorem dX9_oneYear_202 : decode cX9_oneYear 202 = .ok (.aload_n 0, 1) := by decide +kernel
theorem dX9_oneYear_203 : decode cX9_oneYear 203 = .ok (.getfield 35, 3) := by decide +kernel
theorem dX9_oneYear_206 : decode cX9_oneYear 206 = .ok (.bipush 37, 2) := by decide +kernel
theorem dX9_oneYear_208 : decode cX9_oneYear 208 = .ok (.iload_n 2, 1) := by decide +kernel
theorem dX9_oneYear_209 : decode cX9_oneYear 209 = .ok (.iadd, 1) := by decide +kernel
theorem dX9_oneYear_210 : decode cX9_oneYear 210 = .ok (.iaload, 1) := by decide +kernel
theorem dX9_oneYear_211 : decode cX9_oneYear 211 = .ok (.iload_n 1, 1) := by decide +kernel
theorem dX9_oneYear_212 : decode cX9_oneYear 212 = .ok (.if_icmp .ne 9, 3) := by decide +kernel
theorem dX9_oneYear_215 : decode cX9_oneYear 215 = .ok (.aload_n 0, 1) := by decide +kernel
theorem dX9_oneYear_216 : decode cX9_oneYear 216 = .ok (.iload_n 2, 1) := by decide +kernel
theorem dX9_oneYear_217 : decode cX9_oneYear 217 = .ok (.iload_n 1, 1) := by decide +kernel
theorem dX9_oneYear_218 : decode cX9_oneYear 218 = .ok (.invokevirtual 412, 3) := by decide +kernel
theorem dX9_oneYear_221 : decode cX9_oneYear 221 = .ok (.iinc 2 1, 3) := by decide +kernel
theorem dX9_oneYear_224 : decode cX9_oneYear 224 = .ok (.goto (-36), 3) := by decide +kernel
theorem dX9_oneYear_227 : decode cX9_oneYear 227 = .ok (.iinc 1 1, 3) := by decide +kernel
theorem dX9_oneYear_230 : decode cX9_oneYear 230 = .ok (.goto (-113), 3) := by decide +kernel
theorem dX9_oneYear_233 : decode cX9_oneYear 233 = .ok (.return_, 1) := by decide +kernel
def fX9_oneYear_227 (r117 : Nat → Int32 → mM Unit) (l0 : Nat) (l1 : Int32) : mM Unit := r117 l0 (l1 + 1)
set_option maxRecDepth 20000 in
theorem rX9_oneYear_227 (v : mE) (d : Nat) (r117 : Nat → Int32 → mM Unit) (h117 : ∀ (y0 : Nat) (y1 : Int32), Rz v RX9 cX9_oneYear 3 none false emU (d + 7) 117 [(0, vR y0), (1, vI y1)] [] (r117 y0 y1)) (l0 : Nat) (l1 : Int32) : Rz v RX9 cX9_oneYear 3 none false emU (d + 7) 227 [(0, vR l0), (1, vI l1)] [] (fX9_oneYear_227 r117 l0 l1) := by
  unfold fX9_oneYear_227
  refine rz_iinc (lv' := [(1, vI (l1 + 1)), (0, vR l0)]) 230 1 dX9_oneYear_227 rfl rfl (cn_1 _) rfl rfl ?_
  refine rz_goto 117 dX9_oneYear_230 rfl ?_
  exact rz_sub [1, 0] rfl (h117 l0 (l1 + 1))
def fX9_oneYear_188 (r117 : Nat → Int32 → mM Unit) : Nat → Nat → Int32 → Int32 → mM Unit
  | 0 => fun _ _ _ => fun _ => none
  | n + 1 => fun l0 l1 l2 => let r188 := fX9_oneYear_188 r117 n; bIf ((12 : Int32) ≤ l2) (fX9_oneYear_227 r117 l0 l1) (bCallV 9 l0 (fX9_isRope l0 l2) (fun x1 => bIf (x1 = 0) (r188 l0 l1 (l2 + 1)) (bGR 9 l0 24 (fun x2 => bAI 11 x2 ((37 : Int32) + l2) (fun x3 => bIf (x3 = l1) (bCallV 9 l0 (fX9_inherit l0 l2 l1) (fun _ => r188 l0 l1 (l2 + 1))) (r188 l0 l1 (l2 + 1)))))))
theorem qX9_oneYear_188 (r117 : Nat → Int32 → mM Unit) (n : Nat) (l0 : Nat) (l1 : Int32) (l2 : Int32) : fX9_oneYear_188 r117 (n + 1) l0 l1 l2 = bIf ((12 : Int32) ≤ l2) (fX9_oneYear_227 r117 l0 l1) (bCallV 9 l0 (fX9_isRope l0 l2) (fun x1 => bIf (x1 = 0) ((fX9_oneYear_188 r117 n) l0 l1 (l2 + 1)) (bGR 9 l0 24 (fun x2 => bAI 11 x2 ((37 : Int32) + l2) (fun x3 => bIf (x3 = l1) (bCallV 9 l0 (fX9_inherit l0 l2 l1) (fun _ => (fX9_oneYear_188 r117 n) l0 l1 (l2 + 1))) ((fX9_oneYear_188 r117 n) l0 l1 (l2 + 1))))))) := rfl
set_option maxRecDepth 20000 in
theorem rX9_oneYear_188 (v : mE) (d : Nat) (r117 : Nat → Int32 → mM Unit) (h117 : ∀ (y0 : Nat) (y1 : Int32), Rz v RX9 cX9_oneYear 3 none false emU (d + 7) 117 [(0, vR y0), (1, vI y1)] [] (r117 y0 y1)) : ∀ (n : Nat) (l0 : Nat) (l1 : Int32) (l2 : Int32), Rz v RX9 cX9_oneYear 3 none false emU (d + 7) 188 [(0, vR l0), (1, vI l1), (2, vI l2)] [] (fX9_oneYear_188 r117 n l0 l1 l2)
  | 0, _, _, _ => fun _ _ _ hm => by cases hm
  | n + 1, l0, l1, l2 => by
    have h188 := rX9_oneYear_188 v d r117 h117 n
    unfold fX9_oneYear_188
    generalize fX9_oneYear_188 r117 n = r188 at h188 ⊢
    refine rz_iload_n 189 2 dX9_oneYear_188 rfl rfl ?_
    refine rz_bipush 191 dX9_oneYear_189 rfl cb_12 ?_
    refine rz_icmp_ge 227 194 dX9_oneYear_191 rfl rfl ?_ ?_
    · exact rz_sub [0, 1] rfl (rX9_oneYear_227 v d r117 h117 l0 l1)
    · refine rz_aload_n 195 0 dX9_oneYear_194 rfl rfl ?_
      refine rz_iload_n 196 2 dX9_oneYear_195 rfl rfl ?_
      refine rz_callV 199 dX9_oneYear_196 rfl (tX9_isRope v (d + 5) l0 l2) rfl rfl rfl rfl ml_X9_318 im_X9_isRope se_X9_X9_isRope in_X9 co_X9_isRope rfl rfl (fun x1 => ?_)
      refine rz_if_eq 221 202 dX9_oneYear_199 rfl rfl ?_ ?_
      · refine rz_iinc (lv' := [(2, vI (l2 + 1)), (0, vR l0), (1, vI l1)]) 224 2 dX9_oneYear_221 rfl rfl (cn_1 _) rfl rfl ?_
        refine rz_goto 188 dX9_oneYear_224 rfl ?_
        exact rz_sub [1, 2, 0] rfl (h188 l0 l1 (l2 + 1))
      · refine rz_aload_n 203 0 dX9_oneYear_202 rfl rfl ?_
        refine rz_gR 206 dX9_oneYear_203 rfl rfl fl_X9_35 (fun x2 => ?_)
        refine rz_bipush 208 dX9_oneYear_206 rfl cb_37 ?_
        refine rz_iload_n 209 2 dX9_oneYear_208 rfl rfl ?_
        refine rz_iadd 210 dX9_oneYear_209 rfl ?_
        refine rz_iald 211 dX9_oneYear_210 rfl (fun x3 => ?_)
        refine rz_iload_n 212 1 dX9_oneYear_211 rfl rfl ?_
        refine rz_icmp_ne 221 215 dX9_oneYear_212 rfl rfl ?_ ?_
        · refine rz_iinc (lv' := [(2, vI (l2 + 1)), (0, vR l0), (1, vI l1)]) 224 2 dX9_oneYear_221 rfl rfl (cn_1 _) rfl rfl ?_
          refine rz_goto 188 dX9_oneYear_224 rfl ?_
          exact rz_sub [1, 2, 0] rfl (h188 l0 l1 (l2 + 1))
        · refine rz_aload_n 216 0 dX9_oneYear_215 rfl rfl ?_
          refine rz_iload_n 217 2 dX9_oneYear_216 rfl rfl ?_
          refine rz_iload_n 218 1 dX9_oneYear_217 rfl rfl ?_
          refine rz_callV 221 dX9_oneYear_218 rfl (tX9_inherit v (d + 0) l0 l2 l1) rfl rfl rfl rfl ml_X9_412 im_X9_inherit se_X9_X9_inherit in_X9 co_X9_inherit rfl rfl (fun _ => ?_)
          refine rz_iinc (lv' := [(2, vI (l2 + 1)), (0, vR l0), (1, vI l1)]) 224 2 dX9_oneYear_221 rfl rfl (cn_1 _) rfl rfl ?_
          refine rz_goto 188 dX9_oneYear_224 rfl ?_
          exact rz_sub [1, 2, 0] rfl (h188 l0 l1 (l2 + 1))
def fX9_oneYear_186 (r117 : Nat → Int32 → mM Unit) (l0 : Nat) (l1 : Int32) : mM Unit := fX9_oneYear_188 r117 fu l0 l1 (0 : Int32)
set_option maxRecDepth 20000 in
theorem rX9_oneYear_186 (v : mE) (d : Nat) (r117 : Nat → Int32 → mM Unit) (h117 : ∀ (y0 : Nat) (y1 : Int32), Rz v RX9 cX9_oneYear 3 none false emU (d + 7) 117 [(0, vR y0), (1, vI y1)] [] (r117 y0 y1)) (l0 : Nat) (l1 : Int32) : Rz v RX9 cX9_oneYear 3 none false emU (d + 7) 186 [(0, vR l0), (1, vI l1)] [] (fX9_oneYear_186 r117 l0 l1) := by
  unfold fX9_oneYear_186
  refine rz_iconst 187 dX9_oneYear_186 rfl ci_0 ?_
  refine rz_istore_n (lv' := [(2, vI (0 : Int32)), (0, vR l0), (1, vI l1)]) 188 dX9_oneYear_187 rfl rfl rfl ?_
  exact rz_sub [1, 2, 0] rfl (rX9_oneYear_188 v d r117 h117 fu l0 l1 (0 : Int32))
def fX9_oneYear_151 (r117 : Nat → Int32 → mM Unit) : Nat → Nat → Int32 → Int32 → mM Unit
  | 0 => fun _ _ _ => fun _ => none
  | n + 1 => fun l0 l1 l2 => let r151 := fX9_oneYear_151 r117 n; bIf ((12 : Int32) ≤ l2) (fX9_oneYear_186 r117 l0 l1) (bGR 9 l0 24 (fun x1 => bAI 11 x1 ((49 : Int32) + l2) (fun x2 => bIf (x2 = l1) (bGR 9 l0 24 (fun x3 => bSI x3 ((49 : Int32) + l2) (-1 : Int32) (r151 l0 l1 (l2 + 1)))) (r151 l0 l1 (l2 + 1)))))
theorem qX9_oneYear_151 (r117 : Nat → Int32 → mM Unit) (n : Nat) (l0 : Nat) (l1 : Int32) (l2 : Int32) : fX9_oneYear_151 r117 (n + 1) l0 l1 l2 = bIf ((12 : Int32) ≤ l2) (fX9_oneYear_186 r117 l0 l1) (bGR 9 l0 24 (fun x1 => bAI 11 x1 ((49 : Int32) + l2) (fun x2 => bIf (x2 = l1) (bGR 9 l0 24 (fun x3 => bSI x3 ((49 : Int32) + l2) (-1 : Int32) ((fX9_oneYear_151 r117 n) l0 l1 (l2 + 1)))) ((fX9_oneYear_151 r117 n) l0 l1 (l2 + 1))))) := rfl
set_option maxRecDepth 20000 in
theorem rX9_oneYear_151 (v : mE) (d : Nat) (r117 : Nat → Int32 → mM Unit) (h117 : ∀ (y0 : Nat) (y1 : Int32), Rz v RX9 cX9_oneYear 3 none false emU (d + 7) 117 [(0, vR y0), (1, vI y1)] [] (r117 y0 y1)) : ∀ (n : Nat) (l0 : Nat) (l1 : Int32) (l2 : Int32), Rz v RX9 cX9_oneYear 3 none false emU (d + 7) 151 [(0, vR l0), (1, vI l1), (2, vI l2)] [] (fX9_oneYear_151 r117 n l0 l1 l2)
  | 0, _, _, _ => fun _ _ _ hm => by cases hm
  | n + 1, l0, l1, l2 => by
    have h151 := rX9_oneYear_151 v d r117 h117 n
    unfold fX9_oneYear_151
    generalize fX9_oneYear_151 r117 n = r151 at h151 ⊢
    refine rz_iload_n 152 2 dX9_oneYear_151 rfl rfl ?_
    refine rz_bipush 154 dX9_oneYear_152 rfl cb_12 ?_
    refine rz_icmp_ge 186 157 dX9_oneYear_154 rfl rfl ?_ ?_
    · exact rz_sub [0, 1] rfl (rX9_oneYear_186 v d r117 h117 l0 l1)
    · refine rz_aload_n 158 0 dX9_oneYear_157 rfl rfl ?_
      refine rz_gR 161 dX9_oneYear_158 rfl rfl fl_X9_35 (fun x1 => ?_)
      refine rz_bipush 163 dX9_oneYear_161 rfl cb_49 ?_
      refine rz_iload_n 164 2 dX9_oneYear_163 rfl rfl ?_
      refine rz_iadd 165 dX9_oneYear_164 rfl ?_
      refine rz_iald 166 dX9_oneYear_165 rfl (fun x2 => ?_)
      refine rz_iload_n 167 1 dX9_oneYear_166 rfl rfl ?_
      refine rz_icmp_ne 180 170 dX9_oneYear_167 rfl rfl ?_ ?_
      · refine rz_iinc (lv' := [(2, vI (l2 + 1)), (0, vR l0), (1, vI l1)]) 183 2 dX9_oneYear_180 rfl rfl (cn_1 _) rfl rfl ?_
        refine rz_goto 151 dX9_oneYear_183 rfl ?_
        exact rz_sub [1, 2, 0] rfl (h151 l0 l1 (l2 + 1))
      · refine rz_aload_n 171 0 dX9_oneYear_170 rfl rfl ?_
        refine rz_gR 174 dX9_oneYear_171 rfl rfl fl_X9_35 (fun x3 => ?_)
        refine rz_bipush 176 dX9_oneYear_174 rfl cb_49 ?_
        refine rz_iload_n 177 2 dX9_oneYear_176 rfl rfl ?_
        refine rz_iadd 178 dX9_oneYear_177 rfl ?_
        refine rz_iconst 179 dX9_oneYear_178 rfl ci_m1 ?_
        refine rz_iast 180 dX9_oneYear_179 rfl ?_
        refine rz_iinc (lv' := [(2, vI (l2 + 1)), (0, vR l0), (1, vI l1)]) 183 2 dX9_oneYear_180 rfl rfl (cn_1 _) rfl rfl ?_
        refine rz_goto 151 dX9_oneYear_183 rfl ?_
        exact rz_sub [1, 2, 0] rfl (h151 l0 l1 (l2 + 1))
def fX9_oneYear_117 : Nat → Nat → Int32 → mM Unit
  | 0 => fun _ _ => fun _ => none
  | n + 1 => fun l0 l1 => let r117 := fX9_oneYear_117 n; bGR 9 l0 24 (fun x1 => bAI 11 x1 (7 : Int32) (fun x2 => bIf (x2 ≤ l1) (bRet ()) (bGR 9 l0 24 (fun x3 => bAI 11 x3 ((17 : Int32) + l1) (fun x4 => bGR 9 l0 24 (fun x5 => bAI 11 x5 (5 : Int32) (fun x6 => bIf (x4 = x6) (fX9_oneYear_151 r117 fu l0 l1 (0 : Int32)) (fX9_oneYear_227 r117 l0 l1))))))))
theorem qX9_oneYear_117  (n : Nat) (l0 : Nat) (l1 : Int32) : fX9_oneYear_117 (n + 1) l0 l1 = bGR 9 l0 24 (fun x1 => bAI 11 x1 (7 : Int32) (fun x2 => bIf (x2 ≤ l1) (bRet ()) (bGR 9 l0 24 (fun x3 => bAI 11 x3 ((17 : Int32) + l1) (fun x4 => bGR 9 l0 24 (fun x5 => bAI 11 x5 (5 : Int32) (fun x6 => bIf (x4 = x6) (fX9_oneYear_151 (fX9_oneYear_117 n) fu l0 l1 (0 : Int32)) (fX9_oneYear_227 (fX9_oneYear_117 n) l0 l1)))))))) := rfl
set_option maxRecDepth 20000 in
theorem rX9_oneYear_117 (v : mE) (d : Nat) : ∀ (n : Nat) (l0 : Nat) (l1 : Int32), Rz v RX9 cX9_oneYear 3 none false emU (d + 7) 117 [(0, vR l0), (1, vI l1)] [] (fX9_oneYear_117 n l0 l1)
  | 0, _, _ => fun _ _ _ hm => by cases hm
  | n + 1, l0, l1 => by
    have h117 := rX9_oneYear_117 v d n
    unfold fX9_oneYear_117
    generalize fX9_oneYear_117 n = r117 at h117 ⊢
    refine rz_iload_n 118 1 dX9_oneYear_117 rfl rfl ?_
    refine rz_aload_n 119 0 dX9_oneYear_118 rfl rfl ?_
    refine rz_gR 122 dX9_oneYear_119 rfl rfl fl_X9_35 (fun x1 => ?_)
    refine rz_bipush 124 dX9_oneYear_122 rfl cb_7 ?_
    refine rz_iald 125 dX9_oneYear_124 rfl (fun x2 => ?_)
    refine rz_icmp_ge 233 128 dX9_oneYear_125 rfl rfl ?_ ?_
    · exact rz_return rfl rfl dX9_oneYear_233
    · refine rz_aload_n 129 0 dX9_oneYear_128 rfl rfl ?_
      refine rz_gR 132 dX9_oneYear_129 rfl rfl fl_X9_35 (fun x3 => ?_)
      refine rz_bipush 134 dX9_oneYear_132 rfl cb_17 ?_
      refine rz_iload_n 135 1 dX9_oneYear_134 rfl rfl ?_
      refine rz_iadd 136 dX9_oneYear_135 rfl ?_
      refine rz_iald 137 dX9_oneYear_136 rfl (fun x4 => ?_)
      refine rz_aload_n 138 0 dX9_oneYear_137 rfl rfl ?_
      refine rz_gR 141 dX9_oneYear_138 rfl rfl fl_X9_35 (fun x5 => ?_)
      refine rz_iconst 142 dX9_oneYear_141 rfl ci_5 ?_
      refine rz_iald 143 dX9_oneYear_142 rfl (fun x6 => ?_)
      refine rz_icmp_eq 149 146 dX9_oneYear_143 rfl rfl ?_ ?_
      · refine rz_iconst 150 dX9_oneYear_149 rfl ci_0 ?_
        refine rz_istore_n (lv' := [(2, vI (0 : Int32)), (0, vR l0), (1, vI l1)]) 151 dX9_oneYear_150 rfl rfl rfl ?_
        exact rz_sub [1, 2, 0] rfl (rX9_oneYear_151 v d r117 h117 fu l0 l1 (0 : Int32))
      · refine rz_goto 227 dX9_oneYear_146 rfl ?_
        exact rz_sub [0, 1] rfl (rX9_oneYear_227 v d r117 h117 l0 l1)
def fX9_oneYear_115 (l0 : Nat) : mM Unit := fX9_oneYear_117 fu l0 (0 : Int32)
set_option maxRecDepth 20000 in
theorem rX9_oneYear_115 (v : mE) (d : Nat) (l0 : Nat) : Rz v RX9 cX9_oneYear 3 none false emU (d + 7) 115 [(0, vR l0)] [] (fX9_oneYear_115 l0) := by
  unfold fX9_oneYear_115
  refine rz_iconst 116 dX9_oneYear_115 rfl ci_0 ?_
  refine rz_istore_n (lv' := [(1, vI (0 : Int32)), (0, vR l0)]) 117 dX9_oneYear_116 rfl rfl rfl ?_
  exact rz_sub [1, 0] rfl (rX9_oneYear_117 v d fu l0 (0 : Int32))
def fX9_oneYear (l0 : Nat) : mM Unit := bGR 9 l0 24 (fun x1 => bAI 11 x1 (5 : Int32) (fun x2 => bSI x1 (5 : Int32) (x2 + (1 : Int32)) (bGR 9 l0 24 (fun x3 => bGR 9 l0 24 (fun x4 => bAI 11 x4 (0 : Int32) (fun x5 => bGR 9 l0 24 (fun x6 => bAI 11 x6 (2 : Int32) (fun x7 => bSI x3 (0 : Int32) (jMin (999 : Int32) (x5 + x7)) (bGR 9 l0 24 (fun x8 => bAI 11 x8 (3 : Int32) (fun x9 => bIf (x9 ≤ 0) (fX9_oneYear_115 l0) (bGR 9 l0 24 (fun x10 => bGR 9 l0 24 (fun x11 => bAI 11 x11 (6 : Int32) (fun x12 => bNz (65536 : Int32) (bSI x10 (6 : Int32) (((x12 * (2801 : Int32)) + (9011 : Int32)) - ((x12 * (2801 : Int32)) + (9011 : Int32)) / (65536 : Int32) * (65536 : Int32)) (bGR 9 l0 24 (fun x13 => bAI 11 x13 (6 : Int32) (fun x14 => bNz (8 : Int32) (bNz (16 : Int32) (bGR 9 l0 24 (fun x15 => bAI 11 x15 (3 : Int32) (fun x16 => bIf (x16 ≤ ((x14 / (8 : Int32)) - (x14 / (8 : Int32)) / (16 : Int32) * (16 : Int32))) (fX9_oneYear_115 l0) (bGR 9 l0 24 (fun x17 => bGR 9 l0 24 (fun x18 => bAI 11 x18 (0 : Int32) (fun x19 => bGR 9 l0 24 (fun x20 => bAI 11 x20 (4 : Int32) (fun x21 => bSI x17 (0 : Int32) (jMax (0 : Int32) (x19 - x21)) (fX9_oneYear_115 l0))))))))))))))))))))))))))))))
set_option maxRecDepth 20000 in
theorem rX9_oneYear (v : mE) (d : Nat) (l0 : Nat) : Rz v RX9 cX9_oneYear 3 none false emU (d + 7) 0 [(0, vR l0)] [] (fX9_oneYear l0) := by
  unfold fX9_oneYear
  refine rz_aload_n 1 0 dX9_oneYear_0 rfl rfl ?_
  refine rz_gR 4 dX9_oneYear_1 rfl rfl fl_X9_35 (fun x1 => ?_)
  refine rz_iconst 5 dX9_oneYear_4 rfl ci_5 ?_
  refine rz_dup2 6 dX9_oneYear_5 rfl rfl rfl ?_
  refine rz_iald 7 dX9_oneYear_6 rfl (fun x2 => ?_)
  refine rz_iconst 8 dX9_oneYear_7 rfl ci_1 ?_
  refine rz_iadd 9 dX9_oneYear_8 rfl ?_
  refine rz_iast 10 dX9_oneYear_9 rfl ?_
  refine rz_aload_n 11 0 dX9_oneYear_10 rfl rfl ?_
  refine rz_gR 14 dX9_oneYear_11 rfl rfl fl_X9_35 (fun x3 => ?_)
  refine rz_iconst 15 dX9_oneYear_14 rfl ci_0 ?_
  refine rz_sipush 18 dX9_oneYear_15 rfl cs_999 ?_
  refine rz_aload_n 19 0 dX9_oneYear_18 rfl rfl ?_
  refine rz_gR 22 dX9_oneYear_19 rfl rfl fl_X9_35 (fun x4 => ?_)
  refine rz_iconst 23 dX9_oneYear_22 rfl ci_0 ?_
  refine rz_iald 24 dX9_oneYear_23 rfl (fun x5 => ?_)
  refine rz_aload_n 25 0 dX9_oneYear_24 rfl rfl ?_
  refine rz_gR 28 dX9_oneYear_25 rfl rfl fl_X9_35 (fun x6 => ?_)
  refine rz_iconst 29 dX9_oneYear_28 rfl ci_2 ?_
  refine rz_iald 30 dX9_oneYear_29 rfl (fun x7 => ?_)
  refine rz_iadd 31 dX9_oneYear_30 rfl ?_
  refine rz_mmin 34 dX9_oneYear_31 rfl ml_X9_390 rfl rfl ?_
  refine rz_iast 35 dX9_oneYear_34 rfl ?_
  refine rz_aload_n 36 0 dX9_oneYear_35 rfl rfl ?_
  refine rz_gR 39 dX9_oneYear_36 rfl rfl fl_X9_35 (fun x8 => ?_)
  refine rz_iconst 40 dX9_oneYear_39 rfl ci_3 ?_
  refine rz_iald 41 dX9_oneYear_40 rfl (fun x9 => ?_)
  refine rz_if_le 115 44 dX9_oneYear_41 rfl rfl ?_ ?_
  · exact rz_sub [0] rfl (rX9_oneYear_115 v d l0)
  · refine rz_aload_n 45 0 dX9_oneYear_44 rfl rfl ?_
    refine rz_gR 48 dX9_oneYear_45 rfl rfl fl_X9_35 (fun x10 => ?_)
    refine rz_bipush 50 dX9_oneYear_48 rfl cb_6 ?_
    refine rz_aload_n 51 0 dX9_oneYear_50 rfl rfl ?_
    refine rz_gR 54 dX9_oneYear_51 rfl rfl fl_X9_35 (fun x11 => ?_)
    refine rz_bipush 56 dX9_oneYear_54 rfl cb_6 ?_
    refine rz_iald 57 dX9_oneYear_56 rfl (fun x12 => ?_)
    refine rz_sipush 60 dX9_oneYear_57 rfl cs_2801 ?_
    refine rz_imul 61 dX9_oneYear_60 rfl ?_
    refine rz_sipush 64 dX9_oneYear_61 rfl cs_9011 ?_
    refine rz_iadd 65 dX9_oneYear_64 rfl ?_
    refine rz_ldcw 68 dX9_oneYear_65 rfl ct_X9_411 ?_
    refine rz_irem 69 dX9_oneYear_68 rfl ?_
    refine rz_iast 70 dX9_oneYear_69 rfl ?_
    refine rz_aload_n 71 0 dX9_oneYear_70 rfl rfl ?_
    refine rz_gR 74 dX9_oneYear_71 rfl rfl fl_X9_35 (fun x13 => ?_)
    refine rz_bipush 76 dX9_oneYear_74 rfl cb_6 ?_
    refine rz_iald 77 dX9_oneYear_76 rfl (fun x14 => ?_)
    refine rz_bipush 79 dX9_oneYear_77 rfl cb_8 ?_
    refine rz_idiv 80 dX9_oneYear_79 rfl ?_
    refine rz_bipush 82 dX9_oneYear_80 rfl cb_16 ?_
    refine rz_irem 83 dX9_oneYear_82 rfl ?_
    refine rz_aload_n 84 0 dX9_oneYear_83 rfl rfl ?_
    refine rz_gR 87 dX9_oneYear_84 rfl rfl fl_X9_35 (fun x15 => ?_)
    refine rz_iconst 88 dX9_oneYear_87 rfl ci_3 ?_
    refine rz_iald 89 dX9_oneYear_88 rfl (fun x16 => ?_)
    refine rz_icmp_ge 115 92 dX9_oneYear_89 rfl rfl ?_ ?_
    · exact rz_sub [0] rfl (rX9_oneYear_115 v d l0)
    · refine rz_aload_n 93 0 dX9_oneYear_92 rfl rfl ?_
      refine rz_gR 96 dX9_oneYear_93 rfl rfl fl_X9_35 (fun x17 => ?_)
      refine rz_iconst 97 dX9_oneYear_96 rfl ci_0 ?_
      refine rz_iconst 98 dX9_oneYear_97 rfl ci_0 ?_
      refine rz_aload_n 99 0 dX9_oneYear_98 rfl rfl ?_
      refine rz_gR 102 dX9_oneYear_99 rfl rfl fl_X9_35 (fun x18 => ?_)
      refine rz_iconst 103 dX9_oneYear_102 rfl ci_0 ?_
      refine rz_iald 104 dX9_oneYear_103 rfl (fun x19 => ?_)
      refine rz_aload_n 105 0 dX9_oneYear_104 rfl rfl ?_
      refine rz_gR 108 dX9_oneYear_105 rfl rfl fl_X9_35 (fun x20 => ?_)
      refine rz_iconst 109 dX9_oneYear_108 rfl ci_4 ?_
      refine rz_iald 110 dX9_oneYear_109 rfl (fun x21 => ?_)
      refine rz_isub 111 dX9_oneYear_110 rfl ?_
      refine rz_mmax 114 dX9_oneYear_111 rfl ml_X9_321 rfl rfl ?_
      refine rz_iast 115 dX9_oneYear_114 rfl ?_
      exact rz_sub [0] rfl (rX9_oneYear_115 v d l0)
theorem tX9_oneYear (v : mE) (d : Nat) (l0 : Nat) : Mt v yX9_oneYear cX9_oneYear 3 none emU (d + 7) [vR l0] (fX9_oneYear l0) := mt_of rfl rfl (fun h => by cases h) rfl rfl (rX9_oneYear v d l0)
theorem dX9_pass_0 : decode cX9_pass 0 = .ok (.aload_n 0, 1) := by decide +kernel
theorem dX9_pass_1 : decode cX9_pass 1 = .ok (.iconst 0, 1) := by decide +kernel
theorem dX9_pass_2 : decode cX9_pass 2 = .ok (.putfield 62, 3) := by decide +kernel
theorem dX9_pass_5 : decode cX9_pass 5 = .ok (.aload_n 0, 1) := by decide +kernel
theorem dX9_pass_6 : decode cX9_pass 6 = .ok (.iconst 0, 1) := by decide +kernel
theorem dX9_pass_7 : decode cX9_pass 7 = .ok (.putfield 65, 3) := by decide +kernel
theorem dX9_pass_10 : decode cX9_pass 10 = .ok (.iload_n 1, 1) := by decide +kernel
theorem dX9_pass_11 : decode cX9_pass 11 = .ok (.i2l, 1) := by decide +kernel
theorem dX9_pass_12 : decode cX9_pass 12 = .ok (.lconst 1, 1) := by decide +kernel
theorem dX9_pass_13 : decode cX9_pass 13 = .ok (.ldc2_w 415, 3) := by decide +kernel
theorem dX9_pass_16 : decode cX9_pass 16 = .ok (.invokestatic 97, 3) := by decide +kernel
theorem dX9_pass_19 : decode cX9_pass 19 = .ok (.ifCond .eq 17, 3) := by decide +kernel
theorem dX9_pass_22 : decode cX9_pass 22 = .ok (.aload_n 0, 1) := by decide +kernel
theorem dX9_pass_23 : decode cX9_pass 23 = .ok (.getfield 35, 3) := by decide +kernel
theorem dX9_pass_26 : decode cX9_pass 26 = .ok (.iconst 5, 1) := by decide +kernel
theorem dX9_pass_27 : decode cX9_pass 27 = .ok (.iaload, 1) := by decide +kernel
theorem dX9_pass_28 : decode cX9_pass 28 = .ok (.iload_n 1, 1) := by decide +kernel
theorem dX9_pass_29 : decode cX9_pass 29 = .ok (.iadd, 1) := by decide +kernel
theorem dX9_pass_30 : decode cX9_pass 30 = .ok (.sipush 200, 3) := by decide +kernel
theorem dX9_pass_33 : decode cX9_pass 33 = .ok (.if_icmp .le 9, 3) := by decide +kernel
theorem dX9_pass_36 : decode cX9_pass 36 = .ok (.aload_n 0, 1) := by decide +kernel
theorem dX9_pass_37 : decode cX9_pass 37 = .ok (.iconst 5, 1) := by decide +kernel
theorem dX9_pass_38 : decode cX9_pass 38 = .ok (.invokevirtual 357, 3) := by decide +kernel
theorem dX9_pass_41 : decode cX9_pass 41 = .ok (.ireturn, 1) := by decide +kernel
theorem dX9_pass_42 : decode cX9_pass 42 = .ok (.iconst 0, 1) := by decide +kernel
theorem dX9_pass_43 : decode cX9_pass 43 = .ok (.istore_n 2, 1) := by decide +kernel
theorem dX9_pass_44 : decode cX9_pass 44 = .ok (.iload_n 2, 1) := by decide +kernel
theorem dX9_pass_45 : decode cX9_pass 45 = .ok (.iload_n 1, 1) := by decide +kernel
theorem dX9_pass_46 : decode cX9_pass 46 = .ok (.if_icmp .ge 13, 3) := by decide +kernel
theorem dX9_pass_49 : decode cX9_pass 49 = .ok (.aload_n 0, 1) := by decide +kernel
theorem dX9_pass_50 : decode cX9_pass 50 = .ok (.invokevirtual 417, 3) := by decide +kernel
theorem dX9_pass_53 : decode cX9_pass 53 = .ok (.iinc 2 1, 3) := by decide +kernel
theorem dX9_pass_56 : decode cX9_pass 56 = .ok (.goto (-12), 3) := by decide +kernel
theorem dX9_pass_59 : decode cX9_pass 59 = .ok (.aload_n 0, 1) := by decide +kernel
theorem dX9_pass_60 : decode cX9_pass 60 = .ok (.getfield 35, 3) := by decide +kernel
theorem dX9_pass_63 : decode cX9_pass 63 = .ok (.iconst 5, 1) := by decide +kernel
theorem dX9_pass_64 : decode cX9_pass 64 = .ok (.iaload, 1) := by decide +kernel
theorem dX9_pass_65 : decode cX9_pass 65 = .ok (.ireturn, 1) := by decide +kernel
def fX9_pass_44 : Nat → Nat → Int32 → Int32 → mM Int32
  | 0 => fun _ _ _ => fun _ => none
  | n + 1 => fun l0 l1 l2 => let r44 := fX9_pass_44 n; bIf (l1 ≤ l2) (bGR 9 l0 24 (fun x1 => bAI 11 x1 (5 : Int32) (fun x2 => bRet x2))) (bCallV 9 l0 (fX9_oneYear l0) (fun _ => r44 l0 l1 (l2 + 1)))
theorem qX9_pass_44  (n : Nat) (l0 : Nat) (l1 : Int32) (l2 : Int32) : fX9_pass_44 (n + 1) l0 l1 l2 = bIf (l1 ≤ l2) (bGR 9 l0 24 (fun x1 => bAI 11 x1 (5 : Int32) (fun x2 => bRet x2))) (bCallV 9 l0 (fX9_oneYear l0) (fun _ => (fX9_pass_44 n) l0 l1 (l2 + 1))) := rfl
set_option maxRecDepth 20000 in
theorem rX9_pass_44 (v : mE) (d : Nat) : ∀ (n : Nat) (l0 : Nat) (l1 : Int32) (l2 : Int32), Rz v RX9 cX9_pass 3 (some .int) false emI (d + 8) 44 [(0, vR l0), (1, vI l1), (2, vI l2)] [] (fX9_pass_44 n l0 l1 l2)
  | 0, _, _, _ => fun _ _ _ hm => by cases hm
  | n + 1, l0, l1, l2 => by
    have h44 := rX9_pass_44 v d n
    unfold fX9_pass_44
    generalize fX9_pass_44 n = r44 at h44 ⊢
    refine rz_iload_n 45 2 dX9_pass_44 rfl rfl ?_
    refine rz_iload_n 46 1 dX9_pass_45 rfl rfl ?_
    refine rz_icmp_ge 59 49 dX9_pass_46 rfl rfl ?_ ?_
    · refine rz_aload_n 60 0 dX9_pass_59 rfl rfl ?_
      refine rz_gR 63 dX9_pass_60 rfl rfl fl_X9_35 (fun x1 => ?_)
      refine rz_iconst 64 dX9_pass_63 rfl ci_5 ?_
      refine rz_iald 65 dX9_pass_64 rfl (fun x2 => ?_)
      exact rz_ireturn rfl rfl dX9_pass_65
    · refine rz_aload_n 50 0 dX9_pass_49 rfl rfl ?_
      refine rz_callV 53 dX9_pass_50 rfl (tX9_oneYear v (d + 0) l0) rfl rfl rfl rfl ml_X9_417 im_X9_oneYear se_X9_X9_oneYear in_X9 co_X9_oneYear rfl rfl (fun _ => ?_)
      refine rz_iinc (lv' := [(2, vI (l2 + 1)), (0, vR l0), (1, vI l1)]) 56 2 dX9_pass_53 rfl rfl (cn_1 _) rfl rfl ?_
      refine rz_goto 44 dX9_pass_56 rfl ?_
      exact rz_sub [1, 2, 0] rfl (h44 l0 l1 (l2 + 1))
def fX9_pass_36 (l0 : Nat) : mM Int32 := bCallV 9 l0 (fX9_refuse l0 (5 : Int32)) (fun x1 => bRet x1)
set_option maxRecDepth 20000 in
theorem rX9_pass_36 (v : mE) (d : Nat) (l0 : Nat) : Rz v RX9 cX9_pass 3 (some .int) false emI (d + 8) 36 [(0, vR l0)] [] (fX9_pass_36 l0) := by
  unfold fX9_pass_36
  refine rz_aload_n 37 0 dX9_pass_36 rfl rfl ?_
  refine rz_iconst 38 dX9_pass_37 rfl ci_5 ?_
  refine rz_callV 41 dX9_pass_38 rfl (tX9_refuse v (d + 7) l0 (5 : Int32)) rfl rfl rfl rfl ml_X9_357 im_X9_refuse se_X9_X9_refuse in_X9 co_X9_refuse rfl rfl (fun x1 => ?_)
  exact rz_ireturn rfl rfl dX9_pass_41
def fX9_pass (l0 : Nat) (l1 : Int32) : mM Int32 := bPI 9 l0 1 (0 : Int32) (bPI 9 l0 0 (0 : Int32) (bCall (fX9_isIn (Int32.toInt64 l1) (1 : Int64) (50 : Int64)) (fun x1 => bIf (x1 = 0) (fX9_pass_36 l0) (bGR 9 l0 24 (fun x2 => bAI 11 x2 (5 : Int32) (fun x3 => bIf ((x3 + l1) ≤ (200 : Int32)) (fX9_pass_44 fu l0 l1 (0 : Int32)) (fX9_pass_36 l0)))))))
set_option maxRecDepth 20000 in
theorem rX9_pass (v : mE) (d : Nat) (l0 : Nat) (l1 : Int32) : Rz v RX9 cX9_pass 3 (some .int) false emI (d + 8) 0 [(0, vR l0), (1, vI l1)] [] (fX9_pass l0 l1) := by
  unfold fX9_pass
  refine rz_aload_n 1 0 dX9_pass_0 rfl rfl ?_
  refine rz_iconst 2 dX9_pass_1 rfl ci_0 ?_
  refine rz_pI 5 dX9_pass_2 rfl rfl rfl rfl fl_X9_62 ?_
  refine rz_aload_n 6 0 dX9_pass_5 rfl rfl ?_
  refine rz_iconst 7 dX9_pass_6 rfl ci_0 ?_
  refine rz_pI 10 dX9_pass_7 rfl rfl rfl rfl fl_X9_65 ?_
  refine rz_iload_n 11 1 dX9_pass_10 rfl rfl ?_
  refine rz_i2l 12 dX9_pass_11 rfl ?_
  refine rz_lconst 13 dX9_pass_12 rfl cl_1 ?_
  refine rz_ldc2 16 dX9_pass_13 rfl cu_X9_415 ?_
  refine rz_callS 19 dX9_pass_16 rfl (tX9_isIn v (d + 7) (Int32.toInt64 l1) (1 : Int64) (50 : Int64)) rfl rfl ml_X9_97 sm_X9_isIn in_X9 co_X9_isIn rfl rfl (fun x1 => ?_)
  refine rz_if_eq 36 22 dX9_pass_19 rfl rfl ?_ ?_
  · exact rz_sub [0] rfl (rX9_pass_36 v d l0)
  · refine rz_aload_n 23 0 dX9_pass_22 rfl rfl ?_
    refine rz_gR 26 dX9_pass_23 rfl rfl fl_X9_35 (fun x2 => ?_)
    refine rz_iconst 27 dX9_pass_26 rfl ci_5 ?_
    refine rz_iald 28 dX9_pass_27 rfl (fun x3 => ?_)
    refine rz_iload_n 29 1 dX9_pass_28 rfl rfl ?_
    refine rz_iadd 30 dX9_pass_29 rfl ?_
    refine rz_sipush 33 dX9_pass_30 rfl cs_200 ?_
    refine rz_icmp_le 42 36 dX9_pass_33 rfl rfl ?_ ?_
    · refine rz_iconst 43 dX9_pass_42 rfl ci_0 ?_
      refine rz_istore_n (lv' := [(2, vI (0 : Int32)), (0, vR l0), (1, vI l1)]) 44 dX9_pass_43 rfl rfl rfl ?_
      exact rz_sub [1, 2, 0] rfl (rX9_pass_44 v d fu l0 l1 (0 : Int32))
    · exact rz_sub [0] rfl (rX9_pass_36 v d l0)
theorem tX9_pass (v : mE) (d : Nat) (l0 : Nat) (l1 : Int32) : Mt v yX9_pass cX9_pass 3 (some .int) emI (d + 8) [vR l0, vI l1] (fX9_pass l0 l1) := mt_of rfl rfl (fun h => by cases h) rfl rfl (rX9_pass v d l0 l1)
theorem dX9_drinks_0 : decode cX9_drinks 0 = .ok (.aload_n 0, 1) := by decide +kernel
theorem dX9_drinks_1 : decode cX9_drinks 1 = .ok (.iconst 0, 1) := by decide +kernel
theorem dX9_drinks_2 : decode cX9_drinks 2 = .ok (.putfield 62, 3) := by decide +kernel
theorem dX9_drinks_5 : decode cX9_drinks 5 = .ok (.aload_n 0, 1) := by decide +kernel
theorem dX9_drinks_6 : decode cX9_drinks 6 = .ok (.iconst 0, 1) := by decide +kernel
theorem dX9_drinks_7 : decode cX9_drinks 7 = .ok (.putfield 65, 3) := by decide +kernel
theorem dX9_drinks_10 : decode cX9_drinks 10 = .ok (.aload_n 0, 1) := by decide +kernel
theorem dX9_drinks_11 : decode cX9_drinks 11 = .ok (.iload_n 1, 1) := by decide +kernel
theorem dX9_drinks_12 : decode cX9_drinks 12 = .ok (.invokevirtual 360, 3) := by decide +kernel
theorem dX9_drinks_15 : decode cX9_drinks 15 = .ok (.ifCond .ne 9, 3) := by decide +kernel
theorem dX9_drinks_18 : decode cX9_drinks 18 = .ok (.aload_n 0, 1) := by decide +kernel
theorem dX9_drinks_19 : decode cX9_drinks 19 = .ok (.iconst 2, 1) := by decide +kernel
theorem dX9_drinks_20 : decode cX9_drinks 20 = .ok (.invokevirtual 357, 3) := by decide +kernel
theorem dX9_drinks_23 : decode cX9_drinks 23 = .ok (.ireturn, 1) := by decide +kernel
theorem dX9_drinks_24 : decode cX9_drinks 24 = .ok (.aload_n 0, 1) := by decide +kernel
theorem dX9_drinks_25 : decode cX9_drinks 25 = .ok (.iload_n 1, 1) := by decide +kernel
theorem dX9_drinks_26 : decode cX9_drinks 26 = .ok (.invokevirtual 351, 3) := by decide +kernel
theorem dX9_drinks_29 : decode cX9_drinks 29 = .ok (.ifCond .eq 7, 3) := by decide +kernel
theorem dX9_drinks_32 : decode cX9_drinks 32 = .ok (.iconst 1, 1) := by decide +kernel
theorem dX9_drinks_33 : decode cX9_drinks 33 = .ok (.goto 4, 3) := by decide +kernel
theorem dX9_drinks_36 : decode cX9_drinks 36 = .ok (.iconst 0, 1) := by decide +kernel
theorem dX9_drinks_37 : decode cX9_drinks 37 = .ok (.ireturn, 1) := by decide +kernel
def fX9_drinks (l0 : Nat) (l1 : Int32) : mM Int32 := bPI 9 l0 1 (0 : Int32) (bPI 9 l0 0 (0 : Int32) (bCallV 9 l0 (fX9_isPerson l0 l1) (fun x1 => bIf (x1 = 0) (bCallV 9 l0 (fX9_refuse l0 (2 : Int32)) (fun x3 => bRet x3)) (bCallV 9 l0 (fX9_isDrinking l0 l1) (fun x2 => bIf (x2 = 0) (bRet (0 : Int32)) (bRet (1 : Int32)))))))
set_option maxRecDepth 20000 in
theorem rX9_drinks (v : mE) (d : Nat) (l0 : Nat) (l1 : Int32) : Rz v RX9 cX9_drinks 2 (some .int) false emI (d + 4) 0 [(0, vR l0), (1, vI l1)] [] (fX9_drinks l0 l1) := by
  unfold fX9_drinks
  refine rz_aload_n 1 0 dX9_drinks_0 rfl rfl ?_
  refine rz_iconst 2 dX9_drinks_1 rfl ci_0 ?_
  refine rz_pI 5 dX9_drinks_2 rfl rfl rfl rfl fl_X9_62 ?_
  refine rz_aload_n 6 0 dX9_drinks_5 rfl rfl ?_
  refine rz_iconst 7 dX9_drinks_6 rfl ci_0 ?_
  refine rz_pI 10 dX9_drinks_7 rfl rfl rfl rfl fl_X9_65 ?_
  refine rz_aload_n 11 0 dX9_drinks_10 rfl rfl ?_
  refine rz_iload_n 12 1 dX9_drinks_11 rfl rfl ?_
  refine rz_callV 15 dX9_drinks_12 rfl (tX9_isPerson v (d + 2) l0 l1) rfl rfl rfl rfl ml_X9_360 im_X9_isPerson se_X9_X9_isPerson in_X9 co_X9_isPerson rfl rfl (fun x1 => ?_)
  refine rz_if_ne 24 18 dX9_drinks_15 rfl rfl ?_ ?_
  · refine rz_aload_n 25 0 dX9_drinks_24 rfl rfl ?_
    refine rz_iload_n 26 1 dX9_drinks_25 rfl rfl ?_
    refine rz_callV 29 dX9_drinks_26 rfl (tX9_isDrinking v (d + 0) l0 l1) rfl rfl rfl rfl ml_X9_351 im_X9_isDrinking se_X9_X9_isDrinking in_X9 co_X9_isDrinking rfl rfl (fun x2 => ?_)
    refine rz_if_eq 36 32 dX9_drinks_29 rfl rfl ?_ ?_
    · refine rz_iconst 37 dX9_drinks_36 rfl ci_0 ?_
      exact rz_ireturn rfl rfl dX9_drinks_37
    · refine rz_iconst 33 dX9_drinks_32 rfl ci_1 ?_
      refine rz_goto 37 dX9_drinks_33 rfl ?_
      exact rz_ireturn rfl rfl dX9_drinks_37
  · refine rz_aload_n 19 0 dX9_drinks_18 rfl rfl ?_
    refine rz_iconst 20 dX9_drinks_19 rfl ci_2 ?_
    refine rz_callV 23 dX9_drinks_20 rfl (tX9_refuse v (d + 3) l0 (2 : Int32)) rfl rfl rfl rfl ml_X9_357 im_X9_refuse se_X9_X9_refuse in_X9 co_X9_refuse rfl rfl (fun x3 => ?_)
    exact rz_ireturn rfl rfl dX9_drinks_23
theorem tX9_drinks (v : mE) (d : Nat) (l0 : Nat) (l1 : Int32) : Mt v yX9_drinks cX9_drinks 2 (some .int) emI (d + 4) [vR l0, vI l1] (fX9_drinks l0 l1) := mt_of rfl rfl (fun h => by cases h) rfl rfl (rX9_drinks v d l0 l1)
theorem dX9_who_0 : decode cX9_who 0 = .ok (.aload_n 0, 1) := by decide +kernel
theorem dX9_who_1 : decode cX9_who 1 = .ok (.iconst 0, 1) := by decide +kernel
theorem dX9_who_2 : decode cX9_who 2 = .ok (.putfield 62, 3) := by decide +kernel
theorem dX9_who_5 : decode cX9_who 5 = .ok (.aload_n 0, 1) := by decide +kernel
theorem dX9_who_6 : decode cX9_who 6 = .ok (.iconst 0, 1) := by decide +kernel
theorem dX9_who_7 : decode cX9_who 7 = .ok (.putfield 65, 3) := by decide +kernel
theorem dX9_who_10 : decode cX9_who 10 = .ok (.aload_n 0, 1) := by decide +kernel
theorem dX9_who_11 : decode cX9_who 11 = .ok (.invokevirtual 420, 3) := by decide +kernel
theorem dX9_who_14 : decode cX9_who 14 = .ok (.ireturn, 1) := by decide +kernel
def fX9_who (l0 : Nat) : mM Int32 := bPI 9 l0 1 (0 : Int32) (bPI 9 l0 0 (0 : Int32) (bCallV 9 l0 (fX9_drinkers l0) (fun x1 => bRet x1)))
set_option maxRecDepth 20000 in
theorem rX9_who (v : mE) (d : Nat) (l0 : Nat) : Rz v RX9 cX9_who 1 (some .int) false emI (d + 5) 0 [(0, vR l0)] [] (fX9_who l0) := by
  unfold fX9_who
  refine rz_aload_n 1 0 dX9_who_0 rfl rfl ?_
  refine rz_iconst 2 dX9_who_1 rfl ci_0 ?_
  refine rz_pI 5 dX9_who_2 rfl rfl rfl rfl fl_X9_62 ?_
  refine rz_aload_n 6 0 dX9_who_5 rfl rfl ?_
  refine rz_iconst 7 dX9_who_6 rfl ci_0 ?_
  refine rz_pI 10 dX9_who_7 rfl rfl rfl rfl fl_X9_65 ?_
  refine rz_aload_n 11 0 dX9_who_10 rfl rfl ?_
  refine rz_callV 14 dX9_who_11 rfl (tX9_drinkers v (d + 0) l0) rfl rfl rfl rfl ml_X9_420 im_X9_drinkers se_X9_X9_drinkers in_X9 co_X9_drinkers rfl rfl (fun x1 => ?_)
  exact rz_ireturn rfl rfl dX9_who_14
theorem tX9_who (v : mE) (d : Nat) (l0 : Nat) : Mt v yX9_who cX9_who 1 (some .int) emI (d + 5) [vR l0] (fX9_who l0) := mt_of rfl rfl (fun h => by cases h) rfl rfl (rX9_who v d l0)
theorem dX9_keep_0 : decode cX9_keep 0 = .ok (.iconst 0, 1) := by decide +kernel
theorem dX9_keep_1 : decode cX9_keep 1 = .ok (.istore_n 1, 1) := by decide +kernel
theorem dX9_keep_2 : decode cX9_keep 2 = .ok (.iload_n 1, 1) := by decide +kernel
theorem dX9_keep_3 : decode cX9_keep 3 = .ok (.sipush 860, 3) := by decide +kernel
theorem dX9_keep_6 : decode cX9_keep 6 = .ok (.if_icmp .ge 21, 3) := by decide +kernel
theorem dX9_keep_9 : decode cX9_keep 9 = .ok (.aload_n 0, 1) := by decide +kernel
theorem dX9_keep_10 : decode cX9_keep 10 = .ok (.getfield 38, 3) := by decide +kernel
theorem dX9_keep_13 : decode cX9_keep 13 = .ok (.iload_n 1, 1) := by decide +kernel
theorem dX9_keep_14 : decode cX9_keep 14 = .ok (.aload_n 0, 1) := by decide +kernel
theorem dX9_keep_15 : decode cX9_keep 15 = .ok (.getfield 35, 3) := by decide +kernel
theorem dX9_keep_18 : decode cX9_keep 18 = .ok (.iload_n 1, 1) := by decide +kernel
theorem dX9_keep_19 : decode cX9_keep 19 = .ok (.iaload, 1) := by decide +kernel
theorem dX9_keep_20 : decode cX9_keep 20 = .ok (.iastore, 1) := by decide +kernel
theorem dX9_keep_21 : decode cX9_keep 21 = .ok (.iinc 1 1, 3) := by decide +kernel
theorem dX9_keep_24 : decode cX9_keep 24 = .ok (.goto (-22), 3) := by decide +kernel
theorem dX9_keep_27 : decode cX9_keep 27 = .ok (.return_, 1) := by decide +kernel
def fX9_keep_2 : Nat → Nat → Int32 → mM Unit
  | 0 => fun _ _ => fun _ => none
  | n + 1 => fun l0 l1 => let r2 := fX9_keep_2 n; bIf ((860 : Int32) ≤ l1) (bRet ()) (bGR 9 l0 25 (fun x1 => bGR 9 l0 24 (fun x2 => bAI 11 x2 l1 (fun x3 => bSI x1 l1 x3 (r2 l0 (l1 + 1))))))
theorem qX9_keep_2  (n : Nat) (l0 : Nat) (l1 : Int32) : fX9_keep_2 (n + 1) l0 l1 = bIf ((860 : Int32) ≤ l1) (bRet ()) (bGR 9 l0 25 (fun x1 => bGR 9 l0 24 (fun x2 => bAI 11 x2 l1 (fun x3 => bSI x1 l1 x3 ((fX9_keep_2 n) l0 (l1 + 1)))))) := rfl
set_option maxRecDepth 20000 in
theorem rX9_keep_2 (v : mE) (d : Nat) : ∀ (n : Nat) (l0 : Nat) (l1 : Int32), Rz v RX9 cX9_keep 2 none false emU (d + 0) 2 [(0, vR l0), (1, vI l1)] [] (fX9_keep_2 n l0 l1)
  | 0, _, _ => fun _ _ _ hm => by cases hm
  | n + 1, l0, l1 => by
    have h2 := rX9_keep_2 v d n
    unfold fX9_keep_2
    generalize fX9_keep_2 n = r2 at h2 ⊢
    refine rz_iload_n 3 1 dX9_keep_2 rfl rfl ?_
    refine rz_sipush 6 dX9_keep_3 rfl cs_860 ?_
    refine rz_icmp_ge 27 9 dX9_keep_6 rfl rfl ?_ ?_
    · exact rz_return rfl rfl dX9_keep_27
    · refine rz_aload_n 10 0 dX9_keep_9 rfl rfl ?_
      refine rz_gR 13 dX9_keep_10 rfl rfl fl_X9_38 (fun x1 => ?_)
      refine rz_iload_n 14 1 dX9_keep_13 rfl rfl ?_
      refine rz_aload_n 15 0 dX9_keep_14 rfl rfl ?_
      refine rz_gR 18 dX9_keep_15 rfl rfl fl_X9_35 (fun x2 => ?_)
      refine rz_iload_n 19 1 dX9_keep_18 rfl rfl ?_
      refine rz_iald 20 dX9_keep_19 rfl (fun x3 => ?_)
      refine rz_iast 21 dX9_keep_20 rfl ?_
      refine rz_iinc (lv' := [(1, vI (l1 + 1)), (0, vR l0)]) 24 1 dX9_keep_21 rfl rfl (cn_1 _) rfl rfl ?_
      refine rz_goto 2 dX9_keep_24 rfl ?_
      exact rz_sub [1, 0] rfl (h2 l0 (l1 + 1))
def fX9_keep (l0 : Nat) : mM Unit := fX9_keep_2 fu l0 (0 : Int32)
set_option maxRecDepth 20000 in
theorem rX9_keep (v : mE) (d : Nat) (l0 : Nat) : Rz v RX9 cX9_keep 2 none false emU (d + 0) 0 [(0, vR l0)] [] (fX9_keep l0) := by
  unfold fX9_keep
  refine rz_iconst 1 dX9_keep_0 rfl ci_0 ?_
  refine rz_istore_n (lv' := [(1, vI (0 : Int32)), (0, vR l0)]) 2 dX9_keep_1 rfl rfl rfl ?_
  exact rz_sub [1, 0] rfl (rX9_keep_2 v d fu l0 (0 : Int32))
theorem tX9_keep (v : mE) (d : Nat) (l0 : Nat) : Mt v yX9_keep cX9_keep 2 none emU (d + 0) [vR l0] (fX9_keep l0) := mt_of rfl rfl (fun h => by cases h) rfl rfl (rX9_keep v d l0)
theorem dX9_takeAgain_0 : decode cX9_takeAgain 0 = .ok (.iconst 0, 1) := by decide +kernel
theorem dX9_takeAgain_1 : decode cX9_takeAgain 1 = .ok (.istore_n 1, 1) := by decide +kernel
theorem dX9_takeAgain_2 : decode cX9_takeAgain 2 = .ok (.iload_n 1, 1) := by decide +kernel
theorem dX9_takeAgain_3 : decode cX9_takeAgain 3 = .ok (.sipush 860, 3) := by decide +kernel
theorem dX9_takeAgain_6 : decode cX9_takeAgain 6 = .ok (.if_icmp .ge 21, 3) := by decide +kernel
theorem dX9_takeAgain_9 : decode cX9_takeAgain 9 = .ok (.aload_n 0, 1) := by decide +kernel
theorem dX9_takeAgain_10 : decode cX9_takeAgain 10 = .ok (.getfield 35, 3) := by decide +kernel
theorem dX9_takeAgain_13 : decode cX9_takeAgain 13 = .ok (.iload_n 1, 1) := by decide +kernel
theorem dX9_takeAgain_14 : decode cX9_takeAgain 14 = .ok (.aload_n 0, 1) := by decide +kernel
theorem dX9_takeAgain_15 : decode cX9_takeAgain 15 = .ok (.getfield 38, 3) := by decide +kernel
theorem dX9_takeAgain_18 : decode cX9_takeAgain 18 = .ok (.iload_n 1, 1) := by decide +kernel
theorem dX9_takeAgain_19 : decode cX9_takeAgain 19 = .ok (.iaload, 1) := by decide +kernel
theorem dX9_takeAgain_20 : decode cX9_takeAgain 20 = .ok (.iastore, 1) := by decide +kernel
theorem dX9_takeAgain_21 : decode cX9_takeAgain 21 = .ok (.iinc 1 1, 3) := by decide +kernel
theorem dX9_takeAgain_24 : decode cX9_takeAgain 24 = .ok (.goto (-22), 3) := by decide +kernel
theorem dX9_takeAgain_27 : decode cX9_takeAgain 27 = .ok (.return_, 1) := by decide +kernel
def fX9_takeAgain_2 : Nat → Nat → Int32 → mM Unit
  | 0 => fun _ _ => fun _ => none
  | n + 1 => fun l0 l1 => let r2 := fX9_takeAgain_2 n; bIf ((860 : Int32) ≤ l1) (bRet ()) (bGR 9 l0 24 (fun x1 => bGR 9 l0 25 (fun x2 => bAI 11 x2 l1 (fun x3 => bSI x1 l1 x3 (r2 l0 (l1 + 1))))))
theorem qX9_takeAgain_2  (n : Nat) (l0 : Nat) (l1 : Int32) : fX9_takeAgain_2 (n + 1) l0 l1 = bIf ((860 : Int32) ≤ l1) (bRet ()) (bGR 9 l0 24 (fun x1 => bGR 9 l0 25 (fun x2 => bAI 11 x2 l1 (fun x3 => bSI x1 l1 x3 ((fX9_takeAgain_2 n) l0 (l1 + 1)))))) := rfl
set_option maxRecDepth 20000 in
theorem rX9_takeAgain_2 (v : mE) (d : Nat) : ∀ (n : Nat) (l0 : Nat) (l1 : Int32), Rz v RX9 cX9_takeAgain 2 none false emU (d + 0) 2 [(0, vR l0), (1, vI l1)] [] (fX9_takeAgain_2 n l0 l1)
  | 0, _, _ => fun _ _ _ hm => by cases hm
  | n + 1, l0, l1 => by
    have h2 := rX9_takeAgain_2 v d n
    unfold fX9_takeAgain_2
    generalize fX9_takeAgain_2 n = r2 at h2 ⊢
    refine rz_iload_n 3 1 dX9_takeAgain_2 rfl rfl ?_
    refine rz_sipush 6 dX9_takeAgain_3 rfl cs_860 ?_
    refine rz_icmp_ge 27 9 dX9_takeAgain_6 rfl rfl ?_ ?_
    · exact rz_return rfl rfl dX9_takeAgain_27
    · refine rz_aload_n 10 0 dX9_takeAgain_9 rfl rfl ?_
      refine rz_gR 13 dX9_takeAgain_10 rfl rfl fl_X9_35 (fun x1 => ?_)
      refine rz_iload_n 14 1 dX9_takeAgain_13 rfl rfl ?_
      refine rz_aload_n 15 0 dX9_takeAgain_14 rfl rfl ?_
      refine rz_gR 18 dX9_takeAgain_15 rfl rfl fl_X9_38 (fun x2 => ?_)
      refine rz_iload_n 19 1 dX9_takeAgain_18 rfl rfl ?_
      refine rz_iald 20 dX9_takeAgain_19 rfl (fun x3 => ?_)
      refine rz_iast 21 dX9_takeAgain_20 rfl ?_
      refine rz_iinc (lv' := [(1, vI (l1 + 1)), (0, vR l0)]) 24 1 dX9_takeAgain_21 rfl rfl (cn_1 _) rfl rfl ?_
      refine rz_goto 2 dX9_takeAgain_24 rfl ?_
      exact rz_sub [1, 0] rfl (h2 l0 (l1 + 1))
def fX9_takeAgain (l0 : Nat) : mM Unit := fX9_takeAgain_2 fu l0 (0 : Int32)
set_option maxRecDepth 20000 in
theorem rX9_takeAgain (v : mE) (d : Nat) (l0 : Nat) : Rz v RX9 cX9_takeAgain 2 none false emU (d + 0) 0 [(0, vR l0)] [] (fX9_takeAgain l0) := by
  unfold fX9_takeAgain
  refine rz_iconst 1 dX9_takeAgain_0 rfl ci_0 ?_
  refine rz_istore_n (lv' := [(1, vI (0 : Int32)), (0, vR l0)]) 2 dX9_takeAgain_1 rfl rfl rfl ?_
  exact rz_sub [1, 0] rfl (rX9_takeAgain_2 v d fu l0 (0 : Int32))
theorem tX9_takeAgain (v : mE) (d : Nat) (l0 : Nat) : Mt v yX9_takeAgain cX9_takeAgain 2 none emU (d + 0) [vR l0] (fX9_takeAgain l0) := mt_of rfl rfl (fun h => by cases h) rfl rfl (rX9_takeAgain v d l0)
theorem dX9_isAhead_0 : decode cX9_isAhead 0 = .ok (.iload_n 1, 1) := by decide +kernel
theorem dX9_isAhead_1 : decode cX9_isAhead 1 = .ok (.i2l, 1) := by decide +kernel
theorem dX9_isAhead_2 : decode cX9_isAhead 2 = .ok (.lconst 0, 1) := by decide +kernel
theorem dX9_isAhead_3 : decode cX9_isAhead 3 = .ok (.ldc2_w 423, 3) := by decide +kernel
theorem dX9_isAhead_6 : decode cX9_isAhead 6 = .ok (.invokestatic 97, 3) := by decide +kernel
theorem dX9_isAhead_9 : decode cX9_isAhead 9 = .ok (.ifCond .eq 21, 3) := by decide +kernel
theorem dX9_isAhead_12 : decode cX9_isAhead 12 = .ok (.aload_n 0, 1) := by decide +kernel
theorem dX9_isAhead_13 : decode cX9_isAhead 13 = .ok (.getfield 35, 3) := by decide +kernel
theorem dX9_isAhead_16 : decode cX9_isAhead 16 = .ok (.iconst 5, 1) := by decide +kernel
theorem dX9_isAhead_17 : decode cX9_isAhead 17 = .ok (.iaload, 1) := by decide +kernel
theorem dX9_isAhead_18 : decode cX9_isAhead 18 = .ok (.iload_n 1, 1) := by decide +kernel
theorem dX9_isAhead_19 : decode cX9_isAhead 19 = .ok (.iadd, 1) := by decide +kernel
theorem dX9_isAhead_20 : decode cX9_isAhead 20 = .ok (.sipush 200, 3) := by decide +kernel
theorem dX9_isAhead_23 : decode cX9_isAhead 23 = .ok (.if_icmp .gt 7, 3) := by decide +kernel
theorem dX9_isAhead_26 : decode cX9_isAhead 26 = .ok (.iconst 1, 1) := by decide +kernel
theorem dX9_isAhead_27 : decode cX9_isAhead 27 = .ok (.goto 4, 3) := by decide +kernel
theorem dX9_isAhead_30 : decode cX9_isAhead 30 = .ok (.iconst 0, 1) := by decide +kernel
theorem dX9_isAhead_31 : decode cX9_isAhead 31 = .ok (.ireturn, 1) := by decide +kernel
def fX9_isAhead (l0 : Nat) (l1 : Int32) : mM Int32 := bCall (fX9_isIn (Int32.toInt64 l1) (0 : Int64) (100 : Int64)) (fun x1 => bIf (x1 = 0) (bRetZ (0 : Int32)) (bGR 9 l0 24 (fun x2 => bAI 11 x2 (5 : Int32) (fun x3 => bIf ((200 : Int32) < (x3 + l1)) (bRetZ (0 : Int32)) (bRetZ (1 : Int32))))))
set_option maxRecDepth 20000 in
theorem rX9_isAhead (v : mE) (d : Nat) (l0 : Nat) (l1 : Int32) : Rz v RX9 cX9_isAhead 2 (some .boolean) false emI (d + 1) 0 [(0, vR l0), (1, vI l1)] [] (fX9_isAhead l0 l1) := by
  unfold fX9_isAhead
  refine rz_iload_n 1 1 dX9_isAhead_0 rfl rfl ?_
  refine rz_i2l 2 dX9_isAhead_1 rfl ?_
  refine rz_lconst 3 dX9_isAhead_2 rfl cl_0 ?_
  refine rz_ldc2 6 dX9_isAhead_3 rfl cu_X9_423 ?_
  refine rz_callS 9 dX9_isAhead_6 rfl (tX9_isIn v (d + 0) (Int32.toInt64 l1) (0 : Int64) (100 : Int64)) rfl rfl ml_X9_97 sm_X9_isIn in_X9 co_X9_isIn rfl rfl (fun x1 => ?_)
  refine rz_if_eq 30 12 dX9_isAhead_9 rfl rfl ?_ ?_
  · refine rz_iconst 31 dX9_isAhead_30 rfl ci_0 ?_
    exact rz_zreturn rfl rfl dX9_isAhead_31
  · refine rz_aload_n 13 0 dX9_isAhead_12 rfl rfl ?_
    refine rz_gR 16 dX9_isAhead_13 rfl rfl fl_X9_35 (fun x2 => ?_)
    refine rz_iconst 17 dX9_isAhead_16 rfl ci_5 ?_
    refine rz_iald 18 dX9_isAhead_17 rfl (fun x3 => ?_)
    refine rz_iload_n 19 1 dX9_isAhead_18 rfl rfl ?_
    refine rz_iadd 20 dX9_isAhead_19 rfl ?_
    refine rz_sipush 23 dX9_isAhead_20 rfl cs_200 ?_
    refine rz_icmp_gt 30 26 dX9_isAhead_23 rfl rfl ?_ ?_
    · refine rz_iconst 31 dX9_isAhead_30 rfl ci_0 ?_
      exact rz_zreturn rfl rfl dX9_isAhead_31
    · refine rz_iconst 27 dX9_isAhead_26 rfl ci_1 ?_
      refine rz_goto 31 dX9_isAhead_27 rfl ?_
      exact rz_zreturn rfl rfl dX9_isAhead_31
theorem tX9_isAhead (v : mE) (d : Nat) (l0 : Nat) (l1 : Int32) : Mt v yX9_isAhead cX9_isAhead 2 (some .boolean) emI (d + 1) [vR l0, vI l1] (fX9_isAhead l0 l1) := mt_of rfl rfl (fun h => by cases h) rfl rfl (rX9_isAhead v d l0 l1)
theorem dX9_goAhead_0 : decode cX9_goAhead 0 = .ok (.aload_n 0, 1) := by decide +kernel
theorem dX9_goAhead_1 : decode cX9_goAhead 1 = .ok (.invokevirtual 425, 3) := by decide +kernel
theorem dX9_goAhead_4 : decode cX9_goAhead 4 = .ok (.iconst 0, 1) := by decide +kernel
theorem dX9_goAhead_5 : decode cX9_goAhead 5 = .ok (.istore_n 2, 1) := by decide +kernel
theorem dX9_goAhead_6 : decode cX9_goAhead 6 = .ok (.iload_n 2, 1) := by decide +kernel
theorem dX9_goAhead_7 : decode cX9_goAhead 7 = .ok (.iload_n 1, 1) := by decide +kernel
theorem dX9_goAhead_8 : decode cX9_goAhead 8 = .ok (.if_icmp .ge 13, 3) := by decide +kernel
theorem dX9_goAhead_11 : decode cX9_goAhead 11 = .ok (.aload_n 0, 1) := by decide +kernel
theorem dX9_goAhead_12 : decode cX9_goAhead 12 = .ok (.invokevirtual 417, 3) := by decide +kernel
theorem dX9_goAhead_15 : decode cX9_goAhead 15 = .ok (.iinc 2 1, 3) := by decide +kernel
theorem dX9_goAhead_18 : decode cX9_goAhead 18 = .ok (.goto (-12), 3) := by decide +kernel
theorem dX9_goAhead_21 : decode cX9_goAhead 21 = .ok (.return_, 1) := by decide +kernel
def fX9_goAhead_6 : Nat → Nat → Int32 → Int32 → mM Unit
  | 0 => fun _ _ _ => fun _ => none
  | n + 1 => fun l0 l1 l2 => let r6 := fX9_goAhead_6 n; bIf (l1 ≤ l2) (bRet ()) (bCallV 9 l0 (fX9_oneYear l0) (fun _ => r6 l0 l1 (l2 + 1)))
theorem qX9_goAhead_6  (n : Nat) (l0 : Nat) (l1 : Int32) (l2 : Int32) : fX9_goAhead_6 (n + 1) l0 l1 l2 = bIf (l1 ≤ l2) (bRet ()) (bCallV 9 l0 (fX9_oneYear l0) (fun _ => (fX9_goAhead_6 n) l0 l1 (l2 + 1))) := rfl
set_option maxRecDepth 20000 in
theorem rX9_goAhead_6 (v : mE) (d : Nat) : ∀ (n : Nat) (l0 : Nat) (l1 : Int32) (l2 : Int32), Rz v RX9 cX9_goAhead 3 none false emU (d + 8) 6 [(0, vR l0), (1, vI l1), (2, vI l2)] [] (fX9_goAhead_6 n l0 l1 l2)
  | 0, _, _, _ => fun _ _ _ hm => by cases hm
  | n + 1, l0, l1, l2 => by
    have h6 := rX9_goAhead_6 v d n
    unfold fX9_goAhead_6
    generalize fX9_goAhead_6 n = r6 at h6 ⊢
    refine rz_iload_n 7 2 dX9_goAhead_6 rfl rfl ?_
    refine rz_iload_n 8 1 dX9_goAhead_7 rfl rfl ?_
    refine rz_icmp_ge 21 11 dX9_goAhead_8 rfl rfl ?_ ?_
    · exact rz_return rfl rfl dX9_goAhead_21
    · refine rz_aload_n 12 0 dX9_goAhead_11 rfl rfl ?_
      refine rz_callV 15 dX9_goAhead_12 rfl (tX9_oneYear v (d + 0) l0) rfl rfl rfl rfl ml_X9_417 im_X9_oneYear se_X9_X9_oneYear in_X9 co_X9_oneYear rfl rfl (fun _ => ?_)
      refine rz_iinc (lv' := [(2, vI (l2 + 1)), (0, vR l0), (1, vI l1)]) 18 2 dX9_goAhead_15 rfl rfl (cn_1 _) rfl rfl ?_
      refine rz_goto 6 dX9_goAhead_18 rfl ?_
      exact rz_sub [1, 2, 0] rfl (h6 l0 l1 (l2 + 1))
def fX9_goAhead (l0 : Nat) (l1 : Int32) : mM Unit := bCallV 9 l0 (fX9_keep l0) (fun _ => fX9_goAhead_6 fu l0 l1 (0 : Int32))
set_option maxRecDepth 20000 in
theorem rX9_goAhead (v : mE) (d : Nat) (l0 : Nat) (l1 : Int32) : Rz v RX9 cX9_goAhead 3 none false emU (d + 8) 0 [(0, vR l0), (1, vI l1)] [] (fX9_goAhead l0 l1) := by
  unfold fX9_goAhead
  refine rz_aload_n 1 0 dX9_goAhead_0 rfl rfl ?_
  refine rz_callV 4 dX9_goAhead_1 rfl (tX9_keep v (d + 7) l0) rfl rfl rfl rfl ml_X9_425 im_X9_keep se_X9_X9_keep in_X9 co_X9_keep rfl rfl (fun _ => ?_)
  refine rz_iconst 5 dX9_goAhead_4 rfl ci_0 ?_
  refine rz_istore_n (lv' := [(2, vI (0 : Int32)), (0, vR l0), (1, vI l1)]) 6 dX9_goAhead_5 rfl rfl rfl ?_
  exact rz_sub [1, 2, 0] rfl (rX9_goAhead_6 v d fu l0 l1 (0 : Int32))
theorem tX9_goAhead (v : mE) (d : Nat) (l0 : Nat) (l1 : Int32) : Mt v yX9_goAhead cX9_goAhead 3 none emU (d + 8) [vR l0, vI l1] (fX9_goAhead l0 l1) := mt_of rfl rfl (fun h => by cases h) rfl rfl (rX9_goAhead v d l0 l1)
theorem dX9_depth_0 : decode cX9_depth 0 = .ok (.aload_n 0, 1) := by decide +kernel
theorem dX9_depth_1 : decode cX9_depth 1 = .ok (.iconst 0, 1) := by decide +kernel
theorem dX9_depth_2 : decode cX9_depth 2 = .ok (.putfield 62, 3) := by decide +kernel
theorem dX9_depth_5 : decode cX9_depth 5 = .ok (.aload_n 0, 1) := by decide +kernel
theorem dX9_depth_6 : decode cX9_depth 6 = .ok (.iconst 0, 1) := by decide +kernel
theorem dX9_depth_7 : decode cX9_depth 7 = .ok (.putfield 65, 3) := by decide +kernel
theorem dX9_depth_10 : decode cX9_depth 10 = .ok (.aload_n 0, 1) := by decide +kernel
theorem dX9_depth_11 : decode cX9_depth 11 = .ok (.iload_n 1, 1) := by decide +kernel
theorem dX9_depth_12 : decode cX9_depth 12 = .ok (.invokevirtual 428, 3) := by decide +kernel
theorem dX9_depth_15 : decode cX9_depth 15 = .ok (.ifCond .ne 9, 3) := by decide +kernel
theorem dX9_depth_18 : decode cX9_depth 18 = .ok (.aload_n 0, 1) := by decide +kernel
theorem dX9_depth_19 : decode cX9_depth 19 = .ok (.iconst 5, 1) := by decide +kernel
theorem dX9_depth_20 : decode cX9_depth 20 = .ok (.invokevirtual 357, 3) := by decide +kernel
theorem dX9_depth_23 : decode cX9_depth 23 = .ok (.ireturn, 1) := by decide +kernel
theorem dX9_depth_24 : decode cX9_depth 24 = .ok (.aload_n 0, 1) := by decide +kernel
theorem dX9_depth_25 : decode cX9_depth 25 = .ok (.iload_n 1, 1) := by decide +kernel
theorem dX9_depth_26 : decode cX9_depth 26 = .ok (.invokevirtual 431, 3) := by decide +kernel
theorem dX9_depth_29 : decode cX9_depth 29 = .ok (.aload_n 0, 1) := by decide +kernel
theorem dX9_depth_30 : decode cX9_depth 30 = .ok (.invokevirtual 324, 3) := by decide +kernel
theorem dX9_depth_33 : decode cX9_depth 33 = .ok (.istore_n 2, 1) := by decide +kernel
theorem dX9_depth_34 : decode cX9_depth 34 = .ok (.aload_n 0, 1) := by decide +kernel
theorem dX9_depth_35 : decode cX9_depth 35 = .ok (.invokevirtual 434, 3) := by decide +kernel
theorem dX9_depth_38 : decode cX9_depth 38 = .ok (.iload_n 2, 1) := by decide +kernel
theorem dX9_depth_39 : decode cX9_depth 39 = .ok (.ireturn, 1) := by decide +kernel
def fX9_depth (l0 : Nat) (l1 : Int32) : mM Int32 := bPI 9 l0 1 (0 : Int32) (bPI 9 l0 0 (0 : Int32) (bCallV 9 l0 (fX9_isAhead l0 l1) (fun x1 => bIf (x1 = 0) (bCallV 9 l0 (fX9_refuse l0 (5 : Int32)) (fun x3 => bRet x3)) (bCallV 9 l0 (fX9_goAhead l0 l1) (fun _ => bCallV 9 l0 (fX9_depthNow l0) (fun x2 => bCallV 9 l0 (fX9_takeAgain l0) (fun _ => bRet x2)))))))
set_option maxRecDepth 20000 in
theorem rX9_depth (v : mE) (d : Nat) (l0 : Nat) (l1 : Int32) : Rz v RX9 cX9_depth 3 (some .int) false emI (d + 9) 0 [(0, vR l0), (1, vI l1)] [] (fX9_depth l0 l1) := by
  unfold fX9_depth
  refine rz_aload_n 1 0 dX9_depth_0 rfl rfl ?_
  refine rz_iconst 2 dX9_depth_1 rfl ci_0 ?_
  refine rz_pI 5 dX9_depth_2 rfl rfl rfl rfl fl_X9_62 ?_
  refine rz_aload_n 6 0 dX9_depth_5 rfl rfl ?_
  refine rz_iconst 7 dX9_depth_6 rfl ci_0 ?_
  refine rz_pI 10 dX9_depth_7 rfl rfl rfl rfl fl_X9_65 ?_
  refine rz_aload_n 11 0 dX9_depth_10 rfl rfl ?_
  refine rz_iload_n 12 1 dX9_depth_11 rfl rfl ?_
  refine rz_callV 15 dX9_depth_12 rfl (tX9_isAhead v (d + 7) l0 l1) rfl rfl rfl rfl ml_X9_428 im_X9_isAhead se_X9_X9_isAhead in_X9 co_X9_isAhead rfl rfl (fun x1 => ?_)
  refine rz_if_ne 24 18 dX9_depth_15 rfl rfl ?_ ?_
  · refine rz_aload_n 25 0 dX9_depth_24 rfl rfl ?_
    refine rz_iload_n 26 1 dX9_depth_25 rfl rfl ?_
    refine rz_callV 29 dX9_depth_26 rfl (tX9_goAhead v (d + 0) l0 l1) rfl rfl rfl rfl ml_X9_431 im_X9_goAhead se_X9_X9_goAhead in_X9 co_X9_goAhead rfl rfl (fun _ => ?_)
    refine rz_aload_n 30 0 dX9_depth_29 rfl rfl ?_
    refine rz_callV 33 dX9_depth_30 rfl (tX9_depthNow v (d + 7) l0) rfl rfl rfl rfl ml_X9_324 im_X9_depthNow se_X9_X9_depthNow in_X9 co_X9_depthNow rfl rfl (fun x2 => ?_)
    refine rz_istore_n (lv' := [(2, vI x2), (0, vR l0), (1, vI l1)]) 34 dX9_depth_33 rfl rfl rfl ?_
    refine rz_aload_n 35 1 dX9_depth_34 rfl rfl ?_
    refine rz_callV 38 dX9_depth_35 rfl (tX9_takeAgain v (d + 8) l0) rfl rfl rfl rfl ml_X9_434 im_X9_takeAgain se_X9_X9_takeAgain in_X9 co_X9_takeAgain rfl rfl (fun _ => ?_)
    refine rz_iload_n 39 0 dX9_depth_38 rfl rfl ?_
    exact rz_ireturn rfl rfl dX9_depth_39
  · refine rz_aload_n 19 0 dX9_depth_18 rfl rfl ?_
    refine rz_iconst 20 dX9_depth_19 rfl ci_5 ?_
    refine rz_callV 23 dX9_depth_20 rfl (tX9_refuse v (d + 8) l0 (5 : Int32)) rfl rfl rfl rfl ml_X9_357 im_X9_refuse se_X9_X9_refuse in_X9 co_X9_refuse rfl rfl (fun x3 => ?_)
    exact rz_ireturn rfl rfl dX9_depth_23
theorem tX9_depth (v : mE) (d : Nat) (l0 : Nat) (l1 : Int32) : Mt v yX9_depth cX9_depth 3 (some .int) emI (d + 9) [vR l0, vI l1] (fX9_depth l0 l1) := mt_of rfl rfl (fun h => by cases h) rfl rfl (rX9_depth v d l0 l1)
theorem dX9_whoThen_0 : decode cX9_whoThen 0 = .ok (.aload_n 0, 1) := by decide +kernel
theorem dX9_whoThen_1 : decode cX9_whoThen 1 = .ok (.iconst 0, 1) := by decide +kernel
theorem dX9_whoThen_2 : decode cX9_whoThen 2 = .ok (.putfield 62, 3) := by decide +kernel
theorem dX9_whoThen_5 : decode cX9_whoThen 5 = .ok (.aload_n 0, 1) := by decide +kernel
theorem dX9_whoThen_6 : decode cX9_whoThen 6 = .ok (.iconst 0, 1) := by decide +kernel
theorem dX9_whoThen_7 : decode cX9_whoThen 7 = .ok (.putfield 65, 3) := by decide +kernel
theorem dX9_whoThen_10 : decode cX9_whoThen 10 = .ok (.aload_n 0, 1) := by decide +kernel
theorem dX9_whoThen_11 : decode cX9_whoThen 11 = .ok (.iload_n 1, 1) := by decide +kernel
theorem dX9_whoThen_12 : decode cX9_whoThen 12 = .ok (.invokevirtual 428, 3) := by decide +kernel
theorem dX9_whoThen_15 : decode cX9_whoThen 15 = .ok (.ifCond .ne 9, 3) := by decide +kernel
theorem dX9_whoThen_18 : decode cX9_whoThen 18 = .ok (.aload_n 0, 1) := by decide +kernel
theorem dX9_whoThen_19 : decode cX9_whoThen 19 = .ok (.iconst 5, 1) := by decide +kernel
theorem dX9_whoThen_20 : decode cX9_whoThen 20 = .ok (.invokevirtual 357, 3) := by decide +kernel
theorem dX9_whoThen_23 : decode cX9_whoThen 23 = .ok (.ireturn, 1) := by decide +kernel
theorem dX9_whoThen_24 : decode cX9_whoThen 24 = .ok (.aload_n 0, 1) := by decide +kernel
theorem dX9_whoThen_25 : decode cX9_whoThen 25 = .ok (.iload_n 1, 1) := by decide +kernel
theorem dX9_whoThen_26 : decode cX9_whoThen 26 = .ok (.invokevirtual 431, 3) := by decide +kernel
theorem dX9_whoThen_29 : decode cX9_whoThen 29 = .ok (.aload_n 0, 1) := by decide +kernel
theorem dX9_whoThen_30 : decode cX9_whoThen 30 = .ok (.invokevirtual 420, 3) := by decide +kernel
theorem dX9_whoThen_33 : decode cX9_whoThen 33 = .ok (.istore_n 2, 1) := by decide +kernel
theorem dX9_whoThen_34 : decode cX9_whoThen 34 = .ok (.aload_n 0, 1) := by decide +kernel
theorem dX9_whoThen_35 : decode cX9_whoThen 35 = .ok (.invokevirtual 434, 3) := by decide +kernel
theorem dX9_whoThen_38 : decode cX9_whoThen 38 = .ok (.iload_n 2, 1) := by decide +kernel
theorem dX9_whoThen_39 : decode cX9_whoThen 39 = .ok (.ireturn, 1) := by decide +kernel
def fX9_whoThen (l0 : Nat) (l1 : Int32) : mM Int32 := bPI 9 l0 1 (0 : Int32) (bPI 9 l0 0 (0 : Int32) (bCallV 9 l0 (fX9_isAhead l0 l1) (fun x1 => bIf (x1 = 0) (bCallV 9 l0 (fX9_refuse l0 (5 : Int32)) (fun x3 => bRet x3)) (bCallV 9 l0 (fX9_goAhead l0 l1) (fun _ => bCallV 9 l0 (fX9_drinkers l0) (fun x2 => bCallV 9 l0 (fX9_takeAgain l0) (fun _ => bRet x2)))))))
set_option maxRecDepth 20000 in
theorem rX9_whoThen (v : mE) (d : Nat) (l0 : Nat) (l1 : Int32) : Rz v RX9 cX9_whoThen 3 (some .int) false emI (d + 9) 0 [(0, vR l0), (1, vI l1)] [] (fX9_whoThen l0 l1) := by
  unfold fX9_whoThen
  refine rz_aload_n 1 0 dX9_whoThen_0 rfl rfl ?_
  refine rz_iconst 2 dX9_whoThen_1 rfl ci_0 ?_
  refine rz_pI 5 dX9_whoThen_2 rfl rfl rfl rfl fl_X9_62 ?_
  refine rz_aload_n 6 0 dX9_whoThen_5 rfl rfl ?_
  refine rz_iconst 7 dX9_whoThen_6 rfl ci_0 ?_
  refine rz_pI 10 dX9_whoThen_7 rfl rfl rfl rfl fl_X9_65 ?_
  refine rz_aload_n 11 0 dX9_whoThen_10 rfl rfl ?_
  refine rz_iload_n 12 1 dX9_whoThen_11 rfl rfl ?_
  refine rz_callV 15 dX9_whoThen_12 rfl (tX9_isAhead v (d + 7) l0 l1) rfl rfl rfl rfl ml_X9_428 im_X9_isAhead se_X9_X9_isAhead in_X9 co_X9_isAhead rfl rfl (fun x1 => ?_)
  refine rz_if_ne 24 18 dX9_whoThen_15 rfl rfl ?_ ?_
  · refine rz_aload_n 25 0 dX9_whoThen_24 rfl rfl ?_
    refine rz_iload_n 26 1 dX9_whoThen_25 rfl rfl ?_
    refine rz_callV 29 dX9_whoThen_26 rfl (tX9_goAhead v (d + 0) l0 l1) rfl rfl rfl rfl ml_X9_431 im_X9_goAhead se_X9_X9_goAhead in_X9 co_X9_goAhead rfl rfl (fun _ => ?_)
    refine rz_aload_n 30 0 dX9_whoThen_29 rfl rfl ?_
    refine rz_callV 33 dX9_whoThen_30 rfl (tX9_drinkers v (d + 4) l0) rfl rfl rfl rfl ml_X9_420 im_X9_drinkers se_X9_X9_drinkers in_X9 co_X9_drinkers rfl rfl (fun x2 => ?_)
    refine rz_istore_n (lv' := [(2, vI x2), (0, vR l0), (1, vI l1)]) 34 dX9_whoThen_33 rfl rfl rfl ?_
    refine rz_aload_n 35 1 dX9_whoThen_34 rfl rfl ?_
    refine rz_callV 38 dX9_whoThen_35 rfl (tX9_takeAgain v (d + 8) l0) rfl rfl rfl rfl ml_X9_434 im_X9_takeAgain se_X9_X9_takeAgain in_X9 co_X9_takeAgain rfl rfl (fun _ => ?_)
    refine rz_iload_n 39 0 dX9_whoThen_38 rfl rfl ?_
    exact rz_ireturn rfl rfl dX9_whoThen_39
  · refine rz_aload_n 19 0 dX9_whoThen_18 rfl rfl ?_
    refine rz_iconst 20 dX9_whoThen_19 rfl ci_5 ?_
    refine rz_callV 23 dX9_whoThen_20 rfl (tX9_refuse v (d + 8) l0 (5 : Int32)) rfl rfl rfl rfl ml_X9_357 im_X9_refuse se_X9_X9_refuse in_X9 co_X9_refuse rfl rfl (fun x3 => ?_)
    exact rz_ireturn rfl rfl dX9_whoThen_23
theorem tX9_whoThen (v : mE) (d : Nat) (l0 : Nat) (l1 : Int32) : Mt v yX9_whoThen cX9_whoThen 3 (some .int) emI (d + 9) [vR l0, vI l1] (fX9_whoThen l0 l1) := mt_of rfl rfl (fun h => by cases h) rfl rfl (rX9_whoThen v d l0 l1)
theorem dX9_owner_0 : decode cX9_owner 0 = .ok (.aload_n 0, 1) := by decide +kernel
theorem dX9_owner_1 : decode cX9_owner 1 = .ok (.iconst 0, 1) := by decide +kernel
theorem dX9_owner_2 : decode cX9_owner 2 = .ok (.putfield 62, 3) := by decide +kernel
theorem dX9_owner_5 : decode cX9_owner 5 = .ok (.aload_n 0, 1) := by decide +kernel
theorem dX9_owner_6 : decode cX9_owner 6 = .ok (.iconst 0, 1) := by decide +kernel
theorem dX9_owner_7 : decode cX9_owner 7 = .ok (.putfield 65, 3) := by decide +kernel
theorem dX9_owner_10 : decode cX9_owner 10 = .ok (.aload_n 0, 1) := by decide +kernel
theorem dX9_owner_11 : decode cX9_owner 11 = .ok (.iload_n 1, 1) := by decide +kernel
theorem dX9_owner_12 : decode cX9_owner 12 = .ok (.invokevirtual 318, 3) := by decide +kernel
theorem dX9_owner_15 : decode cX9_owner 15 = .ok (.ifCond .ne 9, 3) := by decide +kernel
theorem dX9_owner_18 : decode cX9_owner 18 = .ok (.aload_n 0, 1) := by decide +kernel
theorem dX9_owner_19 : decode cX9_owner 19 = .ok (.iconst 2, 1) := by decide +kernel
theorem dX9_owner_20 : decode cX9_owner 20 = .ok (.invokevirtual 357, 3) := by decide +kernel
theorem dX9_owner_23 : decode cX9_owner 23 = .ok (.ireturn, 1) := by decide +kernel
theorem dX9_owner_24 : decode cX9_owner 24 = .ok (.aload_n 0, 1) := by decide +kernel
theorem dX9_owner_25 : decode cX9_owner 25 = .ok (.iload_n 2, 1) := by decide +kernel
theorem dX9_owner_26 : decode cX9_owner 26 = .ok (.invokevirtual 428, 3) := by decide +kernel
theorem dX9_owner_29 : decode cX9_owner 29 = .ok (.ifCond .ne 9, 3) := by decide +kernel
theorem dX9_owner_32 : decode cX9_owner 32 = .ok (.aload_n 0, 1) := by decide +kernel
theorem dX9_owner_33 : decode cX9_owner 33 = .ok (.iconst 5, 1) := by decide +kernel
theorem dX9_owner_34 : decode cX9_owner 34 = .ok (.invokevirtual 357, 3) := by decide +kernel
theorem dX9_owner_37 : decode cX9_owner 37 = .ok (.ireturn, 1) := by decide +kernel
theorem dX9_owner_38 : decode cX9_owner 38 = .ok (.aload_n 0, 1) := by decide +kernel
theorem dX9_owner_39 : decode cX9_owner 39 = .ok (.iload_n 2, 1) := by decide +kernel
theorem dX9_owner_40 : decode cX9_owner 40 = .ok (.invokevirtual 431, 3) := by decide +kernel
theorem dX9_owner_43 : decode cX9_owner 43 = .ok (.aload_n 0, 1) := by decide +kernel
theorem dX9_owner_44 : decode cX9_owner 44 = .ok (.getfield 35, 3) := by decide +kernel
theorem dX9_owner_47 : decode cX9_owner 47 = .ok (.bipush 37, 2) := by decide +kernel
theorem dX9_owner_49 : decode cX9_owner 49 = .ok (.iload_n 1, 1) := by decide +kernel
theorem dX9_owner_50 : decode cX9_owner 50 = .ok (.iadd, 1) := by decide +kernel
theorem dX9_owner_51 : decode cX9_owner 51 = .ok (.iaload, 1) := by decide +kernel
theorem dX9_owner_52 : decode cX9_owner 52 = .ok (.istore_n 3, 1) := by decide +kernel
theorem dX9_owner_53 : decode cX9_owner 53 = .ok (.aload_n 0, 1) := by decide +kernel
theorem dX9_owner_54 : decode cX9_owner 54 = .ok (.invokevirtual 434, 3) := by decide +kernel
theorem dX9_owner_57 : decode cX9_owner 57 = .ok (.iload_n 3, 1) := by decide +kernel
theorem dX9_owner_58 : decode cX9_owner 58 = .ok (.ireturn, 1) := by decide +kernel
def fX9_owner (l0 : Nat) (l1 : Int32) (l2 : Int32) : mM Int32 := bPI 9 l0 1 (0 : Int32) (bPI 9 l0 0 (0 : Int32) (bCallV 9 l0 (fX9_isRope l0 l1) (fun x1 => bIf (x1 = 0) (bCallV 9 l0 (fX9_refuse l0 (2 : Int32)) (fun x6 => bRet x6)) (bCallV 9 l0 (fX9_isAhead l0 l2) (fun x2 => bIf (x2 = 0) (bCallV 9 l0 (fX9_refuse l0 (5 : Int32)) (fun x5 => bRet x5)) (bCallV 9 l0 (fX9_goAhead l0 l2) (fun _ => bGR 9 l0 24 (fun x3 => bAI 11 x3 ((37 : Int32) + l1) (fun x4 => bCallV 9 l0 (fX9_takeAgain l0) (fun _ => bRet x4))))))))))
set_option maxRecDepth 20000 in
theorem rX9_owner (v : mE) (d : Nat) (l0 : Nat) (l1 : Int32) (l2 : Int32) : Rz v RX9 cX9_owner 4 (some .int) false emI (d + 9) 0 [(0, vR l0), (1, vI l1), (2, vI l2)] [] (fX9_owner l0 l1 l2) := by
  unfold fX9_owner
  refine rz_aload_n 1 0 dX9_owner_0 rfl rfl ?_
  refine rz_iconst 2 dX9_owner_1 rfl ci_0 ?_
  refine rz_pI 5 dX9_owner_2 rfl rfl rfl rfl fl_X9_62 ?_
  refine rz_aload_n 6 0 dX9_owner_5 rfl rfl ?_
  refine rz_iconst 7 dX9_owner_6 rfl ci_0 ?_
  refine rz_pI 10 dX9_owner_7 rfl rfl rfl rfl fl_X9_65 ?_
  refine rz_aload_n 11 0 dX9_owner_10 rfl rfl ?_
  refine rz_iload_n 12 1 dX9_owner_11 rfl rfl ?_
  refine rz_callV 15 dX9_owner_12 rfl (tX9_isRope v (d + 7) l0 l1) rfl rfl rfl rfl ml_X9_318 im_X9_isRope se_X9_X9_isRope in_X9 co_X9_isRope rfl rfl (fun x1 => ?_)
  refine rz_if_ne 24 18 dX9_owner_15 rfl rfl ?_ ?_
  · refine rz_aload_n 25 0 dX9_owner_24 rfl rfl ?_
    refine rz_iload_n 26 2 dX9_owner_25 rfl rfl ?_
    refine rz_callV 29 dX9_owner_26 rfl (tX9_isAhead v (d + 7) l0 l2) rfl rfl rfl rfl ml_X9_428 im_X9_isAhead se_X9_X9_isAhead in_X9 co_X9_isAhead rfl rfl (fun x2 => ?_)
    refine rz_if_ne 38 32 dX9_owner_29 rfl rfl ?_ ?_
    · refine rz_aload_n 39 0 dX9_owner_38 rfl rfl ?_
      refine rz_iload_n 40 2 dX9_owner_39 rfl rfl ?_
      refine rz_callV 43 dX9_owner_40 rfl (tX9_goAhead v (d + 0) l0 l2) rfl rfl rfl rfl ml_X9_431 im_X9_goAhead se_X9_X9_goAhead in_X9 co_X9_goAhead rfl rfl (fun _ => ?_)
      refine rz_aload_n 44 0 dX9_owner_43 rfl rfl ?_
      refine rz_gR 47 dX9_owner_44 rfl rfl fl_X9_35 (fun x3 => ?_)
      refine rz_bipush 49 dX9_owner_47 rfl cb_37 ?_
      refine rz_iload_n 50 1 dX9_owner_49 rfl rfl ?_
      refine rz_iadd 51 dX9_owner_50 rfl ?_
      refine rz_iald 52 dX9_owner_51 rfl (fun x4 => ?_)
      refine rz_istore_n (lv' := [(3, vI x4), (0, vR l0), (1, vI l1), (2, vI l2)]) 53 dX9_owner_52 rfl rfl rfl ?_
      refine rz_aload_n 54 1 dX9_owner_53 rfl rfl ?_
      refine rz_callV 57 dX9_owner_54 rfl (tX9_takeAgain v (d + 8) l0) rfl rfl rfl rfl ml_X9_434 im_X9_takeAgain se_X9_X9_takeAgain in_X9 co_X9_takeAgain rfl rfl (fun _ => ?_)
      refine rz_iload_n 58 0 dX9_owner_57 rfl rfl ?_
      exact rz_ireturn rfl rfl dX9_owner_58
    · refine rz_aload_n 33 0 dX9_owner_32 rfl rfl ?_
      refine rz_iconst 34 dX9_owner_33 rfl ci_5 ?_
      refine rz_callV 37 dX9_owner_34 rfl (tX9_refuse v (d + 8) l0 (5 : Int32)) rfl rfl rfl rfl ml_X9_357 im_X9_refuse se_X9_X9_refuse in_X9 co_X9_refuse rfl rfl (fun x5 => ?_)
      exact rz_ireturn rfl rfl dX9_owner_37
  · refine rz_aload_n 19 0 dX9_owner_18 rfl rfl ?_
    refine rz_iconst 20 dX9_owner_19 rfl ci_2 ?_
    refine rz_callV 23 dX9_owner_20 rfl (tX9_refuse v (d + 8) l0 (2 : Int32)) rfl rfl rfl rfl ml_X9_357 im_X9_refuse se_X9_X9_refuse in_X9 co_X9_refuse rfl rfl (fun x6 => ?_)
    exact rz_ireturn rfl rfl dX9_owner_23
theorem tX9_owner (v : mE) (d : Nat) (l0 : Nat) (l1 : Int32) (l2 : Int32) : Mt v yX9_owner cX9_owner 4 (some .int) emI (d + 9) [vR l0, vI l1, vI l2] (fX9_owner l0 l1 l2) := mt_of rfl rfl (fun h => by cases h) rfl rfl (rX9_owner v d l0 l1 l2)
theorem dX9_thirst_0 : decode cX9_thirst 0 = .ok (.aload_n 0, 1) := by decide +kernel
theorem dX9_thirst_1 : decode cX9_thirst 1 = .ok (.iconst 0, 1) := by decide +kernel
theorem dX9_thirst_2 : decode cX9_thirst 2 = .ok (.putfield 62, 3) := by decide +kernel
theorem dX9_thirst_5 : decode cX9_thirst 5 = .ok (.aload_n 0, 1) := by decide +kernel
theorem dX9_thirst_6 : decode cX9_thirst 6 = .ok (.iconst 0, 1) := by decide +kernel
theorem dX9_thirst_7 : decode cX9_thirst 7 = .ok (.putfield 65, 3) := by decide +kernel
theorem dX9_thirst_10 : decode cX9_thirst 10 = .ok (.aload_n 0, 1) := by decide +kernel
theorem dX9_thirst_11 : decode cX9_thirst 11 = .ok (.iload_n 1, 1) := by decide +kernel
theorem dX9_thirst_12 : decode cX9_thirst 12 = .ok (.invokevirtual 360, 3) := by decide +kernel
theorem dX9_thirst_15 : decode cX9_thirst 15 = .ok (.ifCond .ne 9, 3) := by decide +kernel
theorem dX9_thirst_18 : decode cX9_thirst 18 = .ok (.aload_n 0, 1) := by decide +kernel
theorem dX9_thirst_19 : decode cX9_thirst 19 = .ok (.iconst 2, 1) := by decide +kernel
theorem dX9_thirst_20 : decode cX9_thirst 20 = .ok (.invokevirtual 357, 3) := by decide +kernel
theorem dX9_thirst_23 : decode cX9_thirst 23 = .ok (.ireturn, 1) := by decide +kernel
theorem dX9_thirst_24 : decode cX9_thirst 24 = .ok (.aload_n 0, 1) := by decide +kernel
theorem dX9_thirst_25 : decode cX9_thirst 25 = .ok (.invokevirtual 425, 3) := by decide +kernel
theorem dX9_thirst_28 : decode cX9_thirst 28 = .ok (.iconst (-1), 1) := by decide +kernel
theorem dX9_thirst_29 : decode cX9_thirst 29 = .ok (.istore_n 2, 1) := by decide +kernel
theorem dX9_thirst_30 : decode cX9_thirst 30 = .ok (.iconst 0, 1) := by decide +kernel
theorem dX9_thirst_31 : decode cX9_thirst 31 = .ok (.istore_n 3, 1) := by decide +kernel
theorem dX9_thirst_32 : decode cX9_thirst 32 = .ok (.iconst 1, 1) := by decide +kernel
theorem dX9_thirst_33 : decode cX9_thirst 33 = .ok (.istore 4, 2) := by decide +kernel
theorem dX9_thirst_35 : decode cX9_thirst 35 = .ok (.iload 4, 2) := by decide +kernel
theorem dX9_thirst_37 : decode cX9_thirst 37 = .ok (.ifCond .eq 65, 3) := by decide +kernel
theorem dX9_thirst_40 : decode cX9_thirst 40 = .ok (.aload_n 0, 1) := by decide +kernel
theorem dX9_thirst_41 : decode cX9_thirst 41 = .ok (.iload_n 1, 1) := by decide +kernel
theorem dX9_thirst_42 : decode cX9_thirst 42 = .ok (.invokevirtual 342, 3) := by decide +kernel
theorem dX9_thirst_45 : decode cX9_thirst 45 = .ok (.ifCond .eq 13, 3) := by decide +kernel
theorem dX9_thirst_48 : decode cX9_thirst 48 = .ok (.aload_n 0, 1) := by decide +kernel
theorem dX9_thirst_49 : decode cX9_thirst 49 = .ok (.iload_n 1, 1) := by decide +kernel
theorem dX9_thirst_50 : decode cX9_thirst 50 = .ok (.invokevirtual 351, 3) := by decide +kernel
theorem dX9_thirst_53 : decode cX9_thirst 53 = .ok (.ifCond .ne 5, 3) := by decide +kernel
theorem dX9_thirst_56 : decode cX9_thirst 56 = .ok (.iload_n 3, 1) := by decide +kernel
theorem dX9_thirst_57 : decode cX9_thirst 57 = .ok (.istore_n 2, 1) := by decide +kernel
theorem dX9_thirst_58 : decode cX9_thirst 58 = .ok (.iinc 3 1, 3) := by decide +kernel
theorem dX9_thirst_61 : decode cX9_thirst 61 = .ok (.iload_n 2, 1) := by decide +kernel
theorem dX9_thirst_62 : decode cX9_thirst 62 = .ok (.ifCond .ge 25, 3) := by decide +kernel
theorem dX9_thirst_65 : decode cX9_thirst 65 = .ok (.iload_n 3, 1) := by decide +kernel
theorem dX9_thirst_66 : decode cX9_thirst 66 = .ok (.bipush 100, 2) := by decide +kernel
theorem dX9_thirst_68 : decode cX9_thirst 68 = .ok (.if_icmp .gt 19, 3) := by decide +kernel
theorem dX9_thirst_71 : decode cX9_thirst 71 = .ok (.aload_n 0, 1) := by decide +kernel
theorem dX9_thirst_72 : decode cX9_thirst 72 = .ok (.getfield 35, 3) := by decide +kernel
theorem dX9_thirst_75 : decode cX9_thirst 75 = .ok (.iconst 5, 1) := by decide +kernel
theorem dX9_thirst_76 : decode cX9_thirst 76 = .ok (.iaload, 1) := by decide +kernel
theorem dX9_thirst_77 : decode cX9_thirst 77 = .ok (.sipush 200, 3) := by decide +kernel
theorem dX9_thirst_80 : decode cX9_thirst 80 = .ok (.if_icmp .ge 7, 3) := by decide +kernel
theorem dX9_thirst_83 : decode cX9_thirst 83 = .ok (.iconst 1, 1) := by decide +kernel
theorem dX9_thirst_84 : decode cX9_thirst 84 = .ok (.goto 4, 3) := by decide +kernel
theorem dX9_thirst_87 : decode cX9_thirst 87 = .ok (.iconst 0, 1) := by decide +kernel
theorem dX9_thirst_88 : decode cX9_thirst 88 = .ok (.istore 4, 2) := by decide +kernel
theorem dX9_thirst_90 : decode cX9_thirst 90 = .ok (.iload 4, 2) := by decide +kernel
theorem dX9_thirst_92 : decode cX9_thirst 92 = .ok (.ifCond .eq (-57), 3) := by decide +kernel
theorem dX9_thirst_95 : decode cX9_thirst 95 = .ok (.aload_n 0, 1) := by decide +kernel
theorem dX9_thirst_96 : decode cX9_thirst 96 = .ok (.invokevirtual 417, 3) := by decide +kernel
theorem dX9_thirst_99 : decode cX9_thirst 99 = .ok (.goto (-64), 3) := by decide +kernel
theorem dX9_thirst_102 : decode cX9_thirst 102 = .ok (.aload_n 0, 1) := by decide +kernel
theorem dX9_thirst_103 : decode cX9_thirst 103 = .ok (.invokevirtual 434, 3) := by decide +kernel
theorem dX9_thirst_106 : decode cX9_thirst 106 = .ok (.iload_n 2, 1) := by decide +kernel
theorem dX9_thirst_107 : decode cX9_thirst 107 = .ok (.ifCond .ge 12, 3) := by decide +kernel
theorem dX9_thirst_110 : decode cX9_thirst 110 = .ok (.aload_n 0, 1) := by decide +kernel
theorem dX9_thirst_111 : decode cX9_thirst 111 = .ok (.bipush 8, 2) := by decide +kernel
theorem dX9_thirst_113 : decode cX9_thirst 113 = .ok (.invokevirtual 357, 3) := by decide +kernel
theorem dX9_thirst_116 : decode cX9_thirst 116 = .ok (.goto 4, 3) := by decide +kernel
theorem dX9_thirst_119 : decode cX9_thirst 119 = .ok (.iload_n 2, 1) := by decide +kernel
theorem dX9_thirst_120 : decode cX9_thirst 120 = .ok (.ireturn, 1) := by decide +kernel
def fX9_thirst_102 (l0 : Nat) (l2 : Int32) : mM Int32 := bCallV 9 l0 (fX9_takeAgain l0) (fun _ => bIf (0 ≤ l2) (bRet l2) (bCallV 9 l0 (fX9_refuse l0 (8 : Int32)) (fun x1 => bRet x1)))
set_option maxRecDepth 20000 in
theorem rX9_thirst_102 (v : mE) (d : Nat) (l0 : Nat) (l2 : Int32) : Rz v RX9 cX9_thirst 5 (some .int) false emI (d + 8) 102 [(0, vR l0), (2, vI l2)] [] (fX9_thirst_102 l0 l2) := by
  unfold fX9_thirst_102
  refine rz_aload_n 103 0 dX9_thirst_102 rfl rfl ?_
  refine rz_callV 106 dX9_thirst_103 rfl (tX9_takeAgain v (d + 7) l0) rfl rfl rfl rfl ml_X9_434 im_X9_takeAgain se_X9_X9_takeAgain in_X9 co_X9_takeAgain rfl rfl (fun _ => ?_)
  refine rz_iload_n 107 1 dX9_thirst_106 rfl rfl ?_
  refine rz_if_ge 119 110 dX9_thirst_107 rfl rfl ?_ ?_
  · refine rz_iload_n 120 1 dX9_thirst_119 rfl rfl ?_
    exact rz_ireturn rfl rfl dX9_thirst_120
  · refine rz_aload_n 111 0 dX9_thirst_110 rfl rfl ?_
    refine rz_bipush 113 dX9_thirst_111 rfl cb_8 ?_
    refine rz_callV 116 dX9_thirst_113 rfl (tX9_refuse v (d + 7) l0 (8 : Int32)) rfl rfl rfl rfl ml_X9_357 im_X9_refuse se_X9_X9_refuse in_X9 co_X9_refuse rfl rfl (fun x1 => ?_)
    refine rz_goto 120 dX9_thirst_116 rfl ?_
    exact rz_ireturn rfl rfl dX9_thirst_120
def fX9_thirst_88 (r35 : Nat → Int32 → Int32 → Int32 → Int32 → mM Int32) (l0 : Nat) (l1 : Int32) (l2 : Int32) (l3 : Int32) (s0 : Int32) : mM Int32 := bIf (s0 = 0) (r35 l0 l1 l2 l3 s0) (bCallV 9 l0 (fX9_oneYear l0) (fun _ => r35 l0 l1 l2 l3 s0))
set_option maxRecDepth 20000 in
theorem rX9_thirst_88 (v : mE) (d : Nat) (r35 : Nat → Int32 → Int32 → Int32 → Int32 → mM Int32) (h35 : ∀ (y0 : Nat) (y1 : Int32) (y2 : Int32) (y3 : Int32) (y4 : Int32), Rz v RX9 cX9_thirst 5 (some .int) false emI (d + 8) 35 [(0, vR y0), (1, vI y1), (2, vI y2), (3, vI y3), (4, vI y4)] [] (r35 y0 y1 y2 y3 y4)) (l0 : Nat) (l1 : Int32) (l2 : Int32) (l3 : Int32) (s0 : Int32) : Rz v RX9 cX9_thirst 5 (some .int) false emI (d + 8) 88 [(0, vR l0), (1, vI l1), (2, vI l2), (3, vI l3)] [vI s0] (fX9_thirst_88 r35 l0 l1 l2 l3 s0) := by
  unfold fX9_thirst_88
  refine rz_istore (lv' := [(4, vI s0), (0, vR l0), (1, vI l1), (2, vI l2), (3, vI l3)]) 90 dX9_thirst_88 rfl rfl rfl ?_
  refine rz_iload 92 0 dX9_thirst_90 rfl rfl ?_
  refine rz_if_eq 35 95 dX9_thirst_92 rfl rfl ?_ ?_
  · exact rz_sub [1, 2, 3, 4, 0] rfl (h35 l0 l1 l2 l3 s0)
  · refine rz_aload_n 96 1 dX9_thirst_95 rfl rfl ?_
    refine rz_callV 99 dX9_thirst_96 rfl (tX9_oneYear v (d + 0) l0) rfl rfl rfl rfl ml_X9_417 im_X9_oneYear se_X9_X9_oneYear in_X9 co_X9_oneYear rfl rfl (fun _ => ?_)
    refine rz_goto 35 dX9_thirst_99 rfl ?_
    exact rz_sub [1, 2, 3, 4, 0] rfl (h35 l0 l1 l2 l3 s0)
def fX9_thirst_87 (r35 : Nat → Int32 → Int32 → Int32 → Int32 → mM Int32) (l0 : Nat) (l1 : Int32) (l2 : Int32) (l3 : Int32) : mM Int32 := fX9_thirst_88 r35 l0 l1 l2 l3 (0 : Int32)
set_option maxRecDepth 20000 in
theorem rX9_thirst_87 (v : mE) (d : Nat) (r35 : Nat → Int32 → Int32 → Int32 → Int32 → mM Int32) (h35 : ∀ (y0 : Nat) (y1 : Int32) (y2 : Int32) (y3 : Int32) (y4 : Int32), Rz v RX9 cX9_thirst 5 (some .int) false emI (d + 8) 35 [(0, vR y0), (1, vI y1), (2, vI y2), (3, vI y3), (4, vI y4)] [] (r35 y0 y1 y2 y3 y4)) (l0 : Nat) (l1 : Int32) (l2 : Int32) (l3 : Int32) : Rz v RX9 cX9_thirst 5 (some .int) false emI (d + 8) 87 [(0, vR l0), (1, vI l1), (2, vI l2), (3, vI l3)] [] (fX9_thirst_87 r35 l0 l1 l2 l3) := by
  unfold fX9_thirst_87
  refine rz_iconst 88 dX9_thirst_87 rfl ci_0 ?_
  exact rz_sub [0, 1, 2, 3] rfl (rX9_thirst_88 v d r35 h35 l0 l1 l2 l3 (0 : Int32))
def fX9_thirst_58 (r35 : Nat → Int32 → Int32 → Int32 → Int32 → mM Int32) (l0 : Nat) (l1 : Int32) (l2 : Int32) (l3 : Int32) : mM Int32 := bIf (0 ≤ l2) (fX9_thirst_87 r35 l0 l1 l2 (l3 + 1)) (bIf ((100 : Int32) < (l3 + 1)) (fX9_thirst_87 r35 l0 l1 l2 (l3 + 1)) (bGR 9 l0 24 (fun x1 => bAI 11 x1 (5 : Int32) (fun x2 => bIf ((200 : Int32) ≤ x2) (fX9_thirst_87 r35 l0 l1 l2 (l3 + 1)) (fX9_thirst_88 r35 l0 l1 l2 (l3 + 1) (1 : Int32))))))
set_option maxRecDepth 20000 in
theorem rX9_thirst_58 (v : mE) (d : Nat) (r35 : Nat → Int32 → Int32 → Int32 → Int32 → mM Int32) (h35 : ∀ (y0 : Nat) (y1 : Int32) (y2 : Int32) (y3 : Int32) (y4 : Int32), Rz v RX9 cX9_thirst 5 (some .int) false emI (d + 8) 35 [(0, vR y0), (1, vI y1), (2, vI y2), (3, vI y3), (4, vI y4)] [] (r35 y0 y1 y2 y3 y4)) (l0 : Nat) (l1 : Int32) (l2 : Int32) (l3 : Int32) : Rz v RX9 cX9_thirst 5 (some .int) false emI (d + 8) 58 [(0, vR l0), (1, vI l1), (2, vI l2), (3, vI l3)] [] (fX9_thirst_58 r35 l0 l1 l2 l3) := by
  unfold fX9_thirst_58
  refine rz_iinc (lv' := [(3, vI (l3 + 1)), (0, vR l0), (1, vI l1), (2, vI l2)]) 61 3 dX9_thirst_58 rfl rfl (cn_1 _) rfl rfl ?_
  refine rz_iload_n 62 3 dX9_thirst_61 rfl rfl ?_
  refine rz_if_ge 87 65 dX9_thirst_62 rfl rfl ?_ ?_
  · exact rz_sub [1, 2, 3, 0] rfl (rX9_thirst_87 v d r35 h35 l0 l1 l2 (l3 + 1))
  · refine rz_iload_n 66 0 dX9_thirst_65 rfl rfl ?_
    refine rz_bipush 68 dX9_thirst_66 rfl cb_100 ?_
    refine rz_icmp_gt 87 71 dX9_thirst_68 rfl rfl ?_ ?_
    · exact rz_sub [1, 2, 3, 0] rfl (rX9_thirst_87 v d r35 h35 l0 l1 l2 (l3 + 1))
    · refine rz_aload_n 72 1 dX9_thirst_71 rfl rfl ?_
      refine rz_gR 75 dX9_thirst_72 rfl rfl fl_X9_35 (fun x1 => ?_)
      refine rz_iconst 76 dX9_thirst_75 rfl ci_5 ?_
      refine rz_iald 77 dX9_thirst_76 rfl (fun x2 => ?_)
      refine rz_sipush 80 dX9_thirst_77 rfl cs_200 ?_
      refine rz_icmp_ge 87 83 dX9_thirst_80 rfl rfl ?_ ?_
      · exact rz_sub [1, 2, 3, 0] rfl (rX9_thirst_87 v d r35 h35 l0 l1 l2 (l3 + 1))
      · refine rz_iconst 84 dX9_thirst_83 rfl ci_1 ?_
        refine rz_goto 88 dX9_thirst_84 rfl ?_
        exact rz_sub [1, 2, 3, 0] rfl (rX9_thirst_88 v d r35 h35 l0 l1 l2 (l3 + 1) (1 : Int32))
def fX9_thirst_35 : Nat → Nat → Int32 → Int32 → Int32 → Int32 → mM Int32
  | 0 => fun _ _ _ _ _ => fun _ => none
  | n + 1 => fun l0 l1 l2 l3 l4 => let r35 := fX9_thirst_35 n; bIf (l4 = 0) (fX9_thirst_102 l0 l2) (bCallV 9 l0 (fX9_isAlive l0 l1) (fun x1 => bIf (x1 = 0) (fX9_thirst_58 r35 l0 l1 l2 l3) (bCallV 9 l0 (fX9_isDrinking l0 l1) (fun x2 => bIf (x2 = 0) (fX9_thirst_58 r35 l0 l1 l3 l3) (fX9_thirst_58 r35 l0 l1 l2 l3)))))
theorem qX9_thirst_35  (n : Nat) (l0 : Nat) (l1 : Int32) (l2 : Int32) (l3 : Int32) (l4 : Int32) : fX9_thirst_35 (n + 1) l0 l1 l2 l3 l4 = bIf (l4 = 0) (fX9_thirst_102 l0 l2) (bCallV 9 l0 (fX9_isAlive l0 l1) (fun x1 => bIf (x1 = 0) (fX9_thirst_58 (fX9_thirst_35 n) l0 l1 l2 l3) (bCallV 9 l0 (fX9_isDrinking l0 l1) (fun x2 => bIf (x2 = 0) (fX9_thirst_58 (fX9_thirst_35 n) l0 l1 l3 l3) (fX9_thirst_58 (fX9_thirst_35 n) l0 l1 l2 l3))))) := rfl
set_option maxRecDepth 20000 in
theorem rX9_thirst_35 (v : mE) (d : Nat) : ∀ (n : Nat) (l0 : Nat) (l1 : Int32) (l2 : Int32) (l3 : Int32) (l4 : Int32), Rz v RX9 cX9_thirst 5 (some .int) false emI (d + 8) 35 [(0, vR l0), (1, vI l1), (2, vI l2), (3, vI l3), (4, vI l4)] [] (fX9_thirst_35 n l0 l1 l2 l3 l4)
  | 0, _, _, _, _, _ => fun _ _ _ hm => by cases hm
  | n + 1, l0, l1, l2, l3, l4 => by
    have h35 := rX9_thirst_35 v d n
    unfold fX9_thirst_35
    generalize fX9_thirst_35 n = r35 at h35 ⊢
    refine rz_iload 37 4 dX9_thirst_35 rfl rfl ?_
    refine rz_if_eq 102 40 dX9_thirst_37 rfl rfl ?_ ?_
    · exact rz_sub [0, 2] rfl (rX9_thirst_102 v d l0 l2)
    · refine rz_aload_n 41 0 dX9_thirst_40 rfl rfl ?_
      refine rz_iload_n 42 1 dX9_thirst_41 rfl rfl ?_
      refine rz_callV 45 dX9_thirst_42 rfl (tX9_isAlive v (d + 7) l0 l1) rfl rfl rfl rfl ml_X9_342 im_X9_isAlive se_X9_X9_isAlive in_X9 co_X9_isAlive rfl rfl (fun x1 => ?_)
      refine rz_if_eq 58 48 dX9_thirst_45 rfl rfl ?_ ?_
      · exact rz_sub [0, 1, 2, 3] rfl (rX9_thirst_58 v d r35 h35 l0 l1 l2 l3)
      · refine rz_aload_n 49 0 dX9_thirst_48 rfl rfl ?_
        refine rz_iload_n 50 1 dX9_thirst_49 rfl rfl ?_
        refine rz_callV 53 dX9_thirst_50 rfl (tX9_isDrinking v (d + 4) l0 l1) rfl rfl rfl rfl ml_X9_351 im_X9_isDrinking se_X9_X9_isDrinking in_X9 co_X9_isDrinking rfl rfl (fun x2 => ?_)
        refine rz_if_ne 58 56 dX9_thirst_53 rfl rfl ?_ ?_
        · exact rz_sub [0, 1, 2, 3] rfl (rX9_thirst_58 v d r35 h35 l0 l1 l2 l3)
        · refine rz_iload_n 57 3 dX9_thirst_56 rfl rfl ?_
          refine rz_istore_n (lv' := [(2, vI l3), (0, vR l0), (1, vI l1), (3, vI l3), (4, vI l4)]) 58 dX9_thirst_57 rfl rfl rfl ?_
          exact rz_sub [1, 2, 0, 3] rfl (rX9_thirst_58 v d r35 h35 l0 l1 l3 l3)
def fX9_thirst (l0 : Nat) (l1 : Int32) : mM Int32 := bPI 9 l0 1 (0 : Int32) (bPI 9 l0 0 (0 : Int32) (bCallV 9 l0 (fX9_isPerson l0 l1) (fun x1 => bIf (x1 = 0) (bCallV 9 l0 (fX9_refuse l0 (2 : Int32)) (fun x2 => bRet x2)) (bCallV 9 l0 (fX9_keep l0) (fun _ => fX9_thirst_35 fu l0 l1 (-1 : Int32) (0 : Int32) (1 : Int32))))))
set_option maxRecDepth 20000 in
theorem rX9_thirst (v : mE) (d : Nat) (l0 : Nat) (l1 : Int32) : Rz v RX9 cX9_thirst 5 (some .int) false emI (d + 8) 0 [(0, vR l0), (1, vI l1)] [] (fX9_thirst l0 l1) := by
  unfold fX9_thirst
  refine rz_aload_n 1 0 dX9_thirst_0 rfl rfl ?_
  refine rz_iconst 2 dX9_thirst_1 rfl ci_0 ?_
  refine rz_pI 5 dX9_thirst_2 rfl rfl rfl rfl fl_X9_62 ?_
  refine rz_aload_n 6 0 dX9_thirst_5 rfl rfl ?_
  refine rz_iconst 7 dX9_thirst_6 rfl ci_0 ?_
  refine rz_pI 10 dX9_thirst_7 rfl rfl rfl rfl fl_X9_65 ?_
  refine rz_aload_n 11 0 dX9_thirst_10 rfl rfl ?_
  refine rz_iload_n 12 1 dX9_thirst_11 rfl rfl ?_
  refine rz_callV 15 dX9_thirst_12 rfl (tX9_isPerson v (d + 6) l0 l1) rfl rfl rfl rfl ml_X9_360 im_X9_isPerson se_X9_X9_isPerson in_X9 co_X9_isPerson rfl rfl (fun x1 => ?_)
  refine rz_if_ne 24 18 dX9_thirst_15 rfl rfl ?_ ?_
  · refine rz_aload_n 25 0 dX9_thirst_24 rfl rfl ?_
    refine rz_callV 28 dX9_thirst_25 rfl (tX9_keep v (d + 7) l0) rfl rfl rfl rfl ml_X9_425 im_X9_keep se_X9_X9_keep in_X9 co_X9_keep rfl rfl (fun _ => ?_)
    refine rz_iconst 29 dX9_thirst_28 rfl ci_m1 ?_
    refine rz_istore_n (lv' := [(2, vI (-1 : Int32)), (0, vR l0), (1, vI l1)]) 30 dX9_thirst_29 rfl rfl rfl ?_
    refine rz_iconst 31 dX9_thirst_30 rfl ci_0 ?_
    refine rz_istore_n (lv' := [(3, vI (0 : Int32)), (2, vI (-1 : Int32)), (0, vR l0), (1, vI l1)]) 32 dX9_thirst_31 rfl rfl rfl ?_
    refine rz_iconst 33 dX9_thirst_32 rfl ci_1 ?_
    refine rz_istore (lv' := [(4, vI (1 : Int32)), (3, vI (0 : Int32)), (2, vI (-1 : Int32)), (0, vR l0), (1, vI l1)]) 35 dX9_thirst_33 rfl rfl rfl ?_
    exact rz_sub [3, 4, 2, 1, 0] rfl (rX9_thirst_35 v d fu l0 l1 (-1 : Int32) (0 : Int32) (1 : Int32))
  · refine rz_aload_n 19 0 dX9_thirst_18 rfl rfl ?_
    refine rz_iconst 20 dX9_thirst_19 rfl ci_2 ?_
    refine rz_callV 23 dX9_thirst_20 rfl (tX9_refuse v (d + 7) l0 (2 : Int32)) rfl rfl rfl rfl ml_X9_357 im_X9_refuse se_X9_X9_refuse in_X9 co_X9_refuse rfl rfl (fun x2 => ?_)
    exact rz_ireturn rfl rfl dX9_thirst_23
theorem tX9_thirst (v : mE) (d : Nat) (l0 : Nat) (l1 : Int32) : Mt v yX9_thirst cX9_thirst 5 (some .int) emI (d + 8) [vR l0, vI l1] (fX9_thirst l0 l1) := mt_of rfl rfl (fun h => by cases h) rfl rfl (rX9_thirst v d l0 l1)
theorem dX9_last_0 : decode cX9_last 0 = .ok (.aload_n 0, 1) := by decide +kernel
theorem dX9_last_1 : decode cX9_last 1 = .ok (.iconst 0, 1) := by decide +kernel
theorem dX9_last_2 : decode cX9_last 2 = .ok (.putfield 62, 3) := by decide +kernel
theorem dX9_last_5 : decode cX9_last 5 = .ok (.aload_n 0, 1) := by decide +kernel
theorem dX9_last_6 : decode cX9_last 6 = .ok (.iconst 0, 1) := by decide +kernel
theorem dX9_last_7 : decode cX9_last 7 = .ok (.putfield 65, 3) := by decide +kernel
theorem dX9_last_10 : decode cX9_last 10 = .ok (.iload_n 1, 1) := by decide +kernel
theorem dX9_last_11 : decode cX9_last 11 = .ok (.i2l, 1) := by decide +kernel
theorem dX9_last_12 : decode cX9_last 12 = .ok (.lconst 0, 1) := by decide +kernel
theorem dX9_last_13 : decode cX9_last 13 = .ok (.lconst 1, 1) := by decide +kernel
theorem dX9_last_14 : decode cX9_last 14 = .ok (.invokestatic 97, 3) := by decide +kernel
theorem dX9_last_17 : decode cX9_last 17 = .ok (.ifCond .ne 9, 3) := by decide +kernel
theorem dX9_last_20 : decode cX9_last 20 = .ok (.aload_n 0, 1) := by decide +kernel
theorem dX9_last_21 : decode cX9_last 21 = .ok (.iconst 5, 1) := by decide +kernel
theorem dX9_last_22 : decode cX9_last 22 = .ok (.invokevirtual 357, 3) := by decide +kernel
theorem dX9_last_25 : decode cX9_last 25 = .ok (.ireturn, 1) := by decide +kernel
theorem dX9_last_26 : decode cX9_last 26 = .ok (.aload_n 0, 1) := by decide +kernel
theorem dX9_last_27 : decode cX9_last 27 = .ok (.invokevirtual 425, 3) := by decide +kernel
theorem dX9_last_30 : decode cX9_last 30 = .ok (.iconst (-1), 1) := by decide +kernel
theorem dX9_last_31 : decode cX9_last 31 = .ok (.istore_n 2, 1) := by decide +kernel
theorem dX9_last_32 : decode cX9_last 32 = .ok (.iconst (-1), 1) := by decide +kernel
theorem dX9_last_33 : decode cX9_last 33 = .ok (.istore_n 3, 1) := by decide +kernel
theorem dX9_last_34 : decode cX9_last 34 = .ok (.iconst 0, 1) := by decide +kernel
theorem dX9_last_35 : decode cX9_last 35 = .ok (.istore 4, 2) := by decide +kernel
theorem dX9_last_37 : decode cX9_last 37 = .ok (.iconst 1, 1) := by decide +kernel
theorem dX9_last_38 : decode cX9_last 38 = .ok (.istore 5, 2) := by decide +kernel
theorem dX9_last_40 : decode cX9_last 40 = .ok (.iload 5, 2) := by decide +kernel
theorem dX9_last_42 : decode cX9_last 42 = .ok (.ifCond .eq 65, 3) := by decide +kernel
theorem dX9_last_45 : decode cX9_last 45 = .ok (.aload_n 0, 1) := by decide +kernel
theorem dX9_last_46 : decode cX9_last 46 = .ok (.invokevirtual 420, 3) := by decide +kernel
theorem dX9_last_49 : decode cX9_last 49 = .ok (.istore 6, 2) := by decide +kernel
theorem dX9_last_51 : decode cX9_last 51 = .ok (.iload 6, 2) := by decide +kernel
theorem dX9_last_53 : decode cX9_last 53 = .ok (.ifCond .eq 13, 3) := by decide +kernel
theorem dX9_last_56 : decode cX9_last 56 = .ok (.iload 4, 2) := by decide +kernel
theorem dX9_last_58 : decode cX9_last 58 = .ok (.istore_n 2, 1) := by decide +kernel
theorem dX9_last_59 : decode cX9_last 59 = .ok (.aload_n 0, 1) := by decide +kernel
theorem dX9_last_60 : decode cX9_last 60 = .ok (.iload 6, 2) := by decide +kernel
theorem dX9_last_62 : decode cX9_last 62 = .ok (.invokevirtual 408, 3) := by decide +kernel
theorem dX9_last_65 : decode cX9_last 65 = .ok (.istore_n 3, 1) := by decide +kernel
theorem dX9_last_66 : decode cX9_last 66 = .ok (.iinc 4 1, 3) := by decide +kernel
theorem dX9_last_69 : decode cX9_last 69 = .ok (.iload 4, 2) := by decide +kernel
theorem dX9_last_71 : decode cX9_last 71 = .ok (.bipush 100, 2) := by decide +kernel
theorem dX9_last_73 : decode cX9_last 73 = .ok (.if_icmp .gt 19, 3) := by decide +kernel
theorem dX9_last_76 : decode cX9_last 76 = .ok (.aload_n 0, 1) := by decide +kernel
theorem dX9_last_77 : decode cX9_last 77 = .ok (.getfield 35, 3) := by decide +kernel
theorem dX9_last_80 : decode cX9_last 80 = .ok (.iconst 5, 1) := by decide +kernel
theorem dX9_last_81 : decode cX9_last 81 = .ok (.iaload, 1) := by decide +kernel
theorem dX9_last_82 : decode cX9_last 82 = .ok (.sipush 200, 3) := by decide +kernel
theorem dX9_last_85 : decode cX9_last 85 = .ok (.if_icmp .ge 7, 3) := by decide +kernel
theorem dX9_last_88 : decode cX9_last 88 = .ok (.iconst 1, 1) := by decide +kernel
theorem dX9_last_89 : decode cX9_last 89 = .ok (.goto 4, 3) := by decide +kernel
theorem dX9_last_92 : decode cX9_last 92 = .ok (.iconst 0, 1) := by decide +kernel
theorem dX9_last_93 : decode cX9_last 93 = .ok (.istore 5, 2) := by decide +kernel
theorem dX9_last_95 : decode cX9_last 95 = .ok (.iload 5, 2) := by decide +kernel
theorem dX9_last_97 : decode cX9_last 97 = .ok (.ifCond .eq 7, 3) := by decide +kernel
theorem dX9_last_100 : decode cX9_last 100 = .ok (.aload_n 0, 1) := by decide +kernel
theorem dX9_last_101 : decode cX9_last 101 = .ok (.invokevirtual 417, 3) := by decide +kernel
theorem dX9_last_104 : decode cX9_last 104 = .ok (.goto (-64), 3) := by decide +kernel
theorem dX9_last_107 : decode cX9_last 107 = .ok (.aload_n 0, 1) := by decide +kernel
theorem dX9_last_108 : decode cX9_last 108 = .ok (.invokevirtual 434, 3) := by decide +kernel
theorem dX9_last_111 : decode cX9_last 111 = .ok (.iload_n 2, 1) := by decide +kernel
theorem dX9_last_112 : decode cX9_last 112 = .ok (.ifCond .ge 12, 3) := by decide +kernel
theorem dX9_last_115 : decode cX9_last 115 = .ok (.aload_n 0, 1) := by decide +kernel
theorem dX9_last_116 : decode cX9_last 116 = .ok (.bipush 8, 2) := by decide +kernel
theorem dX9_last_118 : decode cX9_last 118 = .ok (.invokevirtual 357, 3) := by decide +kernel
theorem dX9_last_121 : decode cX9_last 121 = .ok (.goto 12, 3) := by decide +kernel
theorem dX9_last_124 : decode cX9_last 124 = .ok (.iload_n 1, 1) := by decide +kernel
theorem dX9_last_125 : decode cX9_last 125 = .ok (.ifCond .ne 7, 3) := by decide +kernel
theorem dX9_last_128 : decode cX9_last 128 = .ok (.iload_n 3, 1) := by decide +kernel
theorem dX9_last_129 : decode cX9_last 129 = .ok (.goto 4, 3) := by decide +kernel
theorem dX9_last_132 : decode cX9_last 132 = .ok (.iload_n 2, 1) := by decide +kernel
theorem dX9_last_133 : decode cX9_last 133 = .ok (.ireturn, 1) := by decide +kernel
def fX9_last_107 (l0 : Nat) (l1 : Int32) (l2 : Int32) (l3 : Int32) : mM Int32 := bCallV 9 l0 (fX9_takeAgain l0) (fun _ => bIf (0 ≤ l2) (bIf (l1 = 0) (bRet l3) (bRet l2)) (bCallV 9 l0 (fX9_refuse l0 (8 : Int32)) (fun x1 => bRet x1)))
set_option maxRecDepth 20000 in
theorem rX9_last_107 (v : mE) (d : Nat) (l0 : Nat) (l1 : Int32) (l2 : Int32) (l3 : Int32) : Rz v RX9 cX9_last 7 (some .int) false emI (d + 8) 107 [(0, vR l0), (1, vI l1), (2, vI l2), (3, vI l3)] [] (fX9_last_107 l0 l1 l2 l3) := by
  unfold fX9_last_107
  refine rz_aload_n 108 0 dX9_last_107 rfl rfl ?_
  refine rz_callV 111 dX9_last_108 rfl (tX9_takeAgain v (d + 7) l0) rfl rfl rfl rfl ml_X9_434 im_X9_takeAgain se_X9_X9_takeAgain in_X9 co_X9_takeAgain rfl rfl (fun _ => ?_)
  refine rz_iload_n 112 2 dX9_last_111 rfl rfl ?_
  refine rz_if_ge 124 115 dX9_last_112 rfl rfl ?_ ?_
  · refine rz_iload_n 125 1 dX9_last_124 rfl rfl ?_
    refine rz_if_ne 132 128 dX9_last_125 rfl rfl ?_ ?_
    · refine rz_iload_n 133 2 dX9_last_132 rfl rfl ?_
      exact rz_ireturn rfl rfl dX9_last_133
    · refine rz_iload_n 129 3 dX9_last_128 rfl rfl ?_
      refine rz_goto 133 dX9_last_129 rfl ?_
      exact rz_ireturn rfl rfl dX9_last_133
  · refine rz_aload_n 116 0 dX9_last_115 rfl rfl ?_
    refine rz_bipush 118 dX9_last_116 rfl cb_8 ?_
    refine rz_callV 121 dX9_last_118 rfl (tX9_refuse v (d + 7) l0 (8 : Int32)) rfl rfl rfl rfl ml_X9_357 im_X9_refuse se_X9_X9_refuse in_X9 co_X9_refuse rfl rfl (fun x1 => ?_)
    refine rz_goto 133 dX9_last_121 rfl ?_
    exact rz_ireturn rfl rfl dX9_last_133
def fX9_last_93 (r40 : Nat → Int32 → Int32 → Int32 → Int32 → Int32 → mM Int32) (l0 : Nat) (l1 : Int32) (l2 : Int32) (l3 : Int32) (l4 : Int32) (s0 : Int32) : mM Int32 := bIf (s0 = 0) (r40 l0 l1 l2 l3 l4 s0) (bCallV 9 l0 (fX9_oneYear l0) (fun _ => r40 l0 l1 l2 l3 l4 s0))
set_option maxRecDepth 20000 in
theorem rX9_last_93 (v : mE) (d : Nat) (r40 : Nat → Int32 → Int32 → Int32 → Int32 → Int32 → mM Int32) (h40 : ∀ (y0 : Nat) (y1 : Int32) (y2 : Int32) (y3 : Int32) (y4 : Int32) (y5 : Int32), Rz v RX9 cX9_last 7 (some .int) false emI (d + 8) 40 [(0, vR y0), (1, vI y1), (2, vI y2), (3, vI y3), (4, vI y4), (5, vI y5)] [] (r40 y0 y1 y2 y3 y4 y5)) (l0 : Nat) (l1 : Int32) (l2 : Int32) (l3 : Int32) (l4 : Int32) (s0 : Int32) : Rz v RX9 cX9_last 7 (some .int) false emI (d + 8) 93 [(0, vR l0), (1, vI l1), (2, vI l2), (3, vI l3), (4, vI l4)] [vI s0] (fX9_last_93 r40 l0 l1 l2 l3 l4 s0) := by
  unfold fX9_last_93
  refine rz_istore (lv' := [(5, vI s0), (0, vR l0), (1, vI l1), (2, vI l2), (3, vI l3), (4, vI l4)]) 95 dX9_last_93 rfl rfl rfl ?_
  refine rz_iload 97 0 dX9_last_95 rfl rfl ?_
  refine rz_if_eq 104 100 dX9_last_97 rfl rfl ?_ ?_
  · refine rz_goto 40 dX9_last_104 rfl ?_
    exact rz_sub [1, 2, 3, 4, 5, 0] rfl (h40 l0 l1 l2 l3 l4 s0)
  · refine rz_aload_n 101 1 dX9_last_100 rfl rfl ?_
    refine rz_callV 104 dX9_last_101 rfl (tX9_oneYear v (d + 0) l0) rfl rfl rfl rfl ml_X9_417 im_X9_oneYear se_X9_X9_oneYear in_X9 co_X9_oneYear rfl rfl (fun _ => ?_)
    refine rz_goto 40 dX9_last_104 rfl ?_
    exact rz_sub [1, 2, 3, 4, 5, 0] rfl (h40 l0 l1 l2 l3 l4 s0)
def fX9_last_92 (r40 : Nat → Int32 → Int32 → Int32 → Int32 → Int32 → mM Int32) (l0 : Nat) (l1 : Int32) (l2 : Int32) (l3 : Int32) (l4 : Int32) : mM Int32 := fX9_last_93 r40 l0 l1 l2 l3 l4 (0 : Int32)
set_option maxRecDepth 20000 in
theorem rX9_last_92 (v : mE) (d : Nat) (r40 : Nat → Int32 → Int32 → Int32 → Int32 → Int32 → mM Int32) (h40 : ∀ (y0 : Nat) (y1 : Int32) (y2 : Int32) (y3 : Int32) (y4 : Int32) (y5 : Int32), Rz v RX9 cX9_last 7 (some .int) false emI (d + 8) 40 [(0, vR y0), (1, vI y1), (2, vI y2), (3, vI y3), (4, vI y4), (5, vI y5)] [] (r40 y0 y1 y2 y3 y4 y5)) (l0 : Nat) (l1 : Int32) (l2 : Int32) (l3 : Int32) (l4 : Int32) : Rz v RX9 cX9_last 7 (some .int) false emI (d + 8) 92 [(0, vR l0), (1, vI l1), (2, vI l2), (3, vI l3), (4, vI l4)] [] (fX9_last_92 r40 l0 l1 l2 l3 l4) := by
  unfold fX9_last_92
  refine rz_iconst 93 dX9_last_92 rfl ci_0 ?_
  exact rz_sub [0, 1, 2, 3, 4] rfl (rX9_last_93 v d r40 h40 l0 l1 l2 l3 l4 (0 : Int32))
def fX9_last_66 (r40 : Nat → Int32 → Int32 → Int32 → Int32 → Int32 → mM Int32) (l0 : Nat) (l1 : Int32) (l2 : Int32) (l3 : Int32) (l4 : Int32) : mM Int32 := bIf ((100 : Int32) < (l4 + 1)) (fX9_last_92 r40 l0 l1 l2 l3 (l4 + 1)) (bGR 9 l0 24 (fun x1 => bAI 11 x1 (5 : Int32) (fun x2 => bIf ((200 : Int32) ≤ x2) (fX9_last_92 r40 l0 l1 l2 l3 (l4 + 1)) (fX9_last_93 r40 l0 l1 l2 l3 (l4 + 1) (1 : Int32)))))
set_option maxRecDepth 20000 in
theorem rX9_last_66 (v : mE) (d : Nat) (r40 : Nat → Int32 → Int32 → Int32 → Int32 → Int32 → mM Int32) (h40 : ∀ (y0 : Nat) (y1 : Int32) (y2 : Int32) (y3 : Int32) (y4 : Int32) (y5 : Int32), Rz v RX9 cX9_last 7 (some .int) false emI (d + 8) 40 [(0, vR y0), (1, vI y1), (2, vI y2), (3, vI y3), (4, vI y4), (5, vI y5)] [] (r40 y0 y1 y2 y3 y4 y5)) (l0 : Nat) (l1 : Int32) (l2 : Int32) (l3 : Int32) (l4 : Int32) : Rz v RX9 cX9_last 7 (some .int) false emI (d + 8) 66 [(0, vR l0), (1, vI l1), (2, vI l2), (3, vI l3), (4, vI l4)] [] (fX9_last_66 r40 l0 l1 l2 l3 l4) := by
  unfold fX9_last_66
  refine rz_iinc (lv' := [(4, vI (l4 + 1)), (0, vR l0), (1, vI l1), (2, vI l2), (3, vI l3)]) 69 4 dX9_last_66 rfl rfl (cn_1 _) rfl rfl ?_
  refine rz_iload 71 0 dX9_last_69 rfl rfl ?_
  refine rz_bipush 73 dX9_last_71 rfl cb_100 ?_
  refine rz_icmp_gt 92 76 dX9_last_73 rfl rfl ?_ ?_
  · exact rz_sub [1, 2, 3, 4, 0] rfl (rX9_last_92 v d r40 h40 l0 l1 l2 l3 (l4 + 1))
  · refine rz_aload_n 77 1 dX9_last_76 rfl rfl ?_
    refine rz_gR 80 dX9_last_77 rfl rfl fl_X9_35 (fun x1 => ?_)
    refine rz_iconst 81 dX9_last_80 rfl ci_5 ?_
    refine rz_iald 82 dX9_last_81 rfl (fun x2 => ?_)
    refine rz_sipush 85 dX9_last_82 rfl cs_200 ?_
    refine rz_icmp_ge 92 88 dX9_last_85 rfl rfl ?_ ?_
    · exact rz_sub [1, 2, 3, 4, 0] rfl (rX9_last_92 v d r40 h40 l0 l1 l2 l3 (l4 + 1))
    · refine rz_iconst 89 dX9_last_88 rfl ci_1 ?_
      refine rz_goto 93 dX9_last_89 rfl ?_
      exact rz_sub [1, 2, 3, 4, 0] rfl (rX9_last_93 v d r40 h40 l0 l1 l2 l3 (l4 + 1) (1 : Int32))
def fX9_last_40 : Nat → Nat → Int32 → Int32 → Int32 → Int32 → Int32 → mM Int32
  | 0 => fun _ _ _ _ _ _ => fun _ => none
  | n + 1 => fun l0 l1 l2 l3 l4 l5 => let r40 := fX9_last_40 n; bIf (l5 = 0) (fX9_last_107 l0 l1 l2 l3) (bCallV 9 l0 (fX9_drinkers l0) (fun x1 => bIf (x1 = 0) (fX9_last_66 r40 l0 l1 l2 l3 l4) (bCallV 9 l0 (fX9_leastOf l0 x1) (fun x2 => fX9_last_66 r40 l0 l1 l4 x2 l4))))
theorem qX9_last_40  (n : Nat) (l0 : Nat) (l1 : Int32) (l2 : Int32) (l3 : Int32) (l4 : Int32) (l5 : Int32) : fX9_last_40 (n + 1) l0 l1 l2 l3 l4 l5 = bIf (l5 = 0) (fX9_last_107 l0 l1 l2 l3) (bCallV 9 l0 (fX9_drinkers l0) (fun x1 => bIf (x1 = 0) (fX9_last_66 (fX9_last_40 n) l0 l1 l2 l3 l4) (bCallV 9 l0 (fX9_leastOf l0 x1) (fun x2 => fX9_last_66 (fX9_last_40 n) l0 l1 l4 x2 l4)))) := rfl
set_option maxRecDepth 20000 in
theorem rX9_last_40 (v : mE) (d : Nat) : ∀ (n : Nat) (l0 : Nat) (l1 : Int32) (l2 : Int32) (l3 : Int32) (l4 : Int32) (l5 : Int32), Rz v RX9 cX9_last 7 (some .int) false emI (d + 8) 40 [(0, vR l0), (1, vI l1), (2, vI l2), (3, vI l3), (4, vI l4), (5, vI l5)] [] (fX9_last_40 n l0 l1 l2 l3 l4 l5)
  | 0, _, _, _, _, _, _ => fun _ _ _ hm => by cases hm
  | n + 1, l0, l1, l2, l3, l4, l5 => by
    have h40 := rX9_last_40 v d n
    unfold fX9_last_40
    generalize fX9_last_40 n = r40 at h40 ⊢
    refine rz_iload 42 5 dX9_last_40 rfl rfl ?_
    refine rz_if_eq 107 45 dX9_last_42 rfl rfl ?_ ?_
    · exact rz_sub [0, 1, 2, 3] rfl (rX9_last_107 v d l0 l1 l2 l3)
    · refine rz_aload_n 46 0 dX9_last_45 rfl rfl ?_
      refine rz_callV 49 dX9_last_46 rfl (tX9_drinkers v (d + 3) l0) rfl rfl rfl rfl ml_X9_420 im_X9_drinkers se_X9_X9_drinkers in_X9 co_X9_drinkers rfl rfl (fun x1 => ?_)
      refine rz_istore (lv' := [(6, vI x1), (0, vR l0), (1, vI l1), (2, vI l2), (3, vI l3), (4, vI l4), (5, vI l5)]) 51 dX9_last_49 rfl rfl rfl ?_
      refine rz_iload 53 0 dX9_last_51 rfl rfl ?_
      refine rz_if_eq 66 56 dX9_last_53 rfl rfl ?_ ?_
      · exact rz_sub [1, 2, 3, 4, 5] rfl (rX9_last_66 v d r40 h40 l0 l1 l2 l3 l4)
      · refine rz_iload 58 5 dX9_last_56 rfl rfl ?_
        refine rz_istore_n (lv' := [(2, vI l4), (6, vI x1), (0, vR l0), (1, vI l1), (3, vI l3), (4, vI l4), (5, vI l5)]) 59 dX9_last_58 rfl rfl rfl ?_
        refine rz_aload_n 60 2 dX9_last_59 rfl rfl ?_
        refine rz_iload 62 1 dX9_last_60 rfl rfl ?_
        refine rz_callV 65 dX9_last_62 rfl (tX9_leastOf v (d + 7) l0 x1) rfl rfl rfl rfl ml_X9_408 im_X9_leastOf se_X9_X9_leastOf in_X9 co_X9_leastOf rfl rfl (fun x2 => ?_)
        refine rz_istore_n (lv' := [(3, vI x2), (2, vI l4), (6, vI x1), (0, vR l0), (1, vI l1), (4, vI l4), (5, vI l5)]) 66 dX9_last_65 rfl rfl rfl ?_
        exact rz_sub [3, 4, 1, 0, 5] rfl (rX9_last_66 v d r40 h40 l0 l1 l4 x2 l4)
def fX9_last (l0 : Nat) (l1 : Int32) : mM Int32 := bPI 9 l0 1 (0 : Int32) (bPI 9 l0 0 (0 : Int32) (bCall (fX9_isIn (Int32.toInt64 l1) (0 : Int64) (1 : Int64)) (fun x1 => bIf (x1 = 0) (bCallV 9 l0 (fX9_refuse l0 (5 : Int32)) (fun x2 => bRet x2)) (bCallV 9 l0 (fX9_keep l0) (fun _ => fX9_last_40 fu l0 l1 (-1 : Int32) (-1 : Int32) (0 : Int32) (1 : Int32))))))
set_option maxRecDepth 20000 in
theorem rX9_last (v : mE) (d : Nat) (l0 : Nat) (l1 : Int32) : Rz v RX9 cX9_last 7 (some .int) false emI (d + 8) 0 [(0, vR l0), (1, vI l1)] [] (fX9_last l0 l1) := by
  unfold fX9_last
  refine rz_aload_n 1 0 dX9_last_0 rfl rfl ?_
  refine rz_iconst 2 dX9_last_1 rfl ci_0 ?_
  refine rz_pI 5 dX9_last_2 rfl rfl rfl rfl fl_X9_62 ?_
  refine rz_aload_n 6 0 dX9_last_5 rfl rfl ?_
  refine rz_iconst 7 dX9_last_6 rfl ci_0 ?_
  refine rz_pI 10 dX9_last_7 rfl rfl rfl rfl fl_X9_65 ?_
  refine rz_iload_n 11 1 dX9_last_10 rfl rfl ?_
  refine rz_i2l 12 dX9_last_11 rfl ?_
  refine rz_lconst 13 dX9_last_12 rfl cl_0 ?_
  refine rz_lconst 14 dX9_last_13 rfl cl_1 ?_
  refine rz_callS 17 dX9_last_14 rfl (tX9_isIn v (d + 7) (Int32.toInt64 l1) (0 : Int64) (1 : Int64)) rfl rfl ml_X9_97 sm_X9_isIn in_X9 co_X9_isIn rfl rfl (fun x1 => ?_)
  refine rz_if_ne 26 20 dX9_last_17 rfl rfl ?_ ?_
  · refine rz_aload_n 27 0 dX9_last_26 rfl rfl ?_
    refine rz_callV 30 dX9_last_27 rfl (tX9_keep v (d + 7) l0) rfl rfl rfl rfl ml_X9_425 im_X9_keep se_X9_X9_keep in_X9 co_X9_keep rfl rfl (fun _ => ?_)
    refine rz_iconst 31 dX9_last_30 rfl ci_m1 ?_
    refine rz_istore_n (lv' := [(2, vI (-1 : Int32)), (0, vR l0), (1, vI l1)]) 32 dX9_last_31 rfl rfl rfl ?_
    refine rz_iconst 33 dX9_last_32 rfl ci_m1 ?_
    refine rz_istore_n (lv' := [(3, vI (-1 : Int32)), (2, vI (-1 : Int32)), (0, vR l0), (1, vI l1)]) 34 dX9_last_33 rfl rfl rfl ?_
    refine rz_iconst 35 dX9_last_34 rfl ci_0 ?_
    refine rz_istore (lv' := [(4, vI (0 : Int32)), (3, vI (-1 : Int32)), (2, vI (-1 : Int32)), (0, vR l0), (1, vI l1)]) 37 dX9_last_35 rfl rfl rfl ?_
    refine rz_iconst 38 dX9_last_37 rfl ci_1 ?_
    refine rz_istore (lv' := [(5, vI (1 : Int32)), (4, vI (0 : Int32)), (3, vI (-1 : Int32)), (2, vI (-1 : Int32)), (0, vR l0), (1, vI l1)]) 40 dX9_last_38 rfl rfl rfl ?_
    exact rz_sub [4, 5, 3, 2, 1, 0] rfl (rX9_last_40 v d fu l0 l1 (-1 : Int32) (-1 : Int32) (0 : Int32) (1 : Int32))
  · refine rz_aload_n 21 0 dX9_last_20 rfl rfl ?_
    refine rz_iconst 22 dX9_last_21 rfl ci_5 ?_
    refine rz_callV 25 dX9_last_22 rfl (tX9_refuse v (d + 7) l0 (5 : Int32)) rfl rfl rfl rfl ml_X9_357 im_X9_refuse se_X9_X9_refuse in_X9 co_X9_refuse rfl rfl (fun x2 => ?_)
    exact rz_ireturn rfl rfl dX9_last_25
theorem tX9_last (v : mE) (d : Nat) (l0 : Nat) (l1 : Int32) : Mt v yX9_last cX9_last 7 (some .int) emI (d + 8) [vR l0, vI l1] (fX9_last l0 l1) := mt_of rfl rfl (fun h => by cases h) rfl rfl (rX9_last v d l0 l1)
theorem dX9_odds_0 : decode cX9_odds 0 = .ok (.aload_n 0, 1) := by decide +kernel
theorem dX9_odds_1 : decode cX9_odds 1 = .ok (.iconst 0, 1) := by decide +kernel
theorem dX9_odds_2 : decode cX9_odds 2 = .ok (.putfield 62, 3) := by decide +kernel
theorem dX9_odds_5 : decode cX9_odds 5 = .ok (.aload_n 0, 1) := by decide +kernel
theorem dX9_odds_6 : decode cX9_odds 6 = .ok (.iconst 0, 1) := by decide +kernel
theorem dX9_odds_7 : decode cX9_odds 7 = .ok (.putfield 65, 3) := by decide +kernel
theorem dX9_odds_10 : decode cX9_odds 10 = .ok (.aload_n 0, 1) := by decide +kernel
theorem dX9_odds_11 : decode cX9_odds 11 = .ok (.iload_n 1, 1) := by decide +kernel
theorem dX9_odds_12 : decode cX9_odds 12 = .ok (.invokevirtual 360, 3) := by decide +kernel
theorem dX9_odds_15 : decode cX9_odds 15 = .ok (.ifCond .ne 9, 3) := by decide +kernel
theorem dX9_odds_18 : decode cX9_odds 18 = .ok (.aload_n 0, 1) := by decide +kernel
theorem dX9_odds_19 : decode cX9_odds 19 = .ok (.iconst 2, 1) := by decide +kernel
theorem dX9_odds_20 : decode cX9_odds 20 = .ok (.invokevirtual 77, 3) := by decide +kernel
theorem dX9_odds_23 : decode cX9_odds 23 = .ok (.ireturn, 1) := by decide +kernel
theorem dX9_odds_24 : decode cX9_odds 24 = .ok (.aload_n 0, 1) := by decide +kernel
theorem dX9_odds_25 : decode cX9_odds 25 = .ok (.iload_n 2, 1) := by decide +kernel
theorem dX9_odds_26 : decode cX9_odds 26 = .ok (.invokevirtual 428, 3) := by decide +kernel
theorem dX9_odds_29 : decode cX9_odds 29 = .ok (.ifCond .eq 32, 3) := by decide +kernel
theorem dX9_odds_32 : decode cX9_odds 32 = .ok (.iload 4, 2) := by decide +kernel
theorem dX9_odds_34 : decode cX9_odds 34 = .ok (.i2l, 1) := by decide +kernel
theorem dX9_odds_35 : decode cX9_odds 35 = .ok (.lconst 1, 1) := by decide +kernel
theorem dX9_odds_36 : decode cX9_odds 36 = .ok (.ldc2_w 437, 3) := by decide +kernel
theorem dX9_odds_39 : decode cX9_odds 39 = .ok (.invokestatic 97, 3) := by decide +kernel
theorem dX9_odds_42 : decode cX9_odds 42 = .ok (.ifCond .eq 19, 3) := by decide +kernel
theorem dX9_odds_45 : decode cX9_odds 45 = .ok (.iload_n 3, 1) := by decide +kernel
theorem dX9_odds_46 : decode cX9_odds 46 = .ok (.i2l, 1) := by decide +kernel
theorem dX9_odds_47 : decode cX9_odds 47 = .ok (.lconst 0, 1) := by decide +kernel
theorem dX9_odds_48 : decode cX9_odds 48 = .ok (.sipush 10000, 3) := by decide +kernel
theorem dX9_odds_51 : decode cX9_odds 51 = .ok (.iload 4, 2) := by decide +kernel
theorem dX9_odds_53 : decode cX9_odds 53 = .ok (.isub, 1) := by decide +kernel
theorem dX9_odds_54 : decode cX9_odds 54 = .ok (.i2l, 1) := by decide +kernel
theorem dX9_odds_55 : decode cX9_odds 55 = .ok (.invokestatic 97, 3) := by decide +kernel
theorem dX9_odds_58 : decode cX9_odds 58 = .ok (.ifCond .ne 9, 3) := by decide +kernel
theorem dX9_odds_61 : decode cX9_odds 61 = .ok (.aload_n 0, 1) := by decide +kernel
theorem dX9_odds_62 : decode cX9_odds 62 = .ok (.iconst 5, 1) := by decide +kernel
theorem dX9_odds_63 : decode cX9_odds 63 = .ok (.invokevirtual 77, 3) := by decide +kernel
theorem dX9_odds_66 : decode cX9_odds 66 = .ok (.ireturn, 1) := by decide +kernel
theorem dX9_odds_67 : decode cX9_odds 67 = .ok (.aload_n 0, 1) := by decide +kernel
theorem dX9_odds_68 : decode cX9_odds 68 = .ok (.invokevirtual 425, 3) := by decide +kernel
theorem dX9_odds_71 : decode cX9_odds 71 = .ok (.iconst 0, 1) := by decide +kernel
theorem dX9_odds_72 : decode cX9_odds 72 = .ok (.istore 5, 2) := by decide +kernel
theorem dX9_odds_74 : decode cX9_odds 74 = .ok (.iconst 0, 1) := by decide +kernel
theorem dX9_odds_75 : decode cX9_odds 75 = .ok (.istore 6, 2) := by decide +kernel
theorem dX9_odds_77 : decode cX9_odds 77 = .ok (.iload 6, 2) := by decide +kernel
theorem dX9_odds_79 : decode cX9_odds 79 = .ok (.iload 4, 2) := by decide +kernel
theorem dX9_odds_81 : decode cX9_odds 81 = .ok (.if_icmp .ge 61, 3) := by decide +kernel
theorem dX9_odds_84 : decode cX9_odds 84 = .ok (.aload_n 0, 1) := by decide +kernel
theorem dX9_odds_85 : decode cX9_odds 85 = .ok (.getfield 35, 3) := by decide +kernel
theorem dX9_odds_88 : decode cX9_odds 88 = .ok (.bipush 6, 2) := by decide +kernel
theorem dX9_odds_90 : decode cX9_odds 90 = .ok (.iload_n 3, 1) := by decide +kernel
theorem dX9_odds_91 : decode cX9_odds 91 = .ok (.iload 6, 2) := by decide +kernel
theorem dX9_odds_93 : decode cX9_odds 93 = .ok (.iadd, 1) := by decide +kernel
theorem dX9_odds_94 : decode cX9_odds 94 = .ok (.iastore, 1) := by decide +kernel
theorem dX9_odds_95 : decode cX9_odds 95 = .ok (.iconst 0, 1) := by decide +kernel
theorem dX9_odds_96 : decode cX9_odds 96 = .ok (.istore 7, 2) := by decide +kernel
theorem dX9_odds_98 : decode cX9_odds 98 = .ok (.iload 7, 2) := by decide +kernel
theorem dX9_odds_100 : decode cX9_odds 100 = .ok (.iload_n 2, 1) := by decide +kernel
theorem dX9_odds_101 : decode cX9_odds 101 = .ok (.if_icmp .ge 13, 3) := by decide +kernel
theorem dX9_odds_104 : decode cX9_odds 104 = .ok (.aload_n 0, 1) := by decide +kernel
theorem dX9_odds_105 : decode cX9_odds 105 = .ok (.invokevirtual 417, 3) := by decide +kernel
theorem dX9_odds_108 : decode cX9_odds 108 = .ok (.iinc 7 1, 3) := by decide +kernel
theorem dX9_odds_111 : decode cX9_odds 111 = .ok (.goto (-13), 3) := by decide +kernel
theorem dX9_odds_114 : decode cX9_odds 114 = .ok (.iload 5, 2) := by decide +kernel
theorem dX9_odds_116 : decode cX9_odds 116 = .ok (.aload_n 0, 1) := by decide +kernel
theorem dX9_odds_117 : decode cX9_odds 117 = .ok (.iload_n 1, 1) := by decide +kernel
theorem dX9_odds_118 : decode cX9_odds 118 = .ok (.invokevirtual 351, 3) := by decide +kernel
theorem dX9_odds_121 : decode cX9_odds 121 = .ok (.ifCond .eq 7, 3) := by decide +kernel
theorem dX9_odds_124 : decode cX9_odds 124 = .ok (.iconst 1, 1) := by decide +kernel
theorem dX9_odds_125 : decode cX9_odds 125 = .ok (.goto 4, 3) := by decide +kernel
theorem dX9_odds_128 : decode cX9_odds 128 = .ok (.iconst 0, 1) := by decide +kernel
theorem dX9_odds_129 : decode cX9_odds 129 = .ok (.iadd, 1) := by decide +kernel
theorem dX9_odds_130 : decode cX9_odds 130 = .ok (.istore 5, 2) := by decide +kernel
theorem dX9_odds_132 : decode cX9_odds 132 = .ok (.aload_n 0, 1) := by decide +kernel
theorem dX9_odds_133 : decode cX9_odds 133 = .ok (.invokevirtual 434, 3) := by decide +kernel
theorem dX9_odds_136 : decode cX9_odds 136 = .ok (.iinc 6 1, 3) := by decide +kernel
theorem dX9_odds_139 : decode cX9_odds 139 = .ok (.goto (-62), 3) := by decide +kernel
theorem dX9_odds_142 : decode cX9_odds 142 = .ok (.aload_n 0, 1) := by decide +kernel
theorem dX9_odds_143 : decode cX9_odds 143 = .ok (.iload 5, 2) := by decide +kernel
theorem dX9_odds_145 : decode cX9_odds 145 = .ok (.i2l, 1) := by decide +kernel
theorem dX9_odds_146 : decode cX9_odds 146 = .ok (.iload 4, 2) := by decide +kernel
theorem dX9_odds_148 : decode cX9_odds 148 = .ok (.i2l, 1) := by decide +kernel
theorem dX9_odds_149 : decode cX9_odds 149 = .ok (.invokevirtual 439, 3) := by decide +kernel
theorem dX9_odds_152 : decode cX9_odds 152 = .ok (.ireturn, 1) := by decide +kernel
def fX9_odds_142 (l0 : Nat) (l4 : Int32) (l5 : Int32) : mM Int32 := bCallV 9 l0 (fX9_fraction l0 (Int32.toInt64 l5) (Int32.toInt64 l4)) (fun x1 => bRetZ x1)
set_option maxRecDepth 20000 in
theorem rX9_odds_142 (v : mE) (d : Nat) (l0 : Nat) (l4 : Int32) (l5 : Int32) : Rz v RX9 cX9_odds 8 (some .boolean) false emI (d + 8) 142 [(0, vR l0), (4, vI l4), (5, vI l5)] [] (fX9_odds_142 l0 l4 l5) := by
  unfold fX9_odds_142
  refine rz_aload_n 143 0 dX9_odds_142 rfl rfl ?_
  refine rz_iload 145 2 dX9_odds_143 rfl rfl ?_
  refine rz_i2l 146 dX9_odds_145 rfl ?_
  refine rz_iload 148 1 dX9_odds_146 rfl rfl ?_
  refine rz_i2l 149 dX9_odds_148 rfl ?_
  refine rz_callV 152 dX9_odds_149 rfl (tX9_fraction v (d + 6) l0 (Int32.toInt64 l5) (Int32.toInt64 l4)) rfl rfl rfl rfl ml_X9_439 im_X9_fraction se_X9_X9_fraction in_X9 co_X9_fraction rfl rfl (fun x1 => ?_)
  exact rz_zreturn rfl rfl dX9_odds_152
def fX9_odds_129 (r77 : Nat → Int32 → Int32 → Int32 → Int32 → Int32 → Int32 → mM Int32) (l0 : Nat) (l1 : Int32) (l2 : Int32) (l3 : Int32) (l4 : Int32) (l6 : Int32) (s0 : Int32) (s1 : Int32) : mM Int32 := bCallV 9 l0 (fX9_takeAgain l0) (fun _ => r77 l0 l1 l2 l3 l4 (s1 + s0) (l6 + 1))
set_option maxRecDepth 20000 in
theorem rX9_odds_129 (v : mE) (d : Nat) (r77 : Nat → Int32 → Int32 → Int32 → Int32 → Int32 → Int32 → mM Int32) (h77 : ∀ (y0 : Nat) (y1 : Int32) (y2 : Int32) (y3 : Int32) (y4 : Int32) (y5 : Int32) (y6 : Int32), Rz v RX9 cX9_odds 8 (some .boolean) false emI (d + 8) 77 [(0, vR y0), (1, vI y1), (2, vI y2), (3, vI y3), (4, vI y4), (5, vI y5), (6, vI y6)] [] (r77 y0 y1 y2 y3 y4 y5 y6)) (l0 : Nat) (l1 : Int32) (l2 : Int32) (l3 : Int32) (l4 : Int32) (l6 : Int32) (s0 : Int32) (s1 : Int32) : Rz v RX9 cX9_odds 8 (some .boolean) false emI (d + 8) 129 [(0, vR l0), (1, vI l1), (2, vI l2), (3, vI l3), (4, vI l4), (6, vI l6)] [vI s0, vI s1] (fX9_odds_129 r77 l0 l1 l2 l3 l4 l6 s0 s1) := by
  unfold fX9_odds_129
  refine rz_iadd 130 dX9_odds_129 rfl ?_
  refine rz_istore (lv' := [(5, vI (s1 + s0)), (0, vR l0), (1, vI l1), (2, vI l2), (3, vI l3), (4, vI l4), (6, vI l6)]) 132 dX9_odds_130 rfl rfl rfl ?_
  refine rz_aload_n 133 1 dX9_odds_132 rfl rfl ?_
  refine rz_callV 136 dX9_odds_133 rfl (tX9_takeAgain v (d + 7) l0) rfl rfl rfl rfl ml_X9_434 im_X9_takeAgain se_X9_X9_takeAgain in_X9 co_X9_takeAgain rfl rfl (fun _ => ?_)
  refine rz_iinc (lv' := [(6, vI (l6 + 1)), (5, vI (s1 + s0)), (0, vR l0), (1, vI l1), (2, vI l2), (3, vI l3), (4, vI l4)]) 139 6 dX9_odds_136 rfl rfl (cn_1 _) rfl rfl ?_
  refine rz_goto 77 dX9_odds_139 rfl ?_
  exact rz_sub [2, 3, 4, 5, 6, 1, 0] rfl (h77 l0 l1 l2 l3 l4 (s1 + s0) (l6 + 1))
def fX9_odds_114 (r77 : Nat → Int32 → Int32 → Int32 → Int32 → Int32 → Int32 → mM Int32) (l0 : Nat) (l1 : Int32) (l2 : Int32) (l3 : Int32) (l4 : Int32) (l5 : Int32) (l6 : Int32) : mM Int32 := bCallV 9 l0 (fX9_isDrinking l0 l1) (fun x1 => bIf (x1 = 0) (fX9_odds_129 r77 l0 l1 l2 l3 l4 l6 (0 : Int32) l5) (fX9_odds_129 r77 l0 l1 l2 l3 l4 l6 (1 : Int32) l5))
set_option maxRecDepth 20000 in
theorem rX9_odds_114 (v : mE) (d : Nat) (r77 : Nat → Int32 → Int32 → Int32 → Int32 → Int32 → Int32 → mM Int32) (h77 : ∀ (y0 : Nat) (y1 : Int32) (y2 : Int32) (y3 : Int32) (y4 : Int32) (y5 : Int32) (y6 : Int32), Rz v RX9 cX9_odds 8 (some .boolean) false emI (d + 8) 77 [(0, vR y0), (1, vI y1), (2, vI y2), (3, vI y3), (4, vI y4), (5, vI y5), (6, vI y6)] [] (r77 y0 y1 y2 y3 y4 y5 y6)) (l0 : Nat) (l1 : Int32) (l2 : Int32) (l3 : Int32) (l4 : Int32) (l5 : Int32) (l6 : Int32) : Rz v RX9 cX9_odds 8 (some .boolean) false emI (d + 8) 114 [(0, vR l0), (1, vI l1), (2, vI l2), (3, vI l3), (4, vI l4), (5, vI l5), (6, vI l6)] [] (fX9_odds_114 r77 l0 l1 l2 l3 l4 l5 l6) := by
  unfold fX9_odds_114
  refine rz_iload 116 5 dX9_odds_114 rfl rfl ?_
  refine rz_aload_n 117 0 dX9_odds_116 rfl rfl ?_
  refine rz_iload_n 118 1 dX9_odds_117 rfl rfl ?_
  refine rz_callV 121 dX9_odds_118 rfl (tX9_isDrinking v (d + 4) l0 l1) rfl rfl rfl rfl ml_X9_351 im_X9_isDrinking se_X9_X9_isDrinking in_X9 co_X9_isDrinking rfl rfl (fun x1 => ?_)
  refine rz_if_eq 128 124 dX9_odds_121 rfl rfl ?_ ?_
  · refine rz_iconst 129 dX9_odds_128 rfl ci_0 ?_
    exact rz_sub [0, 1, 2, 3, 4, 6] rfl (rX9_odds_129 v d r77 h77 l0 l1 l2 l3 l4 l6 (0 : Int32) l5)
  · refine rz_iconst 125 dX9_odds_124 rfl ci_1 ?_
    refine rz_goto 129 dX9_odds_125 rfl ?_
    exact rz_sub [0, 1, 2, 3, 4, 6] rfl (rX9_odds_129 v d r77 h77 l0 l1 l2 l3 l4 l6 (1 : Int32) l5)
def fX9_odds_98 (r77 : Nat → Int32 → Int32 → Int32 → Int32 → Int32 → Int32 → mM Int32) : Nat → Nat → Int32 → Int32 → Int32 → Int32 → Int32 → Int32 → Int32 → mM Int32
  | 0 => fun _ _ _ _ _ _ _ _ => fun _ => none
  | n + 1 => fun l0 l1 l2 l3 l4 l5 l6 l7 => let r98 := fX9_odds_98 r77 n; bIf (l2 ≤ l7) (fX9_odds_114 r77 l0 l1 l2 l3 l4 l5 l6) (bCallV 9 l0 (fX9_oneYear l0) (fun _ => r98 l0 l1 l2 l3 l4 l5 l6 (l7 + 1)))
theorem qX9_odds_98 (r77 : Nat → Int32 → Int32 → Int32 → Int32 → Int32 → Int32 → mM Int32) (n : Nat) (l0 : Nat) (l1 : Int32) (l2 : Int32) (l3 : Int32) (l4 : Int32) (l5 : Int32) (l6 : Int32) (l7 : Int32) : fX9_odds_98 r77 (n + 1) l0 l1 l2 l3 l4 l5 l6 l7 = bIf (l2 ≤ l7) (fX9_odds_114 r77 l0 l1 l2 l3 l4 l5 l6) (bCallV 9 l0 (fX9_oneYear l0) (fun _ => (fX9_odds_98 r77 n) l0 l1 l2 l3 l4 l5 l6 (l7 + 1))) := rfl
set_option maxRecDepth 20000 in
theorem rX9_odds_98 (v : mE) (d : Nat) (r77 : Nat → Int32 → Int32 → Int32 → Int32 → Int32 → Int32 → mM Int32) (h77 : ∀ (y0 : Nat) (y1 : Int32) (y2 : Int32) (y3 : Int32) (y4 : Int32) (y5 : Int32) (y6 : Int32), Rz v RX9 cX9_odds 8 (some .boolean) false emI (d + 8) 77 [(0, vR y0), (1, vI y1), (2, vI y2), (3, vI y3), (4, vI y4), (5, vI y5), (6, vI y6)] [] (r77 y0 y1 y2 y3 y4 y5 y6)) : ∀ (n : Nat) (l0 : Nat) (l1 : Int32) (l2 : Int32) (l3 : Int32) (l4 : Int32) (l5 : Int32) (l6 : Int32) (l7 : Int32), Rz v RX9 cX9_odds 8 (some .boolean) false emI (d + 8) 98 [(0, vR l0), (1, vI l1), (2, vI l2), (3, vI l3), (4, vI l4), (5, vI l5), (6, vI l6), (7, vI l7)] [] (fX9_odds_98 r77 n l0 l1 l2 l3 l4 l5 l6 l7)
  | 0, _, _, _, _, _, _, _, _ => fun _ _ _ hm => by cases hm
  | n + 1, l0, l1, l2, l3, l4, l5, l6, l7 => by
    have h98 := rX9_odds_98 v d r77 h77 n
    unfold fX9_odds_98
    generalize fX9_odds_98 r77 n = r98 at h98 ⊢
    refine rz_iload 100 7 dX9_odds_98 rfl rfl ?_
    refine rz_iload_n 101 2 dX9_odds_100 rfl rfl ?_
    refine rz_icmp_ge 114 104 dX9_odds_101 rfl rfl ?_ ?_
    · exact rz_sub [0, 1, 2, 3, 4, 5, 6] rfl (rX9_odds_114 v d r77 h77 l0 l1 l2 l3 l4 l5 l6)
    · refine rz_aload_n 105 0 dX9_odds_104 rfl rfl ?_
      refine rz_callV 108 dX9_odds_105 rfl (tX9_oneYear v (d + 0) l0) rfl rfl rfl rfl ml_X9_417 im_X9_oneYear se_X9_X9_oneYear in_X9 co_X9_oneYear rfl rfl (fun _ => ?_)
      refine rz_iinc (lv' := [(7, vI (l7 + 1)), (0, vR l0), (1, vI l1), (2, vI l2), (3, vI l3), (4, vI l4), (5, vI l5), (6, vI l6)]) 111 7 dX9_odds_108 rfl rfl (cn_1 _) rfl rfl ?_
      refine rz_goto 98 dX9_odds_111 rfl ?_
      exact rz_sub [1, 2, 3, 4, 5, 6, 7, 0] rfl (h98 l0 l1 l2 l3 l4 l5 l6 (l7 + 1))
def fX9_odds_77 : Nat → Nat → Int32 → Int32 → Int32 → Int32 → Int32 → Int32 → mM Int32
  | 0 => fun _ _ _ _ _ _ _ => fun _ => none
  | n + 1 => fun l0 l1 l2 l3 l4 l5 l6 => let r77 := fX9_odds_77 n; bIf (l4 ≤ l6) (fX9_odds_142 l0 l4 l5) (bGR 9 l0 24 (fun x1 => bSI x1 (6 : Int32) (l3 + l6) (fX9_odds_98 r77 fu l0 l1 l2 l3 l4 l5 l6 (0 : Int32))))
theorem qX9_odds_77  (n : Nat) (l0 : Nat) (l1 : Int32) (l2 : Int32) (l3 : Int32) (l4 : Int32) (l5 : Int32) (l6 : Int32) : fX9_odds_77 (n + 1) l0 l1 l2 l3 l4 l5 l6 = bIf (l4 ≤ l6) (fX9_odds_142 l0 l4 l5) (bGR 9 l0 24 (fun x1 => bSI x1 (6 : Int32) (l3 + l6) (fX9_odds_98 (fX9_odds_77 n) fu l0 l1 l2 l3 l4 l5 l6 (0 : Int32)))) := rfl
set_option maxRecDepth 20000 in
theorem rX9_odds_77 (v : mE) (d : Nat) : ∀ (n : Nat) (l0 : Nat) (l1 : Int32) (l2 : Int32) (l3 : Int32) (l4 : Int32) (l5 : Int32) (l6 : Int32), Rz v RX9 cX9_odds 8 (some .boolean) false emI (d + 8) 77 [(0, vR l0), (1, vI l1), (2, vI l2), (3, vI l3), (4, vI l4), (5, vI l5), (6, vI l6)] [] (fX9_odds_77 n l0 l1 l2 l3 l4 l5 l6)
  | 0, _, _, _, _, _, _, _ => fun _ _ _ hm => by cases hm
  | n + 1, l0, l1, l2, l3, l4, l5, l6 => by
    have h77 := rX9_odds_77 v d n
    unfold fX9_odds_77
    generalize fX9_odds_77 n = r77 at h77 ⊢
    refine rz_iload 79 6 dX9_odds_77 rfl rfl ?_
    refine rz_iload 81 4 dX9_odds_79 rfl rfl ?_
    refine rz_icmp_ge 142 84 dX9_odds_81 rfl rfl ?_ ?_
    · exact rz_sub [0, 4, 5] rfl (rX9_odds_142 v d l0 l4 l5)
    · refine rz_aload_n 85 0 dX9_odds_84 rfl rfl ?_
      refine rz_gR 88 dX9_odds_85 rfl rfl fl_X9_35 (fun x1 => ?_)
      refine rz_bipush 90 dX9_odds_88 rfl cb_6 ?_
      refine rz_iload_n 91 3 dX9_odds_90 rfl rfl ?_
      refine rz_iload 93 6 dX9_odds_91 rfl rfl ?_
      refine rz_iadd 94 dX9_odds_93 rfl ?_
      refine rz_iast 95 dX9_odds_94 rfl ?_
      refine rz_iconst 96 dX9_odds_95 rfl ci_0 ?_
      refine rz_istore (lv' := [(7, vI (0 : Int32)), (0, vR l0), (1, vI l1), (2, vI l2), (3, vI l3), (4, vI l4), (5, vI l5), (6, vI l6)]) 98 dX9_odds_96 rfl rfl rfl ?_
      exact rz_sub [1, 2, 3, 4, 5, 6, 7, 0] rfl (rX9_odds_98 v d r77 h77 fu l0 l1 l2 l3 l4 l5 l6 (0 : Int32))
def fX9_odds_61 (l0 : Nat) : mM Int32 := bCallV 9 l0 (fX9_no l0 (5 : Int32)) (fun x1 => bRetZ x1)
set_option maxRecDepth 20000 in
theorem rX9_odds_61 (v : mE) (d : Nat) (l0 : Nat) : Rz v RX9 cX9_odds 8 (some .boolean) false emI (d + 8) 61 [(0, vR l0)] [] (fX9_odds_61 l0) := by
  unfold fX9_odds_61
  refine rz_aload_n 62 0 dX9_odds_61 rfl rfl ?_
  refine rz_iconst 63 dX9_odds_62 rfl ci_5 ?_
  refine rz_callV 66 dX9_odds_63 rfl (tX9_no v (d + 7) l0 (5 : Int32)) rfl rfl rfl rfl ml_X9_77 im_X9_no se_X9_X9_no in_X9 co_X9_no rfl rfl (fun x1 => ?_)
  exact rz_zreturn rfl rfl dX9_odds_66
def fX9_odds (l0 : Nat) (l1 : Int32) (l2 : Int32) (l3 : Int32) (l4 : Int32) : mM Int32 := bPI 9 l0 1 (0 : Int32) (bPI 9 l0 0 (0 : Int32) (bCallV 9 l0 (fX9_isPerson l0 l1) (fun x1 => bIf (x1 = 0) (bCallV 9 l0 (fX9_no l0 (2 : Int32)) (fun x5 => bRetZ x5)) (bCallV 9 l0 (fX9_isAhead l0 l2) (fun x2 => bIf (x2 = 0) (fX9_odds_61 l0) (bCall (fX9_isIn (Int32.toInt64 l4) (1 : Int64) (20 : Int64)) (fun x3 => bIf (x3 = 0) (fX9_odds_61 l0) (bCall (fX9_isIn (Int32.toInt64 l3) (0 : Int64) (Int32.toInt64 ((10000 : Int32) - l4))) (fun x4 => bIf (x4 = 0) (fX9_odds_61 l0) (bCallV 9 l0 (fX9_keep l0) (fun _ => fX9_odds_77 fu l0 l1 l2 l3 l4 (0 : Int32) (0 : Int32))))))))))))
set_option maxRecDepth 20000 in
theorem rX9_odds (v : mE) (d : Nat) (l0 : Nat) (l1 : Int32) (l2 : Int32) (l3 : Int32) (l4 : Int32) : Rz v RX9 cX9_odds 8 (some .boolean) false emI (d + 8) 0 [(0, vR l0), (1, vI l1), (2, vI l2), (3, vI l3), (4, vI l4)] [] (fX9_odds l0 l1 l2 l3 l4) := by
  unfold fX9_odds
  refine rz_aload_n 1 0 dX9_odds_0 rfl rfl ?_
  refine rz_iconst 2 dX9_odds_1 rfl ci_0 ?_
  refine rz_pI 5 dX9_odds_2 rfl rfl rfl rfl fl_X9_62 ?_
  refine rz_aload_n 6 0 dX9_odds_5 rfl rfl ?_
  refine rz_iconst 7 dX9_odds_6 rfl ci_0 ?_
  refine rz_pI 10 dX9_odds_7 rfl rfl rfl rfl fl_X9_65 ?_
  refine rz_aload_n 11 0 dX9_odds_10 rfl rfl ?_
  refine rz_iload_n 12 1 dX9_odds_11 rfl rfl ?_
  refine rz_callV 15 dX9_odds_12 rfl (tX9_isPerson v (d + 6) l0 l1) rfl rfl rfl rfl ml_X9_360 im_X9_isPerson se_X9_X9_isPerson in_X9 co_X9_isPerson rfl rfl (fun x1 => ?_)
  refine rz_if_ne 24 18 dX9_odds_15 rfl rfl ?_ ?_
  · refine rz_aload_n 25 0 dX9_odds_24 rfl rfl ?_
    refine rz_iload_n 26 2 dX9_odds_25 rfl rfl ?_
    refine rz_callV 29 dX9_odds_26 rfl (tX9_isAhead v (d + 6) l0 l2) rfl rfl rfl rfl ml_X9_428 im_X9_isAhead se_X9_X9_isAhead in_X9 co_X9_isAhead rfl rfl (fun x2 => ?_)
    refine rz_if_eq 61 32 dX9_odds_29 rfl rfl ?_ ?_
    · exact rz_sub [0] rfl (rX9_odds_61 v d l0)
    · refine rz_iload 34 4 dX9_odds_32 rfl rfl ?_
      refine rz_i2l 35 dX9_odds_34 rfl ?_
      refine rz_lconst 36 dX9_odds_35 rfl cl_1 ?_
      refine rz_ldc2 39 dX9_odds_36 rfl cu_X9_437 ?_
      refine rz_callS 42 dX9_odds_39 rfl (tX9_isIn v (d + 7) (Int32.toInt64 l4) (1 : Int64) (20 : Int64)) rfl rfl ml_X9_97 sm_X9_isIn in_X9 co_X9_isIn rfl rfl (fun x3 => ?_)
      refine rz_if_eq 61 45 dX9_odds_42 rfl rfl ?_ ?_
      · exact rz_sub [0] rfl (rX9_odds_61 v d l0)
      · refine rz_iload_n 46 3 dX9_odds_45 rfl rfl ?_
        refine rz_i2l 47 dX9_odds_46 rfl ?_
        refine rz_lconst 48 dX9_odds_47 rfl cl_0 ?_
        refine rz_sipush 51 dX9_odds_48 rfl cs_10000 ?_
        refine rz_iload 53 4 dX9_odds_51 rfl rfl ?_
        refine rz_isub 54 dX9_odds_53 rfl ?_
        refine rz_i2l 55 dX9_odds_54 rfl ?_
        refine rz_callS 58 dX9_odds_55 rfl (tX9_isIn v (d + 7) (Int32.toInt64 l3) (0 : Int64) (Int32.toInt64 ((10000 : Int32) - l4))) rfl rfl ml_X9_97 sm_X9_isIn in_X9 co_X9_isIn rfl rfl (fun x4 => ?_)
        refine rz_if_ne 67 61 dX9_odds_58 rfl rfl ?_ ?_
        · refine rz_aload_n 68 0 dX9_odds_67 rfl rfl ?_
          refine rz_callV 71 dX9_odds_68 rfl (tX9_keep v (d + 7) l0) rfl rfl rfl rfl ml_X9_425 im_X9_keep se_X9_X9_keep in_X9 co_X9_keep rfl rfl (fun _ => ?_)
          refine rz_iconst 72 dX9_odds_71 rfl ci_0 ?_
          refine rz_istore (lv' := [(5, vI (0 : Int32)), (0, vR l0), (1, vI l1), (2, vI l2), (3, vI l3), (4, vI l4)]) 74 dX9_odds_72 rfl rfl rfl ?_
          refine rz_iconst 75 dX9_odds_74 rfl ci_0 ?_
          refine rz_istore (lv' := [(6, vI (0 : Int32)), (5, vI (0 : Int32)), (0, vR l0), (1, vI l1), (2, vI l2), (3, vI l3), (4, vI l4)]) 77 dX9_odds_75 rfl rfl rfl ?_
          exact rz_sub [2, 3, 4, 5, 6, 1, 0] rfl (rX9_odds_77 v d fu l0 l1 l2 l3 l4 (0 : Int32) (0 : Int32))
        · exact rz_sub [0] rfl (rX9_odds_61 v d l0)
  · refine rz_aload_n 19 0 dX9_odds_18 rfl rfl ?_
    refine rz_iconst 20 dX9_odds_19 rfl ci_2 ?_
    refine rz_callV 23 dX9_odds_20 rfl (tX9_no v (d + 7) l0 (2 : Int32)) rfl rfl rfl rfl ml_X9_77 im_X9_no se_X9_X9_no in_X9 co_X9_no rfl rfl (fun x5 => ?_)
    exact rz_zreturn rfl rfl dX9_odds_23
theorem tX9_odds (v : mE) (d : Nat) (l0 : Nat) (l1 : Int32) (l2 : Int32) (l3 : Int32) (l4 : Int32) : Mt v yX9_odds cX9_odds 8 (some .boolean) emI (d + 8) [vR l0, vI l1, vI l2, vI l3, vI l4] (fX9_odds l0 l1 l2 l3 l4) := mt_of rfl rfl (fun h => by cases h) rfl rfl (rX9_odds v d l0 l1 l2 l3 l4)
theorem dX9_isFree_0 : decode cX9_isFree 0 = .ok (.aload_n 0, 1) := by decide +kernel
theorem dX9_isFree_1 : decode cX9_isFree 1 = .ok (.getfield 35, 3) := by decide +kernel
theorem dX9_isFree_4 : decode cX9_isFree 4 = .ok (.bipush 61, 2) := by decide +kernel
theorem dX9_isFree_6 : decode cX9_isFree 6 = .ok (.iload_n 1, 1) := by decide +kernel
theorem dX9_isFree_7 : decode cX9_isFree 7 = .ok (.iadd, 1) := by decide +kernel
theorem dX9_isFree_8 : decode cX9_isFree 8 = .ok (.iaload, 1) := by decide +kernel
theorem dX9_isFree_9 : decode cX9_isFree 9 = .ok (.ifCond .ne 19, 3) := by decide +kernel
theorem dX9_isFree_12 : decode cX9_isFree 12 = .ok (.aload_n 0, 1) := by decide +kernel
theorem dX9_isFree_13 : decode cX9_isFree 13 = .ok (.getfield 35, 3) := by decide +kernel
theorem dX9_isFree_16 : decode cX9_isFree 16 = .ok (.bipush 49, 2) := by decide +kernel
theorem dX9_isFree_18 : decode cX9_isFree 18 = .ok (.iload_n 1, 1) := by decide +kernel
theorem dX9_isFree_19 : decode cX9_isFree 19 = .ok (.iadd, 1) := by decide +kernel
theorem dX9_isFree_20 : decode cX9_isFree 20 = .ok (.iaload, 1) := by decide +kernel
theorem dX9_isFree_21 : decode cX9_isFree 21 = .ok (.ifCond .ge 7, 3) := by decide +kernel
theorem dX9_isFree_24 : decode cX9_isFree 24 = .ok (.iconst 1, 1) := by decide +kernel
theorem dX9_isFree_25 : decode cX9_isFree 25 = .ok (.goto 4, 3) := by decide +kernel
theorem dX9_isFree_28 : decode cX9_isFree 28 = .ok (.iconst 0, 1) := by decide +kernel
theorem dX9_isFree_29 : decode cX9_isFree 29 = .ok (.ireturn, 1) := by decide +kernel
def fX9_isFree (l0 : Nat) (l1 : Int32) : mM Int32 := bGR 9 l0 24 (fun x1 => bAI 11 x1 ((61 : Int32) + l1) (fun x2 => bIf (x2 = 0) (bGR 9 l0 24 (fun x3 => bAI 11 x3 ((49 : Int32) + l1) (fun x4 => bIf (0 ≤ x4) (bRetZ (0 : Int32)) (bRetZ (1 : Int32))))) (bRetZ (0 : Int32))))
set_option maxRecDepth 20000 in
theorem rX9_isFree (v : mE) (d : Nat) (l0 : Nat) (l1 : Int32) : Rz v RX9 cX9_isFree 2 (some .boolean) false emI (d + 0) 0 [(0, vR l0), (1, vI l1)] [] (fX9_isFree l0 l1) := by
  unfold fX9_isFree
  refine rz_aload_n 1 0 dX9_isFree_0 rfl rfl ?_
  refine rz_gR 4 dX9_isFree_1 rfl rfl fl_X9_35 (fun x1 => ?_)
  refine rz_bipush 6 dX9_isFree_4 rfl cb_61 ?_
  refine rz_iload_n 7 1 dX9_isFree_6 rfl rfl ?_
  refine rz_iadd 8 dX9_isFree_7 rfl ?_
  refine rz_iald 9 dX9_isFree_8 rfl (fun x2 => ?_)
  refine rz_if_ne 28 12 dX9_isFree_9 rfl rfl ?_ ?_
  · refine rz_iconst 29 dX9_isFree_28 rfl ci_0 ?_
    exact rz_zreturn rfl rfl dX9_isFree_29
  · refine rz_aload_n 13 0 dX9_isFree_12 rfl rfl ?_
    refine rz_gR 16 dX9_isFree_13 rfl rfl fl_X9_35 (fun x3 => ?_)
    refine rz_bipush 18 dX9_isFree_16 rfl cb_49 ?_
    refine rz_iload_n 19 1 dX9_isFree_18 rfl rfl ?_
    refine rz_iadd 20 dX9_isFree_19 rfl ?_
    refine rz_iald 21 dX9_isFree_20 rfl (fun x4 => ?_)
    refine rz_if_ge 28 24 dX9_isFree_21 rfl rfl ?_ ?_
    · refine rz_iconst 29 dX9_isFree_28 rfl ci_0 ?_
      exact rz_zreturn rfl rfl dX9_isFree_29
    · refine rz_iconst 25 dX9_isFree_24 rfl ci_1 ?_
      refine rz_goto 29 dX9_isFree_25 rfl ?_
      exact rz_zreturn rfl rfl dX9_isFree_29
theorem tX9_isFree (v : mE) (d : Nat) (l0 : Nat) (l1 : Int32) : Mt v yX9_isFree cX9_isFree 2 (some .boolean) emI (d + 0) [vR l0, vI l1] (fX9_isFree l0 l1) := mt_of rfl rfl (fun h => by cases h) rfl rfl (rX9_isFree v d l0 l1)
theorem dX9_knot_0 : decode cX9_knot 0 = .ok (.aload_n 0, 1) := by decide +kernel
theorem dX9_knot_1 : decode cX9_knot 1 = .ok (.iconst 0, 1) := by decide +kernel
theorem dX9_knot_2 : decode cX9_knot 2 = .ok (.putfield 62, 3) := by decide +kernel
theorem dX9_knot_5 : decode cX9_knot 5 = .ok (.aload_n 0, 1) := by decide +kernel
theorem dX9_knot_6 : decode cX9_knot 6 = .ok (.iconst 0, 1) := by decide +kernel
theorem dX9_knot_7 : decode cX9_knot 7 = .ok (.putfield 65, 3) := by decide +kernel
theorem dX9_knot_10 : decode cX9_knot 10 = .ok (.aload_n 0, 1) := by decide +kernel
theorem dX9_knot_11 : decode cX9_knot 11 = .ok (.iload_n 1, 1) := by decide +kernel
theorem dX9_knot_12 : decode cX9_knot 12 = .ok (.invokevirtual 318, 3) := by decide +kernel
theorem dX9_knot_15 : decode cX9_knot 15 = .ok (.ifCond .eq 16, 3) := by decide +kernel
theorem dX9_knot_18 : decode cX9_knot 18 = .ok (.aload_n 0, 1) := by decide +kernel
theorem dX9_knot_19 : decode cX9_knot 19 = .ok (.iload_n 2, 1) := by decide +kernel
theorem dX9_knot_20 : decode cX9_knot 20 = .ok (.invokevirtual 318, 3) := by decide +kernel
theorem dX9_knot_23 : decode cX9_knot 23 = .ok (.ifCond .eq 8, 3) := by decide +kernel
theorem dX9_knot_26 : decode cX9_knot 26 = .ok (.iload_n 1, 1) := by decide +kernel
theorem dX9_knot_27 : decode cX9_knot 27 = .ok (.iload_n 2, 1) := by decide +kernel
theorem dX9_knot_28 : decode cX9_knot 28 = .ok (.if_icmp .ne 9, 3) := by decide +kernel
theorem dX9_knot_31 : decode cX9_knot 31 = .ok (.aload_n 0, 1) := by decide +kernel
theorem dX9_knot_32 : decode cX9_knot 32 = .ok (.iconst 2, 1) := by decide +kernel
theorem dX9_knot_33 : decode cX9_knot 33 = .ok (.invokevirtual 357, 3) := by decide +kernel
theorem dX9_knot_36 : decode cX9_knot 36 = .ok (.ireturn, 1) := by decide +kernel
theorem dX9_knot_37 : decode cX9_knot 37 = .ok (.aload_n 0, 1) := by decide +kernel
theorem dX9_knot_38 : decode cX9_knot 38 = .ok (.getfield 35, 3) := by decide +kernel
theorem dX9_knot_41 : decode cX9_knot 41 = .ok (.bipush 85, 2) := by decide +kernel
theorem dX9_knot_43 : decode cX9_knot 43 = .ok (.iload_n 1, 1) := by decide +kernel
theorem dX9_knot_44 : decode cX9_knot 44 = .ok (.iadd, 1) := by decide +kernel
theorem dX9_knot_45 : decode cX9_knot 45 = .ok (.iaload, 1) := by decide +kernel
theorem dX9_knot_46 : decode cX9_knot 46 = .ok (.aload_n 0, 1) := by decide +kernel
theorem dX9_knot_47 : decode cX9_knot 47 = .ok (.getfield 35, 3) := by decide +kernel
theorem dX9_knot_50 : decode cX9_knot 50 = .ok (.bipush 85, 2) := by decide +kernel
theorem dX9_knot_52 : decode cX9_knot 52 = .ok (.iload_n 2, 1) := by decide +kernel
theorem dX9_knot_53 : decode cX9_knot 53 = .ok (.iadd, 1) := by decide +kernel
theorem dX9_knot_54 : decode cX9_knot 54 = .ok (.iaload, 1) := by decide +kernel
theorem dX9_knot_55 : decode cX9_knot 55 = .ok (.iadd, 1) := by decide +kernel
theorem dX9_knot_56 : decode cX9_knot 56 = .ok (.bipush 8, 2) := by decide +kernel
theorem dX9_knot_58 : decode cX9_knot 58 = .ok (.if_icmp .le 10, 3) := by decide +kernel
theorem dX9_knot_61 : decode cX9_knot 61 = .ok (.aload_n 0, 1) := by decide +kernel
theorem dX9_knot_62 : decode cX9_knot 62 = .ok (.bipush 7, 2) := by decide +kernel
theorem dX9_knot_64 : decode cX9_knot 64 = .ok (.invokevirtual 357, 3) := by decide +kernel
theorem dX9_knot_67 : decode cX9_knot 67 = .ok (.ireturn, 1) := by decide +kernel
theorem dX9_knot_68 : decode cX9_knot 68 = .ok (.aload_n 0, 1) := by decide +kernel
theorem dX9_knot_69 : decode cX9_knot 69 = .ok (.iload_n 1, 1) := by decide +kernel
theorem dX9_knot_70 : decode cX9_knot 70 = .ok (.invokevirtual 443, 3) := by decide +kernel
theorem dX9_knot_73 : decode cX9_knot 73 = .ok (.ifCond .eq 32, 3) := by decide +kernel
theorem dX9_knot_76 : decode cX9_knot 76 = .ok (.aload_n 0, 1) := by decide +kernel
theorem dX9_knot_77 : decode cX9_knot 77 = .ok (.iload_n 2, 1) := by decide +kernel
theorem dX9_knot_78 : decode cX9_knot 78 = .ok (.invokevirtual 443, 3) := by decide +kernel
theorem dX9_knot_81 : decode cX9_knot 81 = .ok (.ifCond .eq 24, 3) := by decide +kernel
theorem dX9_knot_84 : decode cX9_knot 84 = .ok (.aload_n 0, 1) := by decide +kernel
theorem dX9_knot_85 : decode cX9_knot 85 = .ok (.getfield 35, 3) := by decide +kernel
theorem dX9_knot_88 : decode cX9_knot 88 = .ok (.bipush 37, 2) := by decide +kernel
theorem dX9_knot_90 : decode cX9_knot 90 = .ok (.iload_n 1, 1) := by decide +kernel
theorem dX9_knot_91 : decode cX9_knot 91 = .ok (.iadd, 1) := by decide +kernel
theorem dX9_knot_92 : decode cX9_knot 92 = .ok (.iaload, 1) := by decide +kernel
theorem dX9_knot_93 : decode cX9_knot 93 = .ok (.aload_n 0, 1) := by decide +kernel
theorem dX9_knot_94 : decode cX9_knot 94 = .ok (.getfield 35, 3) := by decide +kernel
theorem dX9_knot_97 : decode cX9_knot 97 = .ok (.bipush 37, 2) := by decide +kernel
theorem dX9_knot_99 : decode cX9_knot 99 = .ok (.iload_n 2, 1) := by decide +kernel
theorem dX9_knot_100 : decode cX9_knot 100 = .ok (.iadd, 1) := by decide +kernel
theorem dX9_knot_101 : decode cX9_knot 101 = .ok (.iaload, 1) := by decide +kernel
theorem dX9_knot_102 : decode cX9_knot 102 = .ok (.if_icmp .eq 10, 3) := by decide +kernel
theorem dX9_knot_105 : decode cX9_knot 105 = .ok (.aload_n 0, 1) := by decide +kernel
theorem dX9_knot_106 : decode cX9_knot 106 = .ok (.bipush 9, 2) := by decide +kernel
theorem dX9_knot_108 : decode cX9_knot 108 = .ok (.invokevirtual 357, 3) := by decide +kernel
theorem dX9_knot_111 : decode cX9_knot 111 = .ok (.ireturn, 1) := by decide +kernel
theorem dX9_knot_112 : decode cX9_knot 112 = .ok (.iconst 0, 1) := by decide +kernel
theorem dX9_knot_113 : decode cX9_knot 113 = .ok (.istore_n 3, 1) := by decide +kernel
theorem dX9_knot_114 : decode cX9_knot 114 = .ok (.iload_n 3, 1) := by decide +kernel
theorem dX9_knot_115 : decode cX9_knot 115 = .ok (.aload_n 0, 1) := by decide +kernel
theorem dX9_knot_116 : decode cX9_knot 116 = .ok (.getfield 35, 3) := by decide +kernel
theorem dX9_knot_119 : decode cX9_knot 119 = .ok (.bipush 85, 2) := by decide +kernel
theorem dX9_knot_121 : decode cX9_knot 121 = .ok (.iload_n 2, 1) := by decide +kernel
theorem dX9_knot_122 : decode cX9_knot 122 = .ok (.iadd, 1) := by decide +kernel
theorem dX9_knot_123 : decode cX9_knot 123 = .ok (.iaload, 1) := by decide +kernel
theorem dX9_knot_124 : decode cX9_knot 124 = .ok (.if_icmp .ge 87, 3) := by decide +kernel
theorem dX9_knot_127 : decode cX9_knot 127 = .ok (.aload_n 0, 1) := by decide +kernel
theorem dX9_knot_128 : decode cX9_knot 128 = .ok (.getfield 35, 3) := by decide +kernel
theorem dX9_knot_131 : decode cX9_knot 131 = .ok (.bipush 97, 2) := by decide +kernel
theorem dX9_knot_133 : decode cX9_knot 133 = .ok (.bipush 8, 2) := by decide +kernel
theorem dX9_knot_135 : decode cX9_knot 135 = .ok (.iload_n 1, 1) := by decide +kernel
theorem dX9_knot_136 : decode cX9_knot 136 = .ok (.imul, 1) := by decide +kernel
theorem dX9_knot_137 : decode cX9_knot 137 = .ok (.iadd, 1) := by decide +kernel
theorem dX9_knot_138 : decode cX9_knot 138 = .ok (.aload_n 0, 1) := by decide +kernel
theorem dX9_knot_139 : decode cX9_knot 139 = .ok (.getfield 35, 3) := by decide +kernel
theorem dX9_knot_142 : decode cX9_knot 142 = .ok (.bipush 85, 2) := by decide +kernel
theorem dX9_knot_144 : decode cX9_knot 144 = .ok (.iload_n 1, 1) := by decide +kernel
theorem dX9_knot_145 : decode cX9_knot 145 = .ok (.iadd, 1) := by decide +kernel
theorem dX9_knot_146 : decode cX9_knot 146 = .ok (.iaload, 1) := by decide +kernel
theorem dX9_knot_147 : decode cX9_knot 147 = .ok (.iadd, 1) := by decide +kernel
theorem dX9_knot_148 : decode cX9_knot 148 = .ok (.iload_n 3, 1) := by decide +kernel
theorem dX9_knot_149 : decode cX9_knot 149 = .ok (.iadd, 1) := by decide +kernel
theorem dX9_knot_150 : decode cX9_knot 150 = .ok (.aload_n 0, 1) := by decide +kernel
theorem dX9_knot_151 : decode cX9_knot 151 = .ok (.getfield 35, 3) := by decide +kernel
theorem dX9_knot_154 : decode cX9_knot 154 = .ok (.bipush 97, 2) := by decide +kernel
theorem dX9_knot_156 : decode cX9_knot 156 = .ok (.bipush 8, 2) := by decide +kernel
theorem dX9_knot_158 : decode cX9_knot 158 = .ok (.iload_n 2, 1) := by decide +kernel
theorem dX9_knot_159 : decode cX9_knot 159 = .ok (.imul, 1) := by decide +kernel
theorem dX9_knot_160 : decode cX9_knot 160 = .ok (.iadd, 1) := by decide +kernel
theorem dX9_knot_161 : decode cX9_knot 161 = .ok (.iload_n 3, 1) := by decide +kernel
theorem dX9_knot_162 : decode cX9_knot 162 = .ok (.iadd, 1) := by decide +kernel
theorem dX9_knot_163 : decode cX9_knot 163 = .ok (.iaload, 1) := by decide +kernel
theorem dX9_knot_164 : decode cX9_knot 164 = .ok (.iastore, 1) := by decide +kernel
theorem dX9_knot_165 : decode cX9_knot 165 = .ok (.aload_n 0, 1) := by decide +kernel
theorem dX9_knot_166 : decode cX9_knot 166 = .ok (.getfield 35, 3) := by decide +kernel
theorem dX9_knot_169 : decode cX9_knot 169 = .ok (.sipush 193, 3) := by decide +kernel
theorem dX9_knot_172 : decode cX9_knot 172 = .ok (.bipush 8, 2) := by decide +kernel
theorem dX9_knot_174 : decode cX9_knot 174 = .ok (.iload_n 1, 1) := by decide +kernel
theorem dX9_knot_175 : decode cX9_knot 175 = .ok (.imul, 1) := by decide +kernel
theorem dX9_knot_176 : decode cX9_knot 176 = .ok (.iadd, 1) := by decide +kernel
theorem dX9_knot_177 : decode cX9_knot 177 = .ok (.aload_n 0, 1) := by decide +kernel
theorem dX9_knot_178 : decode cX9_knot 178 = .ok (.getfield 35, 3) := by decide +kernel
theorem dX9_knot_181 : decode cX9_knot 181 = .ok (.bipush 85, 2) := by decide +kernel
theorem dX9_knot_183 : decode cX9_knot 183 = .ok (.iload_n 1, 1) := by decide +kernel
theorem dX9_knot_184 : decode cX9_knot 184 = .ok (.iadd, 1) := by decide +kernel
theorem dX9_knot_185 : decode cX9_knot 185 = .ok (.iaload, 1) := by decide +kernel
theorem dX9_knot_186 : decode cX9_knot 186 = .ok (.iadd, 1) := by decide +kernel
theorem dX9_knot_187 : decode cX9_knot 187 = .ok (.iload_n 3, 1) := by decide +kernel
theorem dX9_knot_188 : decode cX9_knot 188 = .ok (.iadd, 1) := by decide +kernel
theorem dX9_knot_189 : decode cX9_knot 189 = .ok (.aload_n 0, 1) := by decide +kernel
theorem dX9_knot_190 : decode cX9_knot 190 = .ok (.getfield 35, 3) := by decide +kernel
theorem dX9_knot_193 : decode cX9_knot 193 = .ok (.sipush 193, 3) := by decide +kernel
theorem dX9_knot_196 : decode cX9_knot 196 = .ok (.bipush 8, 2) := by decide +kernel
theorem dX9_knot_198 : decode cX9_knot 198 = .ok (.iload_n 2, 1) := by decide +kernel
theorem dX9_knot_199 : decode cX9_knot 199 = .ok (.imul, 1) := by decide +kernel
theorem dX9_knot_200 : decode cX9_knot 200 = .ok (.iadd, 1) := by decide +kernel
theorem dX9_knot_201 : decode cX9_knot 201 = .ok (.iload_n 3, 1) := by decide +kernel
theorem dX9_knot_202 : decode cX9_knot 202 = .ok (.iadd, 1) := by decide +kernel
theorem dX9_knot_203 : decode cX9_knot 203 = .ok (.iaload, 1) := by decide +kernel
theorem dX9_knot_204 : decode cX9_knot 204 = .ok (.iastore, 1) := by decide +kernel
theorem dX9_knot_205 : decode cX9_knot 205 = .ok (.iinc 3 1, 3) := by decide +kernel
theorem dX9_knot_208 : decode cX9_knot 208 = .ok (.goto (-94), 3) := by decide +kernel
theorem dX9_knot_211 : decode cX9_knot 211 = .ok (.aload_n 0, 1) := by decide +kernel
theorem dX9_knot_212 : decode cX9_knot 212 = .ok (.getfield 35, 3) := by decide +kernel
theorem dX9_knot_215 : decode cX9_knot 215 = .ok (.bipush 85, 2) := by decide +kernel
theorem dX9_knot_217 : decode cX9_knot 217 = .ok (.iload_n 1, 1) := by decide +kernel
theorem dX9_knot_218 : decode cX9_knot 218 = .ok (.iadd, 1) := by decide +kernel
theorem dX9_knot_219 : decode cX9_knot 219 = .ok (.dup2, 1) := by decide +kernel
theorem dX9_knot_220 : decode cX9_knot 220 = .ok (.iaload, 1) := by decide +kernel
theorem dX9_knot_221 : decode cX9_knot 221 = .ok (.aload_n 0, 1) := by decide +kernel
theorem dX9_knot_222 : decode cX9_knot 222 = .ok (.getfield 35, 3) := by decide +kernel
theorem dX9_knot_225 : decode cX9_knot 225 = .ok (.bipush 85, 2) := by decide +kernel
theorem dX9_knot_227 : decode cX9_knot 227 = .ok (.iload_n 2, 1) := by decide +kernel
theorem dX9_knot_228 : decode cX9_knot 228 = .ok (.iadd, 1) := by decide +kernel
theorem dX9_knot_229 : decode cX9_knot 229 = .ok (.iaload, 1) := by decide +kernel
theorem dX9_knot_230 : decode cX9_knot 230 = .ok (.iadd, 1) := by decide +kernel
theorem dX9_knot_231 : decode cX9_knot 231 = .ok (.iastore, 1) := by decide +kernel
theorem dX9_knot_232 : decode cX9_knot 232 = .ok (.aload_n 0, 1) := by decide +kernel
theorem dX9_knot_233 : decode cX9_knot 233 = .ok (.getfield 35, 3) := by decide +kernel
theorem dX9_knot_236 : decode cX9_knot 236 = .ok (.bipush 73, 2) := by decide +kernel
theorem dX9_knot_238 : decode cX9_knot 238 = .ok (.iload_n 1, 1) := by decide +kernel
theorem dX9_knot_239 : decode cX9_knot 239 = .ok (.iadd, 1) := by decide +kernel
theorem dX9_knot_240 : decode cX9_knot 240 = .ok (.aload_n 0, 1) := by decide +kernel
theorem dX9_knot_241 : decode cX9_knot 241 = .ok (.getfield 35, 3) := by decide +kernel
theorem dX9_knot_244 : decode cX9_knot 244 = .ok (.bipush 73, 2) := by decide +kernel
theorem dX9_knot_246 : decode cX9_knot 246 = .ok (.iload_n 1, 1) := by decide +kernel
theorem dX9_knot_247 : decode cX9_knot 247 = .ok (.iadd, 1) := by decide +kernel
theorem dX9_knot_248 : decode cX9_knot 248 = .ok (.iaload, 1) := by decide +kernel
theorem dX9_knot_249 : decode cX9_knot 249 = .ok (.aload_n 0, 1) := by decide +kernel
theorem dX9_knot_250 : decode cX9_knot 250 = .ok (.getfield 35, 3) := by decide +kernel
theorem dX9_knot_253 : decode cX9_knot 253 = .ok (.bipush 73, 2) := by decide +kernel
theorem dX9_knot_255 : decode cX9_knot 255 = .ok (.iload_n 2, 1) := by decide +kernel
theorem dX9_knot_256 : decode cX9_knot 256 = .ok (.iadd, 1) := by decide +kernel
theorem dX9_knot_257 : decode cX9_knot 257 = .ok (.iaload, 1) := by decide +kernel
theorem dX9_knot_258 : decode cX9_knot 258 = .ok (.invokestatic 321, 3) := by decide +kernel
theorem dX9_knot_261 : decode cX9_knot 261 = .ok (.iastore, 1) := by decide +kernel
theorem dX9_knot_262 : decode cX9_knot 262 = .ok (.aload_n 0, 1) := by decide +kernel
theorem dX9_knot_263 : decode cX9_knot 263 = .ok (.getfield 35, 3) := by decide +kernel
theorem dX9_knot_266 : decode cX9_knot 266 = .ok (.bipush 85, 2) := by decide +kernel
theorem dX9_knot_268 : decode cX9_knot 268 = .ok (.iload_n 2, 1) := by decide +kernel
theorem dX9_knot_269 : decode cX9_knot 269 = .ok (.iadd, 1) := by decide +kernel
theorem dX9_knot_270 : decode cX9_knot 270 = .ok (.iconst 0, 1) := by decide +kernel
theorem dX9_knot_271 : decode cX9_knot 271 = .ok (.iastore, 1) := by decide +kernel
theorem dX9_knot_272 : decode cX9_knot 272 = .ok (.aload_n 0, 1) := by decide +kernel
theorem dX9_knot_273 : decode cX9_knot 273 = .ok (.getfield 35, 3) := by decide +kernel
theorem dX9_knot_276 : decode cX9_knot 276 = .ok (.bipush 85, 2) := by decide +kernel
theorem dX9_knot_278 : decode cX9_knot 278 = .ok (.iload_n 1, 1) := by decide +kernel
theorem dX9_knot_279 : decode cX9_knot 279 = .ok (.iadd, 1) := by decide +kernel
theorem dX9_knot_280 : decode cX9_knot 280 = .ok (.iaload, 1) := by decide +kernel
theorem dX9_knot_281 : decode cX9_knot 281 = .ok (.ireturn, 1) := by decide +kernel
def fX9_knot_211 (l0 : Nat) (l1 : Int32) (l2 : Int32) : mM Int32 := bGR 9 l0 24 (fun x1 => bAI 11 x1 ((85 : Int32) + l1) (fun x2 => bGR 9 l0 24 (fun x3 => bAI 11 x3 ((85 : Int32) + l2) (fun x4 => bSI x1 ((85 : Int32) + l1) (x2 + x4) (bGR 9 l0 24 (fun x5 => bGR 9 l0 24 (fun x6 => bAI 11 x6 ((73 : Int32) + l1) (fun x7 => bGR 9 l0 24 (fun x8 => bAI 11 x8 ((73 : Int32) + l2) (fun x9 => bSI x5 ((73 : Int32) + l1) (jMax x7 x9) (bGR 9 l0 24 (fun x10 => bSI x10 ((85 : Int32) + l2) (0 : Int32) (bGR 9 l0 24 (fun x11 => bAI 11 x11 ((85 : Int32) + l1) (fun x12 => bRet x12)))))))))))))))
set_option maxRecDepth 20000 in
theorem rX9_knot_211 (v : mE) (d : Nat) (l0 : Nat) (l1 : Int32) (l2 : Int32) : Rz v RX9 cX9_knot 4 (some .int) false emI (d + 2) 211 [(0, vR l0), (1, vI l1), (2, vI l2)] [] (fX9_knot_211 l0 l1 l2) := by
  unfold fX9_knot_211
  refine rz_aload_n 212 0 dX9_knot_211 rfl rfl ?_
  refine rz_gR 215 dX9_knot_212 rfl rfl fl_X9_35 (fun x1 => ?_)
  refine rz_bipush 217 dX9_knot_215 rfl cb_85 ?_
  refine rz_iload_n 218 1 dX9_knot_217 rfl rfl ?_
  refine rz_iadd 219 dX9_knot_218 rfl ?_
  refine rz_dup2 220 dX9_knot_219 rfl rfl rfl ?_
  refine rz_iald 221 dX9_knot_220 rfl (fun x2 => ?_)
  refine rz_aload_n 222 0 dX9_knot_221 rfl rfl ?_
  refine rz_gR 225 dX9_knot_222 rfl rfl fl_X9_35 (fun x3 => ?_)
  refine rz_bipush 227 dX9_knot_225 rfl cb_85 ?_
  refine rz_iload_n 228 2 dX9_knot_227 rfl rfl ?_
  refine rz_iadd 229 dX9_knot_228 rfl ?_
  refine rz_iald 230 dX9_knot_229 rfl (fun x4 => ?_)
  refine rz_iadd 231 dX9_knot_230 rfl ?_
  refine rz_iast 232 dX9_knot_231 rfl ?_
  refine rz_aload_n 233 0 dX9_knot_232 rfl rfl ?_
  refine rz_gR 236 dX9_knot_233 rfl rfl fl_X9_35 (fun x5 => ?_)
  refine rz_bipush 238 dX9_knot_236 rfl cb_73 ?_
  refine rz_iload_n 239 1 dX9_knot_238 rfl rfl ?_
  refine rz_iadd 240 dX9_knot_239 rfl ?_
  refine rz_aload_n 241 0 dX9_knot_240 rfl rfl ?_
  refine rz_gR 244 dX9_knot_241 rfl rfl fl_X9_35 (fun x6 => ?_)
  refine rz_bipush 246 dX9_knot_244 rfl cb_73 ?_
  refine rz_iload_n 247 1 dX9_knot_246 rfl rfl ?_
  refine rz_iadd 248 dX9_knot_247 rfl ?_
  refine rz_iald 249 dX9_knot_248 rfl (fun x7 => ?_)
  refine rz_aload_n 250 0 dX9_knot_249 rfl rfl ?_
  refine rz_gR 253 dX9_knot_250 rfl rfl fl_X9_35 (fun x8 => ?_)
  refine rz_bipush 255 dX9_knot_253 rfl cb_73 ?_
  refine rz_iload_n 256 2 dX9_knot_255 rfl rfl ?_
  refine rz_iadd 257 dX9_knot_256 rfl ?_
  refine rz_iald 258 dX9_knot_257 rfl (fun x9 => ?_)
  refine rz_mmax 261 dX9_knot_258 rfl ml_X9_321 rfl rfl ?_
  refine rz_iast 262 dX9_knot_261 rfl ?_
  refine rz_aload_n 263 0 dX9_knot_262 rfl rfl ?_
  refine rz_gR 266 dX9_knot_263 rfl rfl fl_X9_35 (fun x10 => ?_)
  refine rz_bipush 268 dX9_knot_266 rfl cb_85 ?_
  refine rz_iload_n 269 2 dX9_knot_268 rfl rfl ?_
  refine rz_iadd 270 dX9_knot_269 rfl ?_
  refine rz_iconst 271 dX9_knot_270 rfl ci_0 ?_
  refine rz_iast 272 dX9_knot_271 rfl ?_
  refine rz_aload_n 273 0 dX9_knot_272 rfl rfl ?_
  refine rz_gR 276 dX9_knot_273 rfl rfl fl_X9_35 (fun x11 => ?_)
  refine rz_bipush 278 dX9_knot_276 rfl cb_85 ?_
  refine rz_iload_n 279 1 dX9_knot_278 rfl rfl ?_
  refine rz_iadd 280 dX9_knot_279 rfl ?_
  refine rz_iald 281 dX9_knot_280 rfl (fun x12 => ?_)
  exact rz_ireturn rfl rfl dX9_knot_281
def fX9_knot_114 : Nat → Nat → Int32 → Int32 → Int32 → mM Int32
  | 0 => fun _ _ _ _ => fun _ => none
  | n + 1 => fun l0 l1 l2 l3 => let r114 := fX9_knot_114 n; bGR 9 l0 24 (fun x1 => bAI 11 x1 ((85 : Int32) + l2) (fun x2 => bIf (x2 ≤ l3) (fX9_knot_211 l0 l1 l2) (bGR 9 l0 24 (fun x3 => bGR 9 l0 24 (fun x4 => bAI 11 x4 ((85 : Int32) + l1) (fun x5 => bGR 9 l0 24 (fun x6 => bAI 11 x6 (((97 : Int32) + ((8 : Int32) * l2)) + l3) (fun x7 => bSI x3 ((((97 : Int32) + ((8 : Int32) * l1)) + x5) + l3) x7 (bGR 9 l0 24 (fun x8 => bGR 9 l0 24 (fun x9 => bAI 11 x9 ((85 : Int32) + l1) (fun x10 => bGR 9 l0 24 (fun x11 => bAI 11 x11 (((193 : Int32) + ((8 : Int32) * l2)) + l3) (fun x12 => bSI x8 ((((193 : Int32) + ((8 : Int32) * l1)) + x10) + l3) x12 (r114 l0 l1 l2 (l3 + 1))))))))))))))))
theorem qX9_knot_114  (n : Nat) (l0 : Nat) (l1 : Int32) (l2 : Int32) (l3 : Int32) : fX9_knot_114 (n + 1) l0 l1 l2 l3 = bGR 9 l0 24 (fun x1 => bAI 11 x1 ((85 : Int32) + l2) (fun x2 => bIf (x2 ≤ l3) (fX9_knot_211 l0 l1 l2) (bGR 9 l0 24 (fun x3 => bGR 9 l0 24 (fun x4 => bAI 11 x4 ((85 : Int32) + l1) (fun x5 => bGR 9 l0 24 (fun x6 => bAI 11 x6 (((97 : Int32) + ((8 : Int32) * l2)) + l3) (fun x7 => bSI x3 ((((97 : Int32) + ((8 : Int32) * l1)) + x5) + l3) x7 (bGR 9 l0 24 (fun x8 => bGR 9 l0 24 (fun x9 => bAI 11 x9 ((85 : Int32) + l1) (fun x10 => bGR 9 l0 24 (fun x11 => bAI 11 x11 (((193 : Int32) + ((8 : Int32) * l2)) + l3) (fun x12 => bSI x8 ((((193 : Int32) + ((8 : Int32) * l1)) + x10) + l3) x12 ((fX9_knot_114 n) l0 l1 l2 (l3 + 1)))))))))))))))) := rfl
set_option maxRecDepth 20000 in
theorem rX9_knot_114 (v : mE) (d : Nat) : ∀ (n : Nat) (l0 : Nat) (l1 : Int32) (l2 : Int32) (l3 : Int32), Rz v RX9 cX9_knot 4 (some .int) false emI (d + 2) 114 [(0, vR l0), (1, vI l1), (2, vI l2), (3, vI l3)] [] (fX9_knot_114 n l0 l1 l2 l3)
  | 0, _, _, _, _ => fun _ _ _ hm => by cases hm
  | n + 1, l0, l1, l2, l3 => by
    have h114 := rX9_knot_114 v d n
    unfold fX9_knot_114
    generalize fX9_knot_114 n = r114 at h114 ⊢
    refine rz_iload_n 115 3 dX9_knot_114 rfl rfl ?_
    refine rz_aload_n 116 0 dX9_knot_115 rfl rfl ?_
    refine rz_gR 119 dX9_knot_116 rfl rfl fl_X9_35 (fun x1 => ?_)
    refine rz_bipush 121 dX9_knot_119 rfl cb_85 ?_
    refine rz_iload_n 122 2 dX9_knot_121 rfl rfl ?_
    refine rz_iadd 123 dX9_knot_122 rfl ?_
    refine rz_iald 124 dX9_knot_123 rfl (fun x2 => ?_)
    refine rz_icmp_ge 211 127 dX9_knot_124 rfl rfl ?_ ?_
    · exact rz_sub [0, 1, 2] rfl (rX9_knot_211 v d l0 l1 l2)
    · refine rz_aload_n 128 0 dX9_knot_127 rfl rfl ?_
      refine rz_gR 131 dX9_knot_128 rfl rfl fl_X9_35 (fun x3 => ?_)
      refine rz_bipush 133 dX9_knot_131 rfl cb_97 ?_
      refine rz_bipush 135 dX9_knot_133 rfl cb_8 ?_
      refine rz_iload_n 136 1 dX9_knot_135 rfl rfl ?_
      refine rz_imul 137 dX9_knot_136 rfl ?_
      refine rz_iadd 138 dX9_knot_137 rfl ?_
      refine rz_aload_n 139 0 dX9_knot_138 rfl rfl ?_
      refine rz_gR 142 dX9_knot_139 rfl rfl fl_X9_35 (fun x4 => ?_)
      refine rz_bipush 144 dX9_knot_142 rfl cb_85 ?_
      refine rz_iload_n 145 1 dX9_knot_144 rfl rfl ?_
      refine rz_iadd 146 dX9_knot_145 rfl ?_
      refine rz_iald 147 dX9_knot_146 rfl (fun x5 => ?_)
      refine rz_iadd 148 dX9_knot_147 rfl ?_
      refine rz_iload_n 149 3 dX9_knot_148 rfl rfl ?_
      refine rz_iadd 150 dX9_knot_149 rfl ?_
      refine rz_aload_n 151 0 dX9_knot_150 rfl rfl ?_
      refine rz_gR 154 dX9_knot_151 rfl rfl fl_X9_35 (fun x6 => ?_)
      refine rz_bipush 156 dX9_knot_154 rfl cb_97 ?_
      refine rz_bipush 158 dX9_knot_156 rfl cb_8 ?_
      refine rz_iload_n 159 2 dX9_knot_158 rfl rfl ?_
      refine rz_imul 160 dX9_knot_159 rfl ?_
      refine rz_iadd 161 dX9_knot_160 rfl ?_
      refine rz_iload_n 162 3 dX9_knot_161 rfl rfl ?_
      refine rz_iadd 163 dX9_knot_162 rfl ?_
      refine rz_iald 164 dX9_knot_163 rfl (fun x7 => ?_)
      refine rz_iast 165 dX9_knot_164 rfl ?_
      refine rz_aload_n 166 0 dX9_knot_165 rfl rfl ?_
      refine rz_gR 169 dX9_knot_166 rfl rfl fl_X9_35 (fun x8 => ?_)
      refine rz_sipush 172 dX9_knot_169 rfl cs_193 ?_
      refine rz_bipush 174 dX9_knot_172 rfl cb_8 ?_
      refine rz_iload_n 175 1 dX9_knot_174 rfl rfl ?_
      refine rz_imul 176 dX9_knot_175 rfl ?_
      refine rz_iadd 177 dX9_knot_176 rfl ?_
      refine rz_aload_n 178 0 dX9_knot_177 rfl rfl ?_
      refine rz_gR 181 dX9_knot_178 rfl rfl fl_X9_35 (fun x9 => ?_)
      refine rz_bipush 183 dX9_knot_181 rfl cb_85 ?_
      refine rz_iload_n 184 1 dX9_knot_183 rfl rfl ?_
      refine rz_iadd 185 dX9_knot_184 rfl ?_
      refine rz_iald 186 dX9_knot_185 rfl (fun x10 => ?_)
      refine rz_iadd 187 dX9_knot_186 rfl ?_
      refine rz_iload_n 188 3 dX9_knot_187 rfl rfl ?_
      refine rz_iadd 189 dX9_knot_188 rfl ?_
      refine rz_aload_n 190 0 dX9_knot_189 rfl rfl ?_
      refine rz_gR 193 dX9_knot_190 rfl rfl fl_X9_35 (fun x11 => ?_)
      refine rz_sipush 196 dX9_knot_193 rfl cs_193 ?_
      refine rz_bipush 198 dX9_knot_196 rfl cb_8 ?_
      refine rz_iload_n 199 2 dX9_knot_198 rfl rfl ?_
      refine rz_imul 200 dX9_knot_199 rfl ?_
      refine rz_iadd 201 dX9_knot_200 rfl ?_
      refine rz_iload_n 202 3 dX9_knot_201 rfl rfl ?_
      refine rz_iadd 203 dX9_knot_202 rfl ?_
      refine rz_iald 204 dX9_knot_203 rfl (fun x12 => ?_)
      refine rz_iast 205 dX9_knot_204 rfl ?_
      refine rz_iinc (lv' := [(3, vI (l3 + 1)), (0, vR l0), (1, vI l1), (2, vI l2)]) 208 3 dX9_knot_205 rfl rfl (cn_1 _) rfl rfl ?_
      refine rz_goto 114 dX9_knot_208 rfl ?_
      exact rz_sub [1, 2, 3, 0] rfl (h114 l0 l1 l2 (l3 + 1))
def fX9_knot_105 (l0 : Nat) : mM Int32 := bCallV 9 l0 (fX9_refuse l0 (9 : Int32)) (fun x1 => bRet x1)
set_option maxRecDepth 20000 in
theorem rX9_knot_105 (v : mE) (d : Nat) (l0 : Nat) : Rz v RX9 cX9_knot 4 (some .int) false emI (d + 2) 105 [(0, vR l0)] [] (fX9_knot_105 l0) := by
  unfold fX9_knot_105
  refine rz_aload_n 106 0 dX9_knot_105 rfl rfl ?_
  refine rz_bipush 108 dX9_knot_106 rfl cb_9 ?_
  refine rz_callV 111 dX9_knot_108 rfl (tX9_refuse v (d + 1) l0 (9 : Int32)) rfl rfl rfl rfl ml_X9_357 im_X9_refuse se_X9_X9_refuse in_X9 co_X9_refuse rfl rfl (fun x1 => ?_)
  exact rz_ireturn rfl rfl dX9_knot_111
def fX9_knot_31 (l0 : Nat) : mM Int32 := bCallV 9 l0 (fX9_refuse l0 (2 : Int32)) (fun x1 => bRet x1)
set_option maxRecDepth 20000 in
theorem rX9_knot_31 (v : mE) (d : Nat) (l0 : Nat) : Rz v RX9 cX9_knot 4 (some .int) false emI (d + 2) 31 [(0, vR l0)] [] (fX9_knot_31 l0) := by
  unfold fX9_knot_31
  refine rz_aload_n 32 0 dX9_knot_31 rfl rfl ?_
  refine rz_iconst 33 dX9_knot_32 rfl ci_2 ?_
  refine rz_callV 36 dX9_knot_33 rfl (tX9_refuse v (d + 1) l0 (2 : Int32)) rfl rfl rfl rfl ml_X9_357 im_X9_refuse se_X9_X9_refuse in_X9 co_X9_refuse rfl rfl (fun x1 => ?_)
  exact rz_ireturn rfl rfl dX9_knot_36
def fX9_knot (l0 : Nat) (l1 : Int32) (l2 : Int32) : mM Int32 := bPI 9 l0 1 (0 : Int32) (bPI 9 l0 0 (0 : Int32) (bCallV 9 l0 (fX9_isRope l0 l1) (fun x1 => bIf (x1 = 0) (fX9_knot_31 l0) (bCallV 9 l0 (fX9_isRope l0 l2) (fun x2 => bIf (x2 = 0) (fX9_knot_31 l0) (bIf (l1 = l2) (fX9_knot_31 l0) (bGR 9 l0 24 (fun x3 => bAI 11 x3 ((85 : Int32) + l1) (fun x4 => bGR 9 l0 24 (fun x5 => bAI 11 x5 ((85 : Int32) + l2) (fun x6 => bIf ((x4 + x6) ≤ (8 : Int32)) (bCallV 9 l0 (fX9_isFree l0 l1) (fun x7 => bIf (x7 = 0) (fX9_knot_105 l0) (bCallV 9 l0 (fX9_isFree l0 l2) (fun x8 => bIf (x8 = 0) (fX9_knot_105 l0) (bGR 9 l0 24 (fun x9 => bAI 11 x9 ((37 : Int32) + l1) (fun x10 => bGR 9 l0 24 (fun x11 => bAI 11 x11 ((37 : Int32) + l2) (fun x12 => bIf (x10 = x12) (fX9_knot_114 fu l0 l1 l2 (0 : Int32)) (fX9_knot_105 l0)))))))))) (bCallV 9 l0 (fX9_refuse l0 (7 : Int32)) (fun x13 => bRet x13)))))))))))))
set_option maxRecDepth 20000 in
theorem rX9_knot (v : mE) (d : Nat) (l0 : Nat) (l1 : Int32) (l2 : Int32) : Rz v RX9 cX9_knot 4 (some .int) false emI (d + 2) 0 [(0, vR l0), (1, vI l1), (2, vI l2)] [] (fX9_knot l0 l1 l2) := by
  unfold fX9_knot
  refine rz_aload_n 1 0 dX9_knot_0 rfl rfl ?_
  refine rz_iconst 2 dX9_knot_1 rfl ci_0 ?_
  refine rz_pI 5 dX9_knot_2 rfl rfl rfl rfl fl_X9_62 ?_
  refine rz_aload_n 6 0 dX9_knot_5 rfl rfl ?_
  refine rz_iconst 7 dX9_knot_6 rfl ci_0 ?_
  refine rz_pI 10 dX9_knot_7 rfl rfl rfl rfl fl_X9_65 ?_
  refine rz_aload_n 11 0 dX9_knot_10 rfl rfl ?_
  refine rz_iload_n 12 1 dX9_knot_11 rfl rfl ?_
  refine rz_callV 15 dX9_knot_12 rfl (tX9_isRope v (d + 0) l0 l1) rfl rfl rfl rfl ml_X9_318 im_X9_isRope se_X9_X9_isRope in_X9 co_X9_isRope rfl rfl (fun x1 => ?_)
  refine rz_if_eq 31 18 dX9_knot_15 rfl rfl ?_ ?_
  · exact rz_sub [0] rfl (rX9_knot_31 v d l0)
  · refine rz_aload_n 19 0 dX9_knot_18 rfl rfl ?_
    refine rz_iload_n 20 2 dX9_knot_19 rfl rfl ?_
    refine rz_callV 23 dX9_knot_20 rfl (tX9_isRope v (d + 0) l0 l2) rfl rfl rfl rfl ml_X9_318 im_X9_isRope se_X9_X9_isRope in_X9 co_X9_isRope rfl rfl (fun x2 => ?_)
    refine rz_if_eq 31 26 dX9_knot_23 rfl rfl ?_ ?_
    · exact rz_sub [0] rfl (rX9_knot_31 v d l0)
    · refine rz_iload_n 27 1 dX9_knot_26 rfl rfl ?_
      refine rz_iload_n 28 2 dX9_knot_27 rfl rfl ?_
      refine rz_icmp_ne 37 31 dX9_knot_28 rfl rfl ?_ ?_
      · refine rz_aload_n 38 0 dX9_knot_37 rfl rfl ?_
        refine rz_gR 41 dX9_knot_38 rfl rfl fl_X9_35 (fun x3 => ?_)
        refine rz_bipush 43 dX9_knot_41 rfl cb_85 ?_
        refine rz_iload_n 44 1 dX9_knot_43 rfl rfl ?_
        refine rz_iadd 45 dX9_knot_44 rfl ?_
        refine rz_iald 46 dX9_knot_45 rfl (fun x4 => ?_)
        refine rz_aload_n 47 0 dX9_knot_46 rfl rfl ?_
        refine rz_gR 50 dX9_knot_47 rfl rfl fl_X9_35 (fun x5 => ?_)
        refine rz_bipush 52 dX9_knot_50 rfl cb_85 ?_
        refine rz_iload_n 53 2 dX9_knot_52 rfl rfl ?_
        refine rz_iadd 54 dX9_knot_53 rfl ?_
        refine rz_iald 55 dX9_knot_54 rfl (fun x6 => ?_)
        refine rz_iadd 56 dX9_knot_55 rfl ?_
        refine rz_bipush 58 dX9_knot_56 rfl cb_8 ?_
        refine rz_icmp_le 68 61 dX9_knot_58 rfl rfl ?_ ?_
        · refine rz_aload_n 69 0 dX9_knot_68 rfl rfl ?_
          refine rz_iload_n 70 1 dX9_knot_69 rfl rfl ?_
          refine rz_callV 73 dX9_knot_70 rfl (tX9_isFree v (d + 1) l0 l1) rfl rfl rfl rfl ml_X9_443 im_X9_isFree se_X9_X9_isFree in_X9 co_X9_isFree rfl rfl (fun x7 => ?_)
          refine rz_if_eq 105 76 dX9_knot_73 rfl rfl ?_ ?_
          · exact rz_sub [0] rfl (rX9_knot_105 v d l0)
          · refine rz_aload_n 77 0 dX9_knot_76 rfl rfl ?_
            refine rz_iload_n 78 2 dX9_knot_77 rfl rfl ?_
            refine rz_callV 81 dX9_knot_78 rfl (tX9_isFree v (d + 1) l0 l2) rfl rfl rfl rfl ml_X9_443 im_X9_isFree se_X9_X9_isFree in_X9 co_X9_isFree rfl rfl (fun x8 => ?_)
            refine rz_if_eq 105 84 dX9_knot_81 rfl rfl ?_ ?_
            · exact rz_sub [0] rfl (rX9_knot_105 v d l0)
            · refine rz_aload_n 85 0 dX9_knot_84 rfl rfl ?_
              refine rz_gR 88 dX9_knot_85 rfl rfl fl_X9_35 (fun x9 => ?_)
              refine rz_bipush 90 dX9_knot_88 rfl cb_37 ?_
              refine rz_iload_n 91 1 dX9_knot_90 rfl rfl ?_
              refine rz_iadd 92 dX9_knot_91 rfl ?_
              refine rz_iald 93 dX9_knot_92 rfl (fun x10 => ?_)
              refine rz_aload_n 94 0 dX9_knot_93 rfl rfl ?_
              refine rz_gR 97 dX9_knot_94 rfl rfl fl_X9_35 (fun x11 => ?_)
              refine rz_bipush 99 dX9_knot_97 rfl cb_37 ?_
              refine rz_iload_n 100 2 dX9_knot_99 rfl rfl ?_
              refine rz_iadd 101 dX9_knot_100 rfl ?_
              refine rz_iald 102 dX9_knot_101 rfl (fun x12 => ?_)
              refine rz_icmp_eq 112 105 dX9_knot_102 rfl rfl ?_ ?_
              · refine rz_iconst 113 dX9_knot_112 rfl ci_0 ?_
                refine rz_istore_n (lv' := [(3, vI (0 : Int32)), (0, vR l0), (1, vI l1), (2, vI l2)]) 114 dX9_knot_113 rfl rfl rfl ?_
                exact rz_sub [1, 2, 3, 0] rfl (rX9_knot_114 v d fu l0 l1 l2 (0 : Int32))
              · exact rz_sub [0] rfl (rX9_knot_105 v d l0)
        · refine rz_aload_n 62 0 dX9_knot_61 rfl rfl ?_
          refine rz_bipush 64 dX9_knot_62 rfl cb_7 ?_
          refine rz_callV 67 dX9_knot_64 rfl (tX9_refuse v (d + 1) l0 (7 : Int32)) rfl rfl rfl rfl ml_X9_357 im_X9_refuse se_X9_X9_refuse in_X9 co_X9_refuse rfl rfl (fun x13 => ?_)
          exact rz_ireturn rfl rfl dX9_knot_67
      · exact rz_sub [0] rfl (rX9_knot_31 v d l0)
theorem tX9_knot (v : mE) (d : Nat) (l0 : Nat) (l1 : Int32) (l2 : Int32) : Mt v yX9_knot cX9_knot 4 (some .int) emI (d + 2) [vR l0, vI l1, vI l2] (fX9_knot l0 l1 l2) := mt_of rfl rfl (fun h => by cases h) rfl rfl (rX9_knot v d l0 l1 l2)

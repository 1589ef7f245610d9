theorem dX4_init_0 : decode cX4_init 0 = .ok (.aload_n 0, 1) := by decide +kernel
theorem dX4_init_1 : decode cX4_init 1 = .ok (.invokespecial 3, 3) := by decide +kernel
theorem dX4_init_4 : decode cX4_init 4 = .ok (.aload_n 0, 1) := by decide +kernel
theorem dX4_init_5 : decode cX4_init 5 = .ok (.iconst 0, 1) := by decide +kernel
theorem dX4_init_6 : decode cX4_init 6 = .ok (.putfield 9, 3) := by decide +kernel
theorem dX4_init_9 : decode cX4_init 9 = .ok (.aload_n 0, 1) := by decide +kernel
theorem dX4_init_10 : decode cX4_init 10 = .ok (.iconst 0, 1) := by decide +kernel
theorem dX4_init_11 : decode cX4_init 11 = .ok (.putfield 15, 3) := by decide +kernel
theorem dX4_init_14 : decode cX4_init 14 = .ok (.aload_n 0, 1) := by decide +kernel
theorem dX4_init_15 : decode cX4_init 15 = .ok (.iconst 0, 1) := by decide +kernel
theorem dX4_init_16 : decode cX4_init 16 = .ok (.putfield 18, 3) := by decide +kernel
theorem dX4_init_19 : decode cX4_init 19 = .ok (.aload_n 0, 1) := by decide +kernel
theorem dX4_init_20 : decode cX4_init 20 = .ok (.iconst 0, 1) := by decide +kernel
theorem dX4_init_21 : decode cX4_init 21 = .ok (.putfield 21, 3) := by decide +kernel
theorem dX4_init_24 : decode cX4_init 24 = .ok (.aload_n 0, 1) := by decide +kernel
theorem dX4_init_25 : decode cX4_init 25 = .ok (.iconst 0, 1) := by decide +kernel
theorem dX4_init_26 : decode cX4_init 26 = .ok (.putfield 24, 3) := by decide +kernel
theorem dX4_init_29 : decode cX4_init 29 = .ok (.aload_n 0, 1) := by decide +kernel
theorem dX4_init_30 : decode cX4_init 30 = .ok (.iconst 0, 1) := by decide +kernel
theorem dX4_init_31 : decode cX4_init 31 = .ok (.putfield 27, 3) := by decide +kernel
theorem dX4_init_34 : decode cX4_init 34 = .ok (.aload_n 0, 1) := by decide +kernel
theorem dX4_init_35 : decode cX4_init 35 = .ok (.iconst 0, 1) := by decide +kernel
theorem dX4_init_36 : decode cX4_init 36 = .ok (.putfield 30, 3) := by decide +kernel
theorem dX4_init_39 : decode cX4_init 39 = .ok (.aload_n 0, 1) := by decide +kernel
theorem dX4_init_40 : decode cX4_init 40 = .ok (.iconst (-1), 1) := by decide +kernel
theorem dX4_init_41 : decode cX4_init 41 = .ok (.putfield 33, 3) := by decide +kernel
theorem dX4_init_44 : decode cX4_init 44 = .ok (.aload_n 0, 1) := by decide +kernel
theorem dX4_init_45 : decode cX4_init 45 = .ok (.aload_n 1, 1) := by decide +kernel
theorem dX4_init_46 : decode cX4_init 46 = .ok (.putfield 36, 3) := by decide +kernel
theorem dX4_init_49 : decode cX4_init 49 = .ok (.return_, 1) := by decide +kernel
def fX4_init (l0 : Nat) (l1 : Nat) : mM Unit := bObj l0 (bPI 4 l0 1 (0 : Int32) (bPI 4 l0 2 (0 : Int32) (bPI 4 l0 3 (0 : Int32) (bPI 4 l0 4 (0 : Int32) (bPI 4 l0 5 (0 : Int32) (bPI 4 l0 6 (0 : Int32) (bPI 4 l0 7 (0 : Int32) (bPI 4 l0 8 (-1 : Int32) (bPR 4 l0 0 l1 (bRet ()))))))))))
set_option maxRecDepth 20000 in
theorem rX4_init (v : mE) (d : Nat) (l0 : Nat) (l1 : Nat) : Rz v RX4 cX4_init 2 none true emU (d + 1) 0 [(0, vR l0), (1, vR l1)] [] (fX4_init l0 l1) := by
  unfold fX4_init
  refine rz_aload_n 1 0 dX4_init_0 rfl rfl ?_
  refine rz_obj 4 dX4_init_1 rfl ml_X4_3 im_java_lang_Object__init____V co_java_lang_Object__init____V rfl rfl ?_
  refine rz_aload_n 5 0 dX4_init_4 rfl rfl ?_
  refine rz_iconst 6 dX4_init_5 rfl ci_0 ?_
  refine rz_pI 9 dX4_init_6 rfl rfl rfl rfl fl_X4_9 ?_
  refine rz_aload_n 10 0 dX4_init_9 rfl rfl ?_
  refine rz_iconst 11 dX4_init_10 rfl ci_0 ?_
  refine rz_pI 14 dX4_init_11 rfl rfl rfl rfl fl_X4_15 ?_
  refine rz_aload_n 15 0 dX4_init_14 rfl rfl ?_
  refine rz_iconst 16 dX4_init_15 rfl ci_0 ?_
  refine rz_pI 19 dX4_init_16 rfl rfl rfl rfl fl_X4_18 ?_
  refine rz_aload_n 20 0 dX4_init_19 rfl rfl ?_
  refine rz_iconst 21 dX4_init_20 rfl ci_0 ?_
  refine rz_pI 24 dX4_init_21 rfl rfl rfl rfl fl_X4_21 ?_
  refine rz_aload_n 25 0 dX4_init_24 rfl rfl ?_
  refine rz_iconst 26 dX4_init_25 rfl ci_0 ?_
  refine rz_pI 29 dX4_init_26 rfl rfl rfl rfl fl_X4_24 ?_
  refine rz_aload_n 30 0 dX4_init_29 rfl rfl ?_
  refine rz_iconst 31 dX4_init_30 rfl ci_0 ?_
  refine rz_pI 34 dX4_init_31 rfl rfl rfl rfl fl_X4_27 ?_
  refine rz_aload_n 35 0 dX4_init_34 rfl rfl ?_
  refine rz_iconst 36 dX4_init_35 rfl ci_0 ?_
  refine rz_pI 39 dX4_init_36 rfl rfl rfl rfl fl_X4_30 ?_
  refine rz_aload_n 40 0 dX4_init_39 rfl rfl ?_
  refine rz_iconst 41 dX4_init_40 rfl ci_m1 ?_
  refine rz_pI 44 dX4_init_41 rfl rfl rfl rfl fl_X4_33 ?_
  refine rz_aload_n 45 0 dX4_init_44 rfl rfl ?_
  refine rz_aload_n 46 1 dX4_init_45 rfl rfl ?_
  refine rz_pR 49 dX4_init_46 rfl rfl rfl fl_X4_36 ?_
  exact rz_return rfl rfl dX4_init_49
theorem tX4_init (v : mE) (d : Nat) (l0 : Nat) (l1 : Nat) : Mt v yX4_init cX4_init 2 none emU (d + 1) [vR l0, vR l1] (fX4_init l0 l1) := mt_of rfl rfl (fun _ => rfl) rfl rfl (rX4_init v d l0 l1)
theorem dX4_next_0 : decode cX4_next 0 = .ok (.aload_n 0, 1) := by decide +kernel
theorem dX4_next_1 : decode cX4_next 1 = .ok (.getfield 21, 3) := by decide +kernel
theorem dX4_next_4 : decode cX4_next 4 = .ok (.istore_n 1, 1) := by decide +kernel
theorem dX4_next_5 : decode cX4_next 5 = .ok (.iload_n 1, 1) := by decide +kernel
theorem dX4_next_6 : decode cX4_next 6 = .ok (.aload_n 0, 1) := by decide +kernel
theorem dX4_next_7 : decode cX4_next 7 = .ok (.getfield 9, 3) := by decide +kernel
theorem dX4_next_10 : decode cX4_next 10 = .ok (.if_icmp .ge 31, 3) := by decide +kernel
theorem dX4_next_13 : decode cX4_next 13 = .ok (.aload_n 0, 1) := by decide +kernel
theorem dX4_next_14 : decode cX4_next 14 = .ok (.getfield 36, 3) := by decide +kernel
theorem dX4_next_17 : decode cX4_next 17 = .ok (.iload_n 1, 1) := by decide +kernel
theorem dX4_next_18 : decode cX4_next 18 = .ok (.baload, 1) := by decide +kernel
theorem dX4_next_19 : decode cX4_next 19 = .ok (.bipush 32, 2) := by decide +kernel
theorem dX4_next_21 : decode cX4_next 21 = .ok (.if_icmp .eq 14, 3) := by decide +kernel
theorem dX4_next_24 : decode cX4_next 24 = .ok (.aload_n 0, 1) := by decide +kernel
theorem dX4_next_25 : decode cX4_next 25 = .ok (.getfield 36, 3) := by decide +kernel
theorem dX4_next_28 : decode cX4_next 28 = .ok (.iload_n 1, 1) := by decide +kernel
theorem dX4_next_29 : decode cX4_next 29 = .ok (.baload, 1) := by decide +kernel
theorem dX4_next_30 : decode cX4_next 30 = .ok (.bipush 10, 2) := by decide +kernel
theorem dX4_next_32 : decode cX4_next 32 = .ok (.if_icmp .ne 9, 3) := by decide +kernel
theorem dX4_next_35 : decode cX4_next 35 = .ok (.iinc 1 1, 3) := by decide +kernel
theorem dX4_next_38 : decode cX4_next 38 = .ok (.goto (-33), 3) := by decide +kernel
theorem dX4_next_41 : decode cX4_next 41 = .ok (.aload_n 0, 1) := by decide +kernel
theorem dX4_next_42 : decode cX4_next 42 = .ok (.iload_n 1, 1) := by decide +kernel
theorem dX4_next_43 : decode cX4_next 43 = .ok (.putfield 18, 3) := by decide +kernel
theorem dX4_next_46 : decode cX4_next 46 = .ok (.aload_n 0, 1) := by decide +kernel
theorem dX4_next_47 : decode cX4_next 47 = .ok (.iconst 0, 1) := by decide +kernel
theorem dX4_next_48 : decode cX4_next 48 = .ok (.putfield 24, 3) := by decide +kernel
theorem dX4_next_51 : decode cX4_next 51 = .ok (.iload_n 1, 1) := by decide +kernel
theorem dX4_next_52 : decode cX4_next 52 = .ok (.aload_n 0, 1) := by decide +kernel
theorem dX4_next_53 : decode cX4_next 53 = .ok (.getfield 9, 3) := by decide +kernel
theorem dX4_next_56 : decode cX4_next 56 = .ok (.if_icmp .lt 11, 3) := by decide +kernel
theorem dX4_next_59 : decode cX4_next 59 = .ok (.aload_n 0, 1) := by decide +kernel
theorem dX4_next_60 : decode cX4_next 60 = .ok (.iconst 0, 1) := by decide +kernel
theorem dX4_next_61 : decode cX4_next 61 = .ok (.putfield 15, 3) := by decide +kernel
theorem dX4_next_64 : decode cX4_next 64 = .ok (.goto 226, 3) := by decide +kernel
theorem dX4_next_67 : decode cX4_next 67 = .ok (.aload_n 0, 1) := by decide +kernel
theorem dX4_next_68 : decode cX4_next 68 = .ok (.getfield 36, 3) := by decide +kernel
theorem dX4_next_71 : decode cX4_next 71 = .ok (.iload_n 1, 1) := by decide +kernel
theorem dX4_next_72 : decode cX4_next 72 = .ok (.baload, 1) := by decide +kernel
theorem dX4_next_73 : decode cX4_next 73 = .ok (.bipush 97, 2) := by decide +kernel
theorem dX4_next_75 : decode cX4_next 75 = .ok (.if_icmp .lt 55, 3) := by decide +kernel
theorem dX4_next_78 : decode cX4_next 78 = .ok (.aload_n 0, 1) := by decide +kernel
theorem dX4_next_79 : decode cX4_next 79 = .ok (.getfield 36, 3) := by decide +kernel
theorem dX4_next_82 : decode cX4_next 82 = .ok (.iload_n 1, 1) := by decide +kernel
theorem dX4_next_83 : decode cX4_next 83 = .ok (.baload, 1) := by decide +kernel
theorem dX4_next_84 : decode cX4_next 84 = .ok (.bipush 122, 2) := by decide +kernel
theorem dX4_next_86 : decode cX4_next 86 = .ok (.if_icmp .gt 44, 3) := by decide +kernel
theorem dX4_next_89 : decode cX4_next 89 = .ok (.aload_n 0, 1) := by decide +kernel
theorem dX4_next_90 : decode cX4_next 90 = .ok (.iconst 1, 1) := by decide +kernel
theorem dX4_next_91 : decode cX4_next 91 = .ok (.putfield 15, 3) := by decide +kernel
theorem dX4_next_94 : decode cX4_next 94 = .ok (.iload_n 1, 1) := by decide +kernel
theorem dX4_next_95 : decode cX4_next 95 = .ok (.aload_n 0, 1) := by decide +kernel
theorem dX4_next_96 : decode cX4_next 96 = .ok (.getfield 9, 3) := by decide +kernel
theorem dX4_next_99 : decode cX4_next 99 = .ok (.if_icmp .ge 191, 3) := by decide +kernel
theorem dX4_next_102 : decode cX4_next 102 = .ok (.aload_n 0, 1) := by decide +kernel
theorem dX4_next_103 : decode cX4_next 103 = .ok (.getfield 36, 3) := by decide +kernel
theorem dX4_next_106 : decode cX4_next 106 = .ok (.iload_n 1, 1) := by decide +kernel
theorem dX4_next_107 : decode cX4_next 107 = .ok (.baload, 1) := by decide +kernel
theorem dX4_next_108 : decode cX4_next 108 = .ok (.bipush 97, 2) := by decide +kernel
theorem dX4_next_110 : decode cX4_next 110 = .ok (.if_icmp .lt 180, 3) := by decide +kernel
theorem dX4_next_113 : decode cX4_next 113 = .ok (.aload_n 0, 1) := by decide +kernel
theorem dX4_next_114 : decode cX4_next 114 = .ok (.getfield 36, 3) := by decide +kernel
theorem dX4_next_117 : decode cX4_next 117 = .ok (.iload_n 1, 1) := by decide +kernel
theorem dX4_next_118 : decode cX4_next 118 = .ok (.baload, 1) := by decide +kernel
theorem dX4_next_119 : decode cX4_next 119 = .ok (.bipush 122, 2) := by decide +kernel
theorem dX4_next_121 : decode cX4_next 121 = .ok (.if_icmp .gt 169, 3) := by decide +kernel
theorem dX4_next_124 : decode cX4_next 124 = .ok (.iinc 1 1, 3) := by decide +kernel
theorem dX4_next_127 : decode cX4_next 127 = .ok (.goto (-33), 3) := by decide +kernel
theorem dX4_next_130 : decode cX4_next 130 = .ok (.aload_n 0, 1) := by decide +kernel
theorem dX4_next_131 : decode cX4_next 131 = .ok (.getfield 36, 3) := by decide +kernel
theorem dX4_next_134 : decode cX4_next 134 = .ok (.iload_n 1, 1) := by decide +kernel
theorem dX4_next_135 : decode cX4_next 135 = .ok (.baload, 1) := by decide +kernel
theorem dX4_next_136 : decode cX4_next 136 = .ok (.bipush 48, 2) := by decide +kernel
theorem dX4_next_138 : decode cX4_next 138 = .ok (.if_icmp .lt 110, 3) := by decide +kernel
theorem dX4_next_141 : decode cX4_next 141 = .ok (.aload_n 0, 1) := by decide +kernel
theorem dX4_next_142 : decode cX4_next 142 = .ok (.getfield 36, 3) := by decide +kernel
theorem dX4_next_145 : decode cX4_next 145 = .ok (.iload_n 1, 1) := by decide +kernel
theorem dX4_next_146 : decode cX4_next 146 = .ok (.baload, 1) := by decide +kernel
theorem dX4_next_147 : decode cX4_next 147 = .ok (.bipush 57, 2) := by decide +kernel
theorem dX4_next_149 : decode cX4_next 149 = .ok (.if_icmp .gt 99, 3) := by decide +kernel
theorem dX4_next_152 : decode cX4_next 152 = .ok (.iload_n 1, 1) := by decide +kernel
theorem dX4_next_153 : decode cX4_next 153 = .ok (.aload_n 0, 1) := by decide +kernel
theorem dX4_next_154 : decode cX4_next 154 = .ok (.getfield 9, 3) := by decide +kernel
theorem dX4_next_157 : decode cX4_next 157 = .ok (.if_icmp .ge 69, 3) := by decide +kernel
theorem dX4_next_160 : decode cX4_next 160 = .ok (.aload_n 0, 1) := by decide +kernel
theorem dX4_next_161 : decode cX4_next 161 = .ok (.getfield 36, 3) := by decide +kernel
theorem dX4_next_164 : decode cX4_next 164 = .ok (.iload_n 1, 1) := by decide +kernel
theorem dX4_next_165 : decode cX4_next 165 = .ok (.baload, 1) := by decide +kernel
theorem dX4_next_166 : decode cX4_next 166 = .ok (.bipush 48, 2) := by decide +kernel
theorem dX4_next_168 : decode cX4_next 168 = .ok (.if_icmp .lt 58, 3) := by decide +kernel
theorem dX4_next_171 : decode cX4_next 171 = .ok (.aload_n 0, 1) := by decide +kernel
theorem dX4_next_172 : decode cX4_next 172 = .ok (.getfield 36, 3) := by decide +kernel
theorem dX4_next_175 : decode cX4_next 175 = .ok (.iload_n 1, 1) := by decide +kernel
theorem dX4_next_176 : decode cX4_next 176 = .ok (.baload, 1) := by decide +kernel
theorem dX4_next_177 : decode cX4_next 177 = .ok (.bipush 57, 2) := by decide +kernel
theorem dX4_next_179 : decode cX4_next 179 = .ok (.if_icmp .gt 47, 3) := by decide +kernel
theorem dX4_next_182 : decode cX4_next 182 = .ok (.aload_n 0, 1) := by decide +kernel
theorem dX4_next_183 : decode cX4_next 183 = .ok (.iload_n 1, 1) := by decide +kernel
theorem dX4_next_184 : decode cX4_next 184 = .ok (.aload_n 0, 1) := by decide +kernel
theorem dX4_next_185 : decode cX4_next 185 = .ok (.getfield 18, 3) := by decide +kernel
theorem dX4_next_188 : decode cX4_next 188 = .ok (.isub, 1) := by decide +kernel
theorem dX4_next_189 : decode cX4_next 189 = .ok (.iconst 4, 1) := by decide +kernel
theorem dX4_next_190 : decode cX4_next 190 = .ok (.if_icmp .ge 23, 3) := by decide +kernel
theorem dX4_next_193 : decode cX4_next 193 = .ok (.aload_n 0, 1) := by decide +kernel
theorem dX4_next_194 : decode cX4_next 194 = .ok (.getfield 24, 3) := by decide +kernel
theorem dX4_next_197 : decode cX4_next 197 = .ok (.bipush 10, 2) := by decide +kernel
theorem dX4_next_199 : decode cX4_next 199 = .ok (.imul, 1) := by decide +kernel
theorem dX4_next_200 : decode cX4_next 200 = .ok (.aload_n 0, 1) := by decide +kernel
theorem dX4_next_201 : decode cX4_next 201 = .ok (.getfield 36, 3) := by decide +kernel
theorem dX4_next_204 : decode cX4_next 204 = .ok (.iload_n 1, 1) := by decide +kernel
theorem dX4_next_205 : decode cX4_next 205 = .ok (.baload, 1) := by decide +kernel
theorem dX4_next_206 : decode cX4_next 206 = .ok (.iadd, 1) := by decide +kernel
theorem dX4_next_207 : decode cX4_next 207 = .ok (.bipush 48, 2) := by decide +kernel
theorem dX4_next_209 : decode cX4_next 209 = .ok (.isub, 1) := by decide +kernel
theorem dX4_next_210 : decode cX4_next 210 = .ok (.goto 7, 3) := by decide +kernel
theorem dX4_next_213 : decode cX4_next 213 = .ok (.aload_n 0, 1) := by decide +kernel
theorem dX4_next_214 : decode cX4_next 214 = .ok (.getfield 24, 3) := by decide +kernel
theorem dX4_next_217 : decode cX4_next 217 = .ok (.putfield 24, 3) := by decide +kernel
theorem dX4_next_220 : decode cX4_next 220 = .ok (.iinc 1 1, 3) := by decide +kernel
theorem dX4_next_223 : decode cX4_next 223 = .ok (.goto (-71), 3) := by decide +kernel
theorem dX4_next_226 : decode cX4_next 226 = .ok (.aload_n 0, 1) := by decide +kernel
theorem dX4_next_227 : decode cX4_next 227 = .ok (.iload_n 1, 1) := by decide +kernel
theorem dX4_next_228 : decode cX4_next 228 = .ok (.aload_n 0, 1) := by decide +kernel
theorem dX4_next_229 : decode cX4_next 229 = .ok (.getfield 18, 3) := by decide +kernel
theorem dX4_next_232 : decode cX4_next 232 = .ok (.isub, 1) := by decide +kernel
theorem dX4_next_233 : decode cX4_next 233 = .ok (.iconst 4, 1) := by decide +kernel
theorem dX4_next_234 : decode cX4_next 234 = .ok (.if_icmp .le 7, 3) := by decide +kernel
theorem dX4_next_237 : decode cX4_next 237 = .ok (.iconst 4, 1) := by decide +kernel
theorem dX4_next_238 : decode cX4_next 238 = .ok (.goto 4, 3) := by decide +kernel
theorem dX4_next_241 : decode cX4_next 241 = .ok (.iconst 2, 1) := by decide +kernel
theorem dX4_next_242 : decode cX4_next 242 = .ok (.putfield 15, 3) := by decide +kernel
theorem dX4_next_245 : decode cX4_next 245 = .ok (.goto 45, 3) := by decide +kernel
theorem dX4_next_248 : decode cX4_next 248 = .ok (.aload_n 0, 1) := by decide +kernel
theorem dX4_next_249 : decode cX4_next 249 = .ok (.aload_n 0, 1) := by decide +kernel
theorem dX4_next_250 : decode cX4_next 250 = .ok (.getfield 36, 3) := by decide +kernel
theorem dX4_next_253 : decode cX4_next 253 = .ok (.iload_n 1, 1) := by decide +kernel
theorem dX4_next_254 : decode cX4_next 254 = .ok (.baload, 1) := by decide +kernel
theorem dX4_next_255 : decode cX4_next 255 = .ok (.putfield 24, 3) := by decide +kernel
theorem dX4_next_258 : decode cX4_next 258 = .ok (.aload_n 0, 1) := by decide +kernel
theorem dX4_next_259 : decode cX4_next 259 = .ok (.aload_n 0, 1) := by decide +kernel
theorem dX4_next_260 : decode cX4_next 260 = .ok (.getfield 24, 3) := by decide +kernel
theorem dX4_next_263 : decode cX4_next 263 = .ok (.ifCond .le 20, 3) := by decide +kernel
theorem dX4_next_266 : decode cX4_next 266 = .ok (.ldc 49, 2) := by decide +kernel
theorem dX4_next_268 : decode cX4_next 268 = .ok (.aload_n 0, 1) := by decide +kernel
theorem dX4_next_269 : decode cX4_next 269 = .ok (.getfield 24, 3) := by decide +kernel
theorem dX4_next_272 : decode cX4_next 272 = .ok (.i2c, 1) := by decide +kernel
theorem dX4_next_273 : decode cX4_next 273 = .ok (.invokevirtual 51, 3) := by decide +kernel
theorem dX4_next_276 : decode cX4_next 276 = .ok (.ifCond .lt 7, 3) := by decide +kernel
theorem dX4_next_279 : decode cX4_next 279 = .ok (.iconst 3, 1) := by decide +kernel
theorem dX4_next_280 : decode cX4_next 280 = .ok (.goto 4, 3) := by decide +kernel
theorem dX4_next_283 : decode cX4_next 283 = .ok (.iconst 4, 1) := by decide +kernel
theorem dX4_next_284 : decode cX4_next 284 = .ok (.putfield 15, 3) := by decide +kernel
theorem dX4_next_287 : decode cX4_next 287 = .ok (.iinc 1 1, 3) := by decide +kernel
theorem dX4_next_290 : decode cX4_next 290 = .ok (.aload_n 0, 1) := by decide +kernel
theorem dX4_next_291 : decode cX4_next 291 = .ok (.iload_n 1, 1) := by decide +kernel
theorem dX4_next_292 : decode cX4_next 292 = .ok (.putfield 21, 3) := by decide +kernel
theorem dX4_next_295 : decode cX4_next 295 = .ok (.return_, 1) := by decide +kernel
def fX4_next_284 (l0 : Nat) (l1 : Int32) (s0 : Int32) (s1 : Nat) : mM Unit := bPI 4 s1 2 s0 (bPI 4 l0 4 (l1 + 1) (bRet ()))
set_option maxRecDepth 20000 in
theorem rX4_next_284 (v : mE) (d : Nat) (l0 : Nat) (l1 : Int32) (s0 : Int32) (s1 : Nat) : Rz v RX4 cX4_next 2 none false emU (d + 4) 284 [(0, vR l0), (1, vI l1)] [vI s0, vR s1] (fX4_next_284 l0 l1 s0 s1) := by
  unfold fX4_next_284
  refine rz_pI 287 dX4_next_284 rfl rfl rfl rfl fl_X4_15 ?_
  refine rz_iinc (lv' := [(1, vI (l1 + 1)), (0, vR l0)]) 290 1 dX4_next_287 rfl rfl (cn_1 _) rfl rfl ?_
  refine rz_aload_n 291 1 dX4_next_290 rfl rfl ?_
  refine rz_iload_n 292 0 dX4_next_291 rfl rfl ?_
  refine rz_pI 295 dX4_next_292 rfl rfl rfl rfl fl_X4_21 ?_
  exact rz_return rfl rfl dX4_next_295
def fX4_next_283 (l0 : Nat) (l1 : Int32) (s0 : Nat) : mM Unit := fX4_next_284 l0 l1 (4 : Int32) s0
set_option maxRecDepth 20000 in
theorem rX4_next_283 (v : mE) (d : Nat) (l0 : Nat) (l1 : Int32) (s0 : Nat) : Rz v RX4 cX4_next 2 none false emU (d + 4) 283 [(0, vR l0), (1, vI l1)] [vR s0] (fX4_next_283 l0 l1 s0) := by
  unfold fX4_next_283
  refine rz_iconst 284 dX4_next_283 rfl ci_4 ?_
  exact rz_sub [0, 1] rfl (rX4_next_284 v d l0 l1 (4 : Int32) s0)
def fX4_next_248 (l0 : Nat) (l1 : Int32) : mM Unit := bGR 4 l0 0 (fun x1 => bAI 10 x1 l1 (fun x2 => bPI 4 l0 5 x2 (bGI 4 l0 5 (fun x3 => bIf (x3 ≤ 0) (fX4_next_283 l0 l1 l0) (bGI 4 l0 5 (fun x4 => bCallX 18 (fJ0_indexOf_0f7a4 18 (((Int32.toUInt32 x4) % 65536).toInt32)) (fun x5 => bIf (x5 < 0) (fX4_next_283 l0 l1 l0) (fX4_next_284 l0 l1 (3 : Int32) l0))))))))
set_option maxRecDepth 20000 in
theorem rX4_next_248 (v : mE) (d : Nat) (l0 : Nat) (l1 : Int32) : Rz v RX4 cX4_next 2 none false emU (d + 4) 248 [(0, vR l0), (1, vI l1)] [] (fX4_next_248 l0 l1) := by
  unfold fX4_next_248
  refine rz_aload_n 249 0 dX4_next_248 rfl rfl ?_
  refine rz_aload_n 250 0 dX4_next_249 rfl rfl ?_
  refine rz_gR 253 dX4_next_250 rfl rfl fl_X4_36 (fun x1 => ?_)
  refine rz_iload_n 254 1 dX4_next_253 rfl rfl ?_
  refine rz_bald 255 dX4_next_254 rfl (fun x2 => ?_)
  refine rz_pI 258 dX4_next_255 rfl rfl rfl rfl fl_X4_24 ?_
  refine rz_aload_n 259 0 dX4_next_258 rfl rfl ?_
  refine rz_aload_n 260 0 dX4_next_259 rfl rfl ?_
  refine rz_gI 263 dX4_next_260 rfl rfl fl_X4_24 (fun x3 => ?_)
  refine rz_if_le 283 266 dX4_next_263 rfl rfl ?_ ?_
  · exact rz_sub [0, 1] rfl (rX4_next_283 v d l0 l1 l0)
  · refine rz_ldcS 268 18 dX4_next_266 rfl (by decide) rfl rfl ?_
    refine rz_aload_n 269 0 dX4_next_268 rfl rfl ?_
    refine rz_gI 272 dX4_next_269 rfl rfl fl_X4_24 (fun x4 => ?_)
    refine rz_i2c 273 dX4_next_272 rfl ?_
    refine rz_callX 276 dX4_next_273 rfl (tJ0_indexOf_0f7a4 v (d + 0) 18 (((Int32.toUInt32 x4) % 65536).toInt32)) rfl rfl rfl ml_X4_51 im_J0_indexOf_0f7a4 se_J0_J0_indexOf_0f7a4 in_J0 co_J0_indexOf_0f7a4 rfl rfl (fun x5 => ?_)
    refine rz_if_lt 283 279 dX4_next_276 rfl rfl ?_ ?_
    · exact rz_sub [0, 1] rfl (rX4_next_283 v d l0 l1 l0)
    · refine rz_iconst 280 dX4_next_279 rfl ci_3 ?_
      refine rz_goto 284 dX4_next_280 rfl ?_
      exact rz_sub [0, 1] rfl (rX4_next_284 v d l0 l1 (3 : Int32) l0)
def fX4_next_242 (l0 : Nat) (l1 : Int32) (s0 : Int32) (s1 : Nat) : mM Unit := bPI 4 s1 2 s0 (bPI 4 l0 4 l1 (bRet ()))
set_option maxRecDepth 20000 in
theorem rX4_next_242 (v : mE) (d : Nat) (l0 : Nat) (l1 : Int32) (s0 : Int32) (s1 : Nat) : Rz v RX4 cX4_next 2 none false emU (d + 4) 242 [(0, vR l0), (1, vI l1)] [vI s0, vR s1] (fX4_next_242 l0 l1 s0 s1) := by
  unfold fX4_next_242
  refine rz_pI 245 dX4_next_242 rfl rfl rfl rfl fl_X4_15 ?_
  refine rz_goto 290 dX4_next_245 rfl ?_
  refine rz_aload_n 291 0 dX4_next_290 rfl rfl ?_
  refine rz_iload_n 292 1 dX4_next_291 rfl rfl ?_
  refine rz_pI 295 dX4_next_292 rfl rfl rfl rfl fl_X4_21 ?_
  exact rz_return rfl rfl dX4_next_295
def fX4_next_226 (l0 : Nat) (l1 : Int32) : mM Unit := bGI 4 l0 3 (fun x1 => bIf ((l1 - x1) ≤ (4 : Int32)) (fX4_next_242 l0 l1 (2 : Int32) l0) (fX4_next_242 l0 l1 (4 : Int32) l0))
set_option maxRecDepth 20000 in
theorem rX4_next_226 (v : mE) (d : Nat) (l0 : Nat) (l1 : Int32) : Rz v RX4 cX4_next 2 none false emU (d + 4) 226 [(0, vR l0), (1, vI l1)] [] (fX4_next_226 l0 l1) := by
  unfold fX4_next_226
  refine rz_aload_n 227 0 dX4_next_226 rfl rfl ?_
  refine rz_iload_n 228 1 dX4_next_227 rfl rfl ?_
  refine rz_aload_n 229 0 dX4_next_228 rfl rfl ?_
  refine rz_gI 232 dX4_next_229 rfl rfl fl_X4_18 (fun x1 => ?_)
  refine rz_isub 233 dX4_next_232 rfl ?_
  refine rz_iconst 234 dX4_next_233 rfl ci_4 ?_
  refine rz_icmp_le 241 237 dX4_next_234 rfl rfl ?_ ?_
  · refine rz_iconst 242 dX4_next_241 rfl ci_2 ?_
    exact rz_sub [0, 1] rfl (rX4_next_242 v d l0 l1 (2 : Int32) l0)
  · refine rz_iconst 238 dX4_next_237 rfl ci_4 ?_
    refine rz_goto 242 dX4_next_238 rfl ?_
    exact rz_sub [0, 1] rfl (rX4_next_242 v d l0 l1 (4 : Int32) l0)
def fX4_next_217 (r152 : Nat → Int32 → mM Unit) (l0 : Nat) (l1 : Int32) (s0 : Int32) (s1 : Nat) : mM Unit := bPI 4 s1 5 s0 (r152 l0 (l1 + 1))
set_option maxRecDepth 20000 in
theorem rX4_next_217 (v : mE) (d : Nat) (r152 : Nat → Int32 → mM Unit) (h152 : ∀ (y0 : Nat) (y1 : Int32), Rz v RX4 cX4_next 2 none false emU (d + 4) 152 [(0, vR y0), (1, vI y1)] [] (r152 y0 y1)) (l0 : Nat) (l1 : Int32) (s0 : Int32) (s1 : Nat) : Rz v RX4 cX4_next 2 none false emU (d + 4) 217 [(0, vR l0), (1, vI l1)] [vI s0, vR s1] (fX4_next_217 r152 l0 l1 s0 s1) := by
  unfold fX4_next_217
  refine rz_pI 220 dX4_next_217 rfl rfl rfl rfl fl_X4_24 ?_
  refine rz_iinc (lv' := [(1, vI (l1 + 1)), (0, vR l0)]) 223 1 dX4_next_220 rfl rfl (cn_1 _) rfl rfl ?_
  refine rz_goto 152 dX4_next_223 rfl ?_
  exact rz_sub [1, 0] rfl (h152 l0 (l1 + 1))
def fX4_next_152 : Nat → Nat → Int32 → mM Unit
  | 0 => fun _ _ => fun _ => none
  | n + 1 => fun l0 l1 => let r152 := fX4_next_152 n; bGI 4 l0 1 (fun x1 => bIf (x1 ≤ l1) (fX4_next_226 l0 l1) (bGR 4 l0 0 (fun x2 => bAI 10 x2 l1 (fun x3 => bIf (x3 < (48 : Int32)) (fX4_next_226 l0 l1) (bGR 4 l0 0 (fun x4 => bAI 10 x4 l1 (fun x5 => bIf ((57 : Int32) < x5) (fX4_next_226 l0 l1) (bGI 4 l0 3 (fun x6 => bIf ((4 : Int32) ≤ (l1 - x6)) (bGI 4 l0 5 (fun x7 => fX4_next_217 r152 l0 l1 x7 l0)) (bGI 4 l0 5 (fun x8 => bGR 4 l0 0 (fun x9 => bAI 10 x9 l1 (fun x10 => fX4_next_217 r152 l0 l1 (((x8 * (10 : Int32)) + x10) - (48 : Int32)) l0)))))))))))))
theorem qX4_next_152  (n : Nat) (l0 : Nat) (l1 : Int32) : fX4_next_152 (n + 1) l0 l1 = bGI 4 l0 1 (fun x1 => bIf (x1 ≤ l1) (fX4_next_226 l0 l1) (bGR 4 l0 0 (fun x2 => bAI 10 x2 l1 (fun x3 => bIf (x3 < (48 : Int32)) (fX4_next_226 l0 l1) (bGR 4 l0 0 (fun x4 => bAI 10 x4 l1 (fun x5 => bIf ((57 : Int32) < x5) (fX4_next_226 l0 l1) (bGI 4 l0 3 (fun x6 => bIf ((4 : Int32) ≤ (l1 - x6)) (bGI 4 l0 5 (fun x7 => fX4_next_217 (fX4_next_152 n) l0 l1 x7 l0)) (bGI 4 l0 5 (fun x8 => bGR 4 l0 0 (fun x9 => bAI 10 x9 l1 (fun x10 => fX4_next_217 (fX4_next_152 n) l0 l1 (((x8 * (10 : Int32)) + x10) - (48 : Int32)) l0))))))))))))) := rfl
set_option maxRecDepth 20000 in
theorem rX4_next_152 (v : mE) (d : Nat) : ∀ (n : Nat) (l0 : Nat) (l1 : Int32), Rz v RX4 cX4_next 2 none false emU (d + 4) 152 [(0, vR l0), (1, vI l1)] [] (fX4_next_152 n l0 l1)
  | 0, _, _ => fun _ _ _ hm => by cases hm
  | n + 1, l0, l1 => by
    have h152 := rX4_next_152 v d n
    unfold fX4_next_152
    generalize fX4_next_152 n = r152 at h152 ⊢
    refine rz_iload_n 153 1 dX4_next_152 rfl rfl ?_
    refine rz_aload_n 154 0 dX4_next_153 rfl rfl ?_
    refine rz_gI 157 dX4_next_154 rfl rfl fl_X4_9 (fun x1 => ?_)
    refine rz_icmp_ge 226 160 dX4_next_157 rfl rfl ?_ ?_
    · exact rz_sub [0, 1] rfl (rX4_next_226 v d l0 l1)
    · refine rz_aload_n 161 0 dX4_next_160 rfl rfl ?_
      refine rz_gR 164 dX4_next_161 rfl rfl fl_X4_36 (fun x2 => ?_)
      refine rz_iload_n 165 1 dX4_next_164 rfl rfl ?_
      refine rz_bald 166 dX4_next_165 rfl (fun x3 => ?_)
      refine rz_bipush 168 dX4_next_166 rfl cb_48 ?_
      refine rz_icmp_lt 226 171 dX4_next_168 rfl rfl ?_ ?_
      · exact rz_sub [0, 1] rfl (rX4_next_226 v d l0 l1)
      · refine rz_aload_n 172 0 dX4_next_171 rfl rfl ?_
        refine rz_gR 175 dX4_next_172 rfl rfl fl_X4_36 (fun x4 => ?_)
        refine rz_iload_n 176 1 dX4_next_175 rfl rfl ?_
        refine rz_bald 177 dX4_next_176 rfl (fun x5 => ?_)
        refine rz_bipush 179 dX4_next_177 rfl cb_57 ?_
        refine rz_icmp_gt 226 182 dX4_next_179 rfl rfl ?_ ?_
        · exact rz_sub [0, 1] rfl (rX4_next_226 v d l0 l1)
        · refine rz_aload_n 183 0 dX4_next_182 rfl rfl ?_
          refine rz_iload_n 184 1 dX4_next_183 rfl rfl ?_
          refine rz_aload_n 185 0 dX4_next_184 rfl rfl ?_
          refine rz_gI 188 dX4_next_185 rfl rfl fl_X4_18 (fun x6 => ?_)
          refine rz_isub 189 dX4_next_188 rfl ?_
          refine rz_iconst 190 dX4_next_189 rfl ci_4 ?_
          refine rz_icmp_ge 213 193 dX4_next_190 rfl rfl ?_ ?_
          · refine rz_aload_n 214 0 dX4_next_213 rfl rfl ?_
            refine rz_gI 217 dX4_next_214 rfl rfl fl_X4_24 (fun x7 => ?_)
            exact rz_sub [0, 1] rfl (rX4_next_217 v d r152 h152 l0 l1 x7 l0)
          · refine rz_aload_n 194 0 dX4_next_193 rfl rfl ?_
            refine rz_gI 197 dX4_next_194 rfl rfl fl_X4_24 (fun x8 => ?_)
            refine rz_bipush 199 dX4_next_197 rfl cb_10 ?_
            refine rz_imul 200 dX4_next_199 rfl ?_
            refine rz_aload_n 201 0 dX4_next_200 rfl rfl ?_
            refine rz_gR 204 dX4_next_201 rfl rfl fl_X4_36 (fun x9 => ?_)
            refine rz_iload_n 205 1 dX4_next_204 rfl rfl ?_
            refine rz_bald 206 dX4_next_205 rfl (fun x10 => ?_)
            refine rz_iadd 207 dX4_next_206 rfl ?_
            refine rz_bipush 209 dX4_next_207 rfl cb_48 ?_
            refine rz_isub 210 dX4_next_209 rfl ?_
            refine rz_goto 217 dX4_next_210 rfl ?_
            exact rz_sub [0, 1] rfl (rX4_next_217 v d r152 h152 l0 l1 (((x8 * (10 : Int32)) + x10) - (48 : Int32)) l0)
def fX4_next_130 (l0 : Nat) (l1 : Int32) : mM Unit := bGR 4 l0 0 (fun x1 => bAI 10 x1 l1 (fun x2 => bIf (x2 < (48 : Int32)) (fX4_next_248 l0 l1) (bGR 4 l0 0 (fun x3 => bAI 10 x3 l1 (fun x4 => bIf ((57 : Int32) < x4) (fX4_next_248 l0 l1) (fX4_next_152 fu l0 l1))))))
set_option maxRecDepth 20000 in
theorem rX4_next_130 (v : mE) (d : Nat) (l0 : Nat) (l1 : Int32) : Rz v RX4 cX4_next 2 none false emU (d + 4) 130 [(0, vR l0), (1, vI l1)] [] (fX4_next_130 l0 l1) := by
  unfold fX4_next_130
  refine rz_aload_n 131 0 dX4_next_130 rfl rfl ?_
  refine rz_gR 134 dX4_next_131 rfl rfl fl_X4_36 (fun x1 => ?_)
  refine rz_iload_n 135 1 dX4_next_134 rfl rfl ?_
  refine rz_bald 136 dX4_next_135 rfl (fun x2 => ?_)
  refine rz_bipush 138 dX4_next_136 rfl cb_48 ?_
  refine rz_icmp_lt 248 141 dX4_next_138 rfl rfl ?_ ?_
  · exact rz_sub [0, 1] rfl (rX4_next_248 v d l0 l1)
  · refine rz_aload_n 142 0 dX4_next_141 rfl rfl ?_
    refine rz_gR 145 dX4_next_142 rfl rfl fl_X4_36 (fun x3 => ?_)
    refine rz_iload_n 146 1 dX4_next_145 rfl rfl ?_
    refine rz_bald 147 dX4_next_146 rfl (fun x4 => ?_)
    refine rz_bipush 149 dX4_next_147 rfl cb_57 ?_
    refine rz_icmp_gt 248 152 dX4_next_149 rfl rfl ?_ ?_
    · exact rz_sub [0, 1] rfl (rX4_next_248 v d l0 l1)
    · exact rz_sub [0, 1] rfl (rX4_next_152 v d fu l0 l1)
def fX4_next_94 : Nat → Nat → Int32 → mM Unit
  | 0 => fun _ _ => fun _ => none
  | n + 1 => fun l0 l1 => let r94 := fX4_next_94 n; bGI 4 l0 1 (fun x1 => bIf (x1 ≤ l1) (bPI 4 l0 4 l1 (bRet ())) (bGR 4 l0 0 (fun x2 => bAI 10 x2 l1 (fun x3 => bIf (x3 < (97 : Int32)) (bPI 4 l0 4 l1 (bRet ())) (bGR 4 l0 0 (fun x4 => bAI 10 x4 l1 (fun x5 => bIf ((122 : Int32) < x5) (bPI 4 l0 4 l1 (bRet ())) (r94 l0 (l1 + 1)))))))))
theorem qX4_next_94  (n : Nat) (l0 : Nat) (l1 : Int32) : fX4_next_94 (n + 1) l0 l1 = bGI 4 l0 1 (fun x1 => bIf (x1 ≤ l1) (bPI 4 l0 4 l1 (bRet ())) (bGR 4 l0 0 (fun x2 => bAI 10 x2 l1 (fun x3 => bIf (x3 < (97 : Int32)) (bPI 4 l0 4 l1 (bRet ())) (bGR 4 l0 0 (fun x4 => bAI 10 x4 l1 (fun x5 => bIf ((122 : Int32) < x5) (bPI 4 l0 4 l1 (bRet ())) ((fX4_next_94 n) l0 (l1 + 1))))))))) := rfl
set_option maxRecDepth 20000 in
theorem rX4_next_94 (v : mE) (d : Nat) : ∀ (n : Nat) (l0 : Nat) (l1 : Int32), Rz v RX4 cX4_next 2 none false emU (d + 4) 94 [(0, vR l0), (1, vI l1)] [] (fX4_next_94 n l0 l1)
  | 0, _, _ => fun _ _ _ hm => by cases hm
  | n + 1, l0, l1 => by
    have h94 := rX4_next_94 v d n
    unfold fX4_next_94
    generalize fX4_next_94 n = r94 at h94 ⊢
    refine rz_iload_n 95 1 dX4_next_94 rfl rfl ?_
    refine rz_aload_n 96 0 dX4_next_95 rfl rfl ?_
    refine rz_gI 99 dX4_next_96 rfl rfl fl_X4_9 (fun x1 => ?_)
    refine rz_icmp_ge 290 102 dX4_next_99 rfl rfl ?_ ?_
    · refine rz_aload_n 291 0 dX4_next_290 rfl rfl ?_
      refine rz_iload_n 292 1 dX4_next_291 rfl rfl ?_
      refine rz_pI 295 dX4_next_292 rfl rfl rfl rfl fl_X4_21 ?_
      exact rz_return rfl rfl dX4_next_295
    · refine rz_aload_n 103 0 dX4_next_102 rfl rfl ?_
      refine rz_gR 106 dX4_next_103 rfl rfl fl_X4_36 (fun x2 => ?_)
      refine rz_iload_n 107 1 dX4_next_106 rfl rfl ?_
      refine rz_bald 108 dX4_next_107 rfl (fun x3 => ?_)
      refine rz_bipush 110 dX4_next_108 rfl cb_97 ?_
      refine rz_icmp_lt 290 113 dX4_next_110 rfl rfl ?_ ?_
      · refine rz_aload_n 291 0 dX4_next_290 rfl rfl ?_
        refine rz_iload_n 292 1 dX4_next_291 rfl rfl ?_
        refine rz_pI 295 dX4_next_292 rfl rfl rfl rfl fl_X4_21 ?_
        exact rz_return rfl rfl dX4_next_295
      · refine rz_aload_n 114 0 dX4_next_113 rfl rfl ?_
        refine rz_gR 117 dX4_next_114 rfl rfl fl_X4_36 (fun x4 => ?_)
        refine rz_iload_n 118 1 dX4_next_117 rfl rfl ?_
        refine rz_bald 119 dX4_next_118 rfl (fun x5 => ?_)
        refine rz_bipush 121 dX4_next_119 rfl cb_122 ?_
        refine rz_icmp_gt 290 124 dX4_next_121 rfl rfl ?_ ?_
        · refine rz_aload_n 291 0 dX4_next_290 rfl rfl ?_
          refine rz_iload_n 292 1 dX4_next_291 rfl rfl ?_
          refine rz_pI 295 dX4_next_292 rfl rfl rfl rfl fl_X4_21 ?_
          exact rz_return rfl rfl dX4_next_295
        · refine rz_iinc (lv' := [(1, vI (l1 + 1)), (0, vR l0)]) 127 1 dX4_next_124 rfl rfl (cn_1 _) rfl rfl ?_
          refine rz_goto 94 dX4_next_127 rfl ?_
          exact rz_sub [1, 0] rfl (h94 l0 (l1 + 1))
def fX4_next_41 (l0 : Nat) (l1 : Int32) : mM Unit := bPI 4 l0 3 l1 (bPI 4 l0 5 (0 : Int32) (bGI 4 l0 1 (fun x1 => bIf (l1 < x1) (bGR 4 l0 0 (fun x2 => bAI 10 x2 l1 (fun x3 => bIf (x3 < (97 : Int32)) (fX4_next_130 l0 l1) (bGR 4 l0 0 (fun x4 => bAI 10 x4 l1 (fun x5 => bIf ((122 : Int32) < x5) (fX4_next_130 l0 l1) (bPI 4 l0 2 (1 : Int32) (fX4_next_94 fu l0 l1)))))))) (bPI 4 l0 2 (0 : Int32) (bPI 4 l0 4 l1 (bRet ()))))))
set_option maxRecDepth 20000 in
theorem rX4_next_41 (v : mE) (d : Nat) (l0 : Nat) (l1 : Int32) : Rz v RX4 cX4_next 2 none false emU (d + 4) 41 [(0, vR l0), (1, vI l1)] [] (fX4_next_41 l0 l1) := by
  unfold fX4_next_41
  refine rz_aload_n 42 0 dX4_next_41 rfl rfl ?_
  refine rz_iload_n 43 1 dX4_next_42 rfl rfl ?_
  refine rz_pI 46 dX4_next_43 rfl rfl rfl rfl fl_X4_18 ?_
  refine rz_aload_n 47 0 dX4_next_46 rfl rfl ?_
  refine rz_iconst 48 dX4_next_47 rfl ci_0 ?_
  refine rz_pI 51 dX4_next_48 rfl rfl rfl rfl fl_X4_24 ?_
  refine rz_iload_n 52 1 dX4_next_51 rfl rfl ?_
  refine rz_aload_n 53 0 dX4_next_52 rfl rfl ?_
  refine rz_gI 56 dX4_next_53 rfl rfl fl_X4_9 (fun x1 => ?_)
  refine rz_icmp_lt 67 59 dX4_next_56 rfl rfl ?_ ?_
  · refine rz_aload_n 68 0 dX4_next_67 rfl rfl ?_
    refine rz_gR 71 dX4_next_68 rfl rfl fl_X4_36 (fun x2 => ?_)
    refine rz_iload_n 72 1 dX4_next_71 rfl rfl ?_
    refine rz_bald 73 dX4_next_72 rfl (fun x3 => ?_)
    refine rz_bipush 75 dX4_next_73 rfl cb_97 ?_
    refine rz_icmp_lt 130 78 dX4_next_75 rfl rfl ?_ ?_
    · exact rz_sub [0, 1] rfl (rX4_next_130 v d l0 l1)
    · refine rz_aload_n 79 0 dX4_next_78 rfl rfl ?_
      refine rz_gR 82 dX4_next_79 rfl rfl fl_X4_36 (fun x4 => ?_)
      refine rz_iload_n 83 1 dX4_next_82 rfl rfl ?_
      refine rz_bald 84 dX4_next_83 rfl (fun x5 => ?_)
      refine rz_bipush 86 dX4_next_84 rfl cb_122 ?_
      refine rz_icmp_gt 130 89 dX4_next_86 rfl rfl ?_ ?_
      · exact rz_sub [0, 1] rfl (rX4_next_130 v d l0 l1)
      · refine rz_aload_n 90 0 dX4_next_89 rfl rfl ?_
        refine rz_iconst 91 dX4_next_90 rfl ci_1 ?_
        refine rz_pI 94 dX4_next_91 rfl rfl rfl rfl fl_X4_15 ?_
        exact rz_sub [0, 1] rfl (rX4_next_94 v d fu l0 l1)
  · refine rz_aload_n 60 0 dX4_next_59 rfl rfl ?_
    refine rz_iconst 61 dX4_next_60 rfl ci_0 ?_
    refine rz_pI 64 dX4_next_61 rfl rfl rfl rfl fl_X4_15 ?_
    refine rz_goto 290 dX4_next_64 rfl ?_
    refine rz_aload_n 291 0 dX4_next_290 rfl rfl ?_
    refine rz_iload_n 292 1 dX4_next_291 rfl rfl ?_
    refine rz_pI 295 dX4_next_292 rfl rfl rfl rfl fl_X4_21 ?_
    exact rz_return rfl rfl dX4_next_295
def fX4_next_5 : Nat → Nat → Int32 → mM Unit
  | 0 => fun _ _ => fun _ => none
  | n + 1 => fun l0 l1 => let r5 := fX4_next_5 n; bGI 4 l0 1 (fun x1 => bIf (x1 ≤ l1) (fX4_next_41 l0 l1) (bGR 4 l0 0 (fun x2 => bAI 10 x2 l1 (fun x3 => bIf (x3 = (32 : Int32)) (r5 l0 (l1 + 1)) (bGR 4 l0 0 (fun x4 => bAI 10 x4 l1 (fun x5 => bIf (x5 = (10 : Int32)) (r5 l0 (l1 + 1)) (fX4_next_41 l0 l1))))))))
theorem qX4_next_5  (n : Nat) (l0 : Nat) (l1 : Int32) : fX4_next_5 (n + 1) l0 l1 = bGI 4 l0 1 (fun x1 => bIf (x1 ≤ l1) (fX4_next_41 l0 l1) (bGR 4 l0 0 (fun x2 => bAI 10 x2 l1 (fun x3 => bIf (x3 = (32 : Int32)) ((fX4_next_5 n) l0 (l1 + 1)) (bGR 4 l0 0 (fun x4 => bAI 10 x4 l1 (fun x5 => bIf (x5 = (10 : Int32)) ((fX4_next_5 n) l0 (l1 + 1)) (fX4_next_41 l0 l1)))))))) := rfl
set_option maxRecDepth 20000 in
theorem rX4_next_5 (v : mE) (d : Nat) : ∀ (n : Nat) (l0 : Nat) (l1 : Int32), Rz v RX4 cX4_next 2 none false emU (d + 4) 5 [(0, vR l0), (1, vI l1)] [] (fX4_next_5 n l0 l1)
  | 0, _, _ => fun _ _ _ hm => by cases hm
  | n + 1, l0, l1 => by
    have h5 := rX4_next_5 v d n
    unfold fX4_next_5
    generalize fX4_next_5 n = r5 at h5 ⊢
    refine rz_iload_n 6 1 dX4_next_5 rfl rfl ?_
    refine rz_aload_n 7 0 dX4_next_6 rfl rfl ?_
    refine rz_gI 10 dX4_next_7 rfl rfl fl_X4_9 (fun x1 => ?_)
    refine rz_icmp_ge 41 13 dX4_next_10 rfl rfl ?_ ?_
    · exact rz_sub [0, 1] rfl (rX4_next_41 v d l0 l1)
    · refine rz_aload_n 14 0 dX4_next_13 rfl rfl ?_
      refine rz_gR 17 dX4_next_14 rfl rfl fl_X4_36 (fun x2 => ?_)
      refine rz_iload_n 18 1 dX4_next_17 rfl rfl ?_
      refine rz_bald 19 dX4_next_18 rfl (fun x3 => ?_)
      refine rz_bipush 21 dX4_next_19 rfl cb_32 ?_
      refine rz_icmp_eq 35 24 dX4_next_21 rfl rfl ?_ ?_
      · refine rz_iinc (lv' := [(1, vI (l1 + 1)), (0, vR l0)]) 38 1 dX4_next_35 rfl rfl (cn_1 _) rfl rfl ?_
        refine rz_goto 5 dX4_next_38 rfl ?_
        exact rz_sub [1, 0] rfl (h5 l0 (l1 + 1))
      · refine rz_aload_n 25 0 dX4_next_24 rfl rfl ?_
        refine rz_gR 28 dX4_next_25 rfl rfl fl_X4_36 (fun x4 => ?_)
        refine rz_iload_n 29 1 dX4_next_28 rfl rfl ?_
        refine rz_bald 30 dX4_next_29 rfl (fun x5 => ?_)
        refine rz_bipush 32 dX4_next_30 rfl cb_10 ?_
        refine rz_icmp_ne 41 35 dX4_next_32 rfl rfl ?_ ?_
        · exact rz_sub [0, 1] rfl (rX4_next_41 v d l0 l1)
        · refine rz_iinc (lv' := [(1, vI (l1 + 1)), (0, vR l0)]) 38 1 dX4_next_35 rfl rfl (cn_1 _) rfl rfl ?_
          refine rz_goto 5 dX4_next_38 rfl ?_
          exact rz_sub [1, 0] rfl (h5 l0 (l1 + 1))
def fX4_next (l0 : Nat) : mM Unit := bGI 4 l0 4 (fun x1 => fX4_next_5 fu l0 x1)
set_option maxRecDepth 20000 in
theorem rX4_next (v : mE) (d : Nat) (l0 : Nat) : Rz v RX4 cX4_next 2 none false emU (d + 4) 0 [(0, vR l0)] [] (fX4_next l0) := by
  unfold fX4_next
  refine rz_aload_n 1 0 dX4_next_0 rfl rfl ?_
  refine rz_gI 4 dX4_next_1 rfl rfl fl_X4_21 (fun x1 => ?_)
  refine rz_istore_n (lv' := [(1, vI x1), (0, vR l0)]) 5 dX4_next_4 rfl rfl rfl ?_
  exact rz_sub [1, 0] rfl (rX4_next_5 v d fu l0 x1)
theorem tX4_next (v : mE) (d : Nat) (l0 : Nat) : Mt v yX4_next cX4_next 2 none emU (d + 4) [vR l0] (fX4_next l0) := mt_of rfl rfl (fun h => by cases h) rfl rfl (rX4_next v d l0)
theorem dX4_open_0 : decode cX4_open 0 = .ok (.aload_n 0, 1) := by decide +kernel
theorem dX4_open_1 : decode cX4_open 1 = .ok (.iload_n 1, 1) := by decide +kernel
theorem dX4_open_2 : decode cX4_open 2 = .ok (.aload_n 0, 1) := by decide +kernel
theorem dX4_open_3 : decode cX4_open 3 = .ok (.getfield 36, 3) := by decide +kernel
theorem dX4_open_6 : decode cX4_open 6 = .ok (.arraylength, 1) := by decide +kernel
theorem dX4_open_7 : decode cX4_open 7 = .ok (.invokestatic 40, 3) := by decide +kernel
theorem dX4_open_10 : decode cX4_open 10 = .ok (.putfield 9, 3) := by decide +kernel
theorem dX4_open_13 : decode cX4_open 13 = .ok (.aload_n 0, 1) := by decide +kernel
theorem dX4_open_14 : decode cX4_open 14 = .ok (.iconst 0, 1) := by decide +kernel
theorem dX4_open_15 : decode cX4_open 15 = .ok (.putfield 21, 3) := by decide +kernel
theorem dX4_open_18 : decode cX4_open 18 = .ok (.aload_n 0, 1) := by decide +kernel
theorem dX4_open_19 : decode cX4_open 19 = .ok (.iconst 0, 1) := by decide +kernel
theorem dX4_open_20 : decode cX4_open 20 = .ok (.putfield 30, 3) := by decide +kernel
theorem dX4_open_23 : decode cX4_open 23 = .ok (.aload_n 0, 1) := by decide +kernel
theorem dX4_open_24 : decode cX4_open 24 = .ok (.iconst (-1), 1) := by decide +kernel
theorem dX4_open_25 : decode cX4_open 25 = .ok (.putfield 33, 3) := by decide +kernel
theorem dX4_open_28 : decode cX4_open 28 = .ok (.aload_n 0, 1) := by decide +kernel
theorem dX4_open_29 : decode cX4_open 29 = .ok (.invokevirtual 46, 3) := by decide +kernel
theorem dX4_open_32 : decode cX4_open 32 = .ok (.return_, 1) := by decide +kernel
def fX4_open (l0 : Nat) (l1 : Int32) : mM Unit := bGR 4 l0 0 (fun x1 => bLen 10 x1 (fun x2 => bPI 4 l0 1 (jMin l1 x2) (bPI 4 l0 4 (0 : Int32) (bPI 4 l0 7 (0 : Int32) (bPI 4 l0 8 (-1 : Int32) (bCallV 4 l0 (fX4_next l0) (fun _ => bRet ())))))))
set_option maxRecDepth 20000 in
theorem rX4_open (v : mE) (d : Nat) (l0 : Nat) (l1 : Int32) : Rz v RX4 cX4_open 2 none false emU (d + 5) 0 [(0, vR l0), (1, vI l1)] [] (fX4_open l0 l1) := by
  unfold fX4_open
  refine rz_aload_n 1 0 dX4_open_0 rfl rfl ?_
  refine rz_iload_n 2 1 dX4_open_1 rfl rfl ?_
  refine rz_aload_n 3 0 dX4_open_2 rfl rfl ?_
  refine rz_gR 6 dX4_open_3 rfl rfl fl_X4_36 (fun x1 => ?_)
  refine rz_alen 7 dX4_open_6 rfl (by decide) (fun x2 => ?_)
  refine rz_mmin 10 dX4_open_7 rfl ml_X4_40 rfl rfl ?_
  refine rz_pI 13 dX4_open_10 rfl rfl rfl rfl fl_X4_9 ?_
  refine rz_aload_n 14 0 dX4_open_13 rfl rfl ?_
  refine rz_iconst 15 dX4_open_14 rfl ci_0 ?_
  refine rz_pI 18 dX4_open_15 rfl rfl rfl rfl fl_X4_21 ?_
  refine rz_aload_n 19 0 dX4_open_18 rfl rfl ?_
  refine rz_iconst 20 dX4_open_19 rfl ci_0 ?_
  refine rz_pI 23 dX4_open_20 rfl rfl rfl rfl fl_X4_30 ?_
  refine rz_aload_n 24 0 dX4_open_23 rfl rfl ?_
  refine rz_iconst 25 dX4_open_24 rfl ci_m1 ?_
  refine rz_pI 28 dX4_open_25 rfl rfl rfl rfl fl_X4_33 ?_
  refine rz_aload_n 29 0 dX4_open_28 rfl rfl ?_
  refine rz_callV 32 dX4_open_29 rfl (tX4_next v (d + 0) l0) rfl rfl rfl rfl ml_X4_46 im_X4_next se_X4_X4_next in_X4 co_X4_next rfl rfl (fun _ => ?_)
  exact rz_return rfl rfl dX4_open_32
theorem tX4_open (v : mE) (d : Nat) (l0 : Nat) (l1 : Int32) : Mt v yX4_open cX4_open 2 none emU (d + 5) [vR l0, vI l1] (fX4_open l0 l1) := mt_of rfl rfl (fun h => by cases h) rfl rfl (rX4_open v d l0 l1)
theorem dX4_refuseToken_0 : decode cX4_refuseToken 0 = .ok (.aload_n 0, 1) := by decide +kernel
theorem dX4_refuseToken_1 : decode cX4_refuseToken 1 = .ok (.aload_n 0, 1) := by decide +kernel
theorem dX4_refuseToken_2 : decode cX4_refuseToken 2 = .ok (.getfield 15, 3) := by decide +kernel
theorem dX4_refuseToken_5 : decode cX4_refuseToken 5 = .ok (.iconst 4, 1) := by decide +kernel
theorem dX4_refuseToken_6 : decode cX4_refuseToken 6 = .ok (.if_icmp .ne 7, 3) := by decide +kernel
theorem dX4_refuseToken_9 : decode cX4_refuseToken 9 = .ok (.iconst 1, 1) := by decide +kernel
theorem dX4_refuseToken_10 : decode cX4_refuseToken 10 = .ok (.goto 4, 3) := by decide +kernel
theorem dX4_refuseToken_13 : decode cX4_refuseToken 13 = .ok (.iload_n 1, 1) := by decide +kernel
theorem dX4_refuseToken_14 : decode cX4_refuseToken 14 = .ok (.putfield 30, 3) := by decide +kernel
theorem dX4_refuseToken_17 : decode cX4_refuseToken 17 = .ok (.aload_n 0, 1) := by decide +kernel
theorem dX4_refuseToken_18 : decode cX4_refuseToken 18 = .ok (.aload_n 0, 1) := by decide +kernel
theorem dX4_refuseToken_19 : decode cX4_refuseToken 19 = .ok (.getfield 18, 3) := by decide +kernel
theorem dX4_refuseToken_22 : decode cX4_refuseToken 22 = .ok (.putfield 33, 3) := by decide +kernel
theorem dX4_refuseToken_25 : decode cX4_refuseToken 25 = .ok (.iconst 0, 1) := by decide +kernel
theorem dX4_refuseToken_26 : decode cX4_refuseToken 26 = .ok (.ireturn, 1) := by decide +kernel
def fX4_refuseToken_14 (l0 : Nat) (s0 : Int32) (s1 : Nat) : mM Int32 := bPI 4 s1 7 s0 (bGI 4 l0 3 (fun x1 => bPI 4 l0 8 x1 (bRetZ (0 : Int32))))
set_option maxRecDepth 20000 in
theorem rX4_refuseToken_14 (v : mE) (d : Nat) (l0 : Nat) (s0 : Int32) (s1 : Nat) : Rz v RX4 cX4_refuseToken 2 (some .boolean) false emI (d + 0) 14 [(0, vR l0)] [vI s0, vR s1] (fX4_refuseToken_14 l0 s0 s1) := by
  unfold fX4_refuseToken_14
  refine rz_pI 17 dX4_refuseToken_14 rfl rfl rfl rfl fl_X4_30 ?_
  refine rz_aload_n 18 0 dX4_refuseToken_17 rfl rfl ?_
  refine rz_aload_n 19 0 dX4_refuseToken_18 rfl rfl ?_
  refine rz_gI 22 dX4_refuseToken_19 rfl rfl fl_X4_18 (fun x1 => ?_)
  refine rz_pI 25 dX4_refuseToken_22 rfl rfl rfl rfl fl_X4_33 ?_
  refine rz_iconst 26 dX4_refuseToken_25 rfl ci_0 ?_
  exact rz_zreturn rfl rfl dX4_refuseToken_26
def fX4_refuseToken (l0 : Nat) (l1 : Int32) : mM Int32 := bGI 4 l0 2 (fun x1 => bIf (x1 = (4 : Int32)) (fX4_refuseToken_14 l0 (1 : Int32) l0) (fX4_refuseToken_14 l0 l1 l0))
set_option maxRecDepth 20000 in
theorem rX4_refuseToken (v : mE) (d : Nat) (l0 : Nat) (l1 : Int32) : Rz v RX4 cX4_refuseToken 2 (some .boolean) false emI (d + 0) 0 [(0, vR l0), (1, vI l1)] [] (fX4_refuseToken l0 l1) := by
  unfold fX4_refuseToken
  refine rz_aload_n 1 0 dX4_refuseToken_0 rfl rfl ?_
  refine rz_aload_n 2 0 dX4_refuseToken_1 rfl rfl ?_
  refine rz_gI 5 dX4_refuseToken_2 rfl rfl fl_X4_15 (fun x1 => ?_)
  refine rz_iconst 6 dX4_refuseToken_5 rfl ci_4 ?_
  refine rz_icmp_ne 13 9 dX4_refuseToken_6 rfl rfl ?_ ?_
  · refine rz_iload_n 14 1 dX4_refuseToken_13 rfl rfl ?_
    exact rz_sub [0] rfl (rX4_refuseToken_14 v d l0 l1 l0)
  · refine rz_iconst 10 dX4_refuseToken_9 rfl ci_1 ?_
    refine rz_goto 14 dX4_refuseToken_10 rfl ?_
    exact rz_sub [0] rfl (rX4_refuseToken_14 v d l0 (1 : Int32) l0)
theorem tX4_refuseToken (v : mE) (d : Nat) (l0 : Nat) (l1 : Int32) : Mt v yX4_refuseToken cX4_refuseToken 2 (some .boolean) emI (d + 0) [vR l0, vI l1] (fX4_refuseToken l0 l1) := mt_of rfl rfl (fun h => by cases h) rfl rfl (rX4_refuseToken v d l0 l1)
theorem dX4_isWord_0 : decode cX4_isWord 0 = .ok (.aload_n 0, 1) := by decide +kernel
theorem dX4_isWord_1 : decode cX4_isWord 1 = .ok (.getfield 15, 3) := by decide +kernel
theorem dX4_isWord_4 : decode cX4_isWord 4 = .ok (.iconst 1, 1) := by decide +kernel
theorem dX4_isWord_5 : decode cX4_isWord 5 = .ok (.if_icmp .ne 19, 3) := by decide +kernel
theorem dX4_isWord_8 : decode cX4_isWord 8 = .ok (.aload_n 0, 1) := by decide +kernel
theorem dX4_isWord_9 : decode cX4_isWord 9 = .ok (.getfield 21, 3) := by decide +kernel
theorem dX4_isWord_12 : decode cX4_isWord 12 = .ok (.aload_n 0, 1) := by decide +kernel
theorem dX4_isWord_13 : decode cX4_isWord 13 = .ok (.getfield 18, 3) := by decide +kernel
theorem dX4_isWord_16 : decode cX4_isWord 16 = .ok (.isub, 1) := by decide +kernel
theorem dX4_isWord_17 : decode cX4_isWord 17 = .ok (.aload_n 1, 1) := by decide +kernel
theorem dX4_isWord_18 : decode cX4_isWord 18 = .ok (.invokevirtual 57, 3) := by decide +kernel
theorem dX4_isWord_21 : decode cX4_isWord 21 = .ok (.if_icmp .eq 5, 3) := by decide +kernel
theorem dX4_isWord_24 : decode cX4_isWord 24 = .ok (.iconst 0, 1) := by decide +kernel
theorem dX4_isWord_25 : decode cX4_isWord 25 = .ok (.ireturn, 1) := by decide +kernel
theorem dX4_isWord_26 : decode cX4_isWord 26 = .ok (.iconst 0, 1) := by decide +kernel
theorem dX4_isWord_27 : decode cX4_isWord 27 = .ok (.istore_n 2, 1) := by decide +kernel
theorem dX4_isWord_28 : decode cX4_isWord 28 = .ok (.iload_n 2, 1) := by decide +kernel
theorem dX4_isWord_29 : decode cX4_isWord 29 = .ok (.aload_n 1, 1) := by decide +kernel
theorem dX4_isWord_30 : decode cX4_isWord 30 = .ok (.invokevirtual 57, 3) := by decide +kernel
theorem dX4_isWord_33 : decode cX4_isWord 33 = .ok (.if_icmp .ge 30, 3) := by decide +kernel
theorem dX4_isWord_36 : decode cX4_isWord 36 = .ok (.aload_n 0, 1) := by decide +kernel
theorem dX4_isWord_37 : decode cX4_isWord 37 = .ok (.getfield 36, 3) := by decide +kernel
theorem dX4_isWord_40 : decode cX4_isWord 40 = .ok (.aload_n 0, 1) := by decide +kernel
theorem dX4_isWord_41 : decode cX4_isWord 41 = .ok (.getfield 18, 3) := by decide +kernel
theorem dX4_isWord_44 : decode cX4_isWord 44 = .ok (.iload_n 2, 1) := by decide +kernel
theorem dX4_isWord_45 : decode cX4_isWord 45 = .ok (.iadd, 1) := by decide +kernel
theorem dX4_isWord_46 : decode cX4_isWord 46 = .ok (.baload, 1) := by decide +kernel
theorem dX4_isWord_47 : decode cX4_isWord 47 = .ok (.aload_n 1, 1) := by decide +kernel
theorem dX4_isWord_48 : decode cX4_isWord 48 = .ok (.iload_n 2, 1) := by decide +kernel
theorem dX4_isWord_49 : decode cX4_isWord 49 = .ok (.invokevirtual 60, 3) := by decide +kernel
theorem dX4_isWord_52 : decode cX4_isWord 52 = .ok (.if_icmp .eq 5, 3) := by decide +kernel
theorem dX4_isWord_55 : decode cX4_isWord 55 = .ok (.iconst 0, 1) := by decide +kernel
theorem dX4_isWord_56 : decode cX4_isWord 56 = .ok (.ireturn, 1) := by decide +kernel
theorem dX4_isWord_57 : decode cX4_isWord 57 = .ok (.iinc 2 1, 3) := by decide +kernel
theorem dX4_isWord_60 : decode cX4_isWord 60 = .ok (.goto (-32), 3) := by decide +kernel
theorem dX4_isWord_63 : decode cX4_isWord 63 = .ok (.iconst 1, 1) := by decide +kernel
theorem dX4_isWord_64 : decode cX4_isWord 64 = .ok (.ireturn, 1) := by decide +kernel
def fX4_isWord_28 : Nat → Nat → Nat → Int32 → mM Int32
  | 0 => fun _ _ _ => fun _ => none
  | n + 1 => fun l0 l1 l2 => let r28 := fX4_isWord_28 n; bCallX l1 (fJ0_length_8abf5 l1) (fun x1 => bIf (x1 ≤ l2) (bRetZ (1 : Int32)) (bGR 4 l0 0 (fun x2 => bGI 4 l0 3 (fun x3 => bAI 10 x2 (x3 + l2) (fun x4 => bCallX l1 (fJ0_charAt_5068e l1 l2) (fun x5 => bIf (x4 = x5) (r28 l0 l1 (l2 + 1)) (bRetZ (0 : Int32))))))))
theorem qX4_isWord_28  (n : Nat) (l0 : Nat) (l1 : Nat) (l2 : Int32) : fX4_isWord_28 (n + 1) l0 l1 l2 = bCallX l1 (fJ0_length_8abf5 l1) (fun x1 => bIf (x1 ≤ l2) (bRetZ (1 : Int32)) (bGR 4 l0 0 (fun x2 => bGI 4 l0 3 (fun x3 => bAI 10 x2 (x3 + l2) (fun x4 => bCallX l1 (fJ0_charAt_5068e l1 l2) (fun x5 => bIf (x4 = x5) ((fX4_isWord_28 n) l0 l1 (l2 + 1)) (bRetZ (0 : Int32)))))))) := rfl
set_option maxRecDepth 20000 in
theorem rX4_isWord_28 (v : mE) (d : Nat) : ∀ (n : Nat) (l0 : Nat) (l1 : Nat) (l2 : Int32), Rz v RX4 cX4_isWord 3 (some .boolean) false emI (d + 4) 28 [(0, vR l0), (1, vX l1), (2, vI l2)] [] (fX4_isWord_28 n l0 l1 l2)
  | 0, _, _, _ => fun _ _ _ hm => by cases hm
  | n + 1, l0, l1, l2 => by
    have h28 := rX4_isWord_28 v d n
    unfold fX4_isWord_28
    generalize fX4_isWord_28 n = r28 at h28 ⊢
    refine rz_iload_n 29 2 dX4_isWord_28 rfl rfl ?_
    refine rz_xload_n 30 1 dX4_isWord_29 rfl rfl ?_
    refine rz_callX 33 dX4_isWord_30 rfl (tJ0_length_8abf5 v (d + 2) l1) rfl rfl rfl ml_X4_57 im_J0_length_8abf5 se_J0_J0_length_8abf5 in_J0 co_J0_length_8abf5 rfl rfl (fun x1 => ?_)
    refine rz_icmp_ge 63 36 dX4_isWord_33 rfl rfl ?_ ?_
    · refine rz_iconst 64 dX4_isWord_63 rfl ci_1 ?_
      exact rz_zreturn rfl rfl dX4_isWord_64
    · refine rz_aload_n 37 0 dX4_isWord_36 rfl rfl ?_
      refine rz_gR 40 dX4_isWord_37 rfl rfl fl_X4_36 (fun x2 => ?_)
      refine rz_aload_n 41 0 dX4_isWord_40 rfl rfl ?_
      refine rz_gI 44 dX4_isWord_41 rfl rfl fl_X4_18 (fun x3 => ?_)
      refine rz_iload_n 45 2 dX4_isWord_44 rfl rfl ?_
      refine rz_iadd 46 dX4_isWord_45 rfl ?_
      refine rz_bald 47 dX4_isWord_46 rfl (fun x4 => ?_)
      refine rz_xload_n 48 1 dX4_isWord_47 rfl rfl ?_
      refine rz_iload_n 49 2 dX4_isWord_48 rfl rfl ?_
      refine rz_callX 52 dX4_isWord_49 rfl (tJ0_charAt_5068e v (d + 0) l1 l2) rfl rfl rfl ml_X4_60 im_J0_charAt_5068e se_J0_J0_charAt_5068e in_J0 co_J0_charAt_5068e rfl rfl (fun x5 => ?_)
      refine rz_icmp_eq 57 55 dX4_isWord_52 rfl rfl ?_ ?_
      · refine rz_iinc (lv' := [(2, vI (l2 + 1)), (0, vR l0), (1, vX l1)]) 60 2 dX4_isWord_57 rfl rfl (cn_1 _) rfl rfl ?_
        refine rz_goto 28 dX4_isWord_60 rfl ?_
        exact rz_sub [1, 2, 0] rfl (h28 l0 l1 (l2 + 1))
      · refine rz_iconst 56 dX4_isWord_55 rfl ci_0 ?_
        exact rz_zreturn rfl rfl dX4_isWord_56
def fX4_isWord (l0 : Nat) (l1 : Nat) : mM Int32 := bGI 4 l0 2 (fun x1 => bIf (x1 = (1 : Int32)) (bGI 4 l0 4 (fun x2 => bGI 4 l0 3 (fun x3 => bCallX l1 (fJ0_length_8abf5 l1) (fun x4 => bIf ((x2 - x3) = x4) (fX4_isWord_28 fu l0 l1 (0 : Int32)) (bRetZ (0 : Int32)))))) (bRetZ (0 : Int32)))
set_option maxRecDepth 20000 in
theorem rX4_isWord (v : mE) (d : Nat) (l0 : Nat) (l1 : Nat) : Rz v RX4 cX4_isWord 3 (some .boolean) false emI (d + 4) 0 [(0, vR l0), (1, vX l1)] [] (fX4_isWord l0 l1) := by
  unfold fX4_isWord
  refine rz_aload_n 1 0 dX4_isWord_0 rfl rfl ?_
  refine rz_gI 4 dX4_isWord_1 rfl rfl fl_X4_15 (fun x1 => ?_)
  refine rz_iconst 5 dX4_isWord_4 rfl ci_1 ?_
  refine rz_icmp_ne 24 8 dX4_isWord_5 rfl rfl ?_ ?_
  · refine rz_iconst 25 dX4_isWord_24 rfl ci_0 ?_
    exact rz_zreturn rfl rfl dX4_isWord_25
  · refine rz_aload_n 9 0 dX4_isWord_8 rfl rfl ?_
    refine rz_gI 12 dX4_isWord_9 rfl rfl fl_X4_21 (fun x2 => ?_)
    refine rz_aload_n 13 0 dX4_isWord_12 rfl rfl ?_
    refine rz_gI 16 dX4_isWord_13 rfl rfl fl_X4_18 (fun x3 => ?_)
    refine rz_isub 17 dX4_isWord_16 rfl ?_
    refine rz_xload_n 18 1 dX4_isWord_17 rfl rfl ?_
    refine rz_callX 21 dX4_isWord_18 rfl (tJ0_length_8abf5 v (d + 2) l1) rfl rfl rfl ml_X4_57 im_J0_length_8abf5 se_J0_J0_length_8abf5 in_J0 co_J0_length_8abf5 rfl rfl (fun x4 => ?_)
    refine rz_icmp_eq 26 24 dX4_isWord_21 rfl rfl ?_ ?_
    · refine rz_iconst 27 dX4_isWord_26 rfl ci_0 ?_
      refine rz_istore_n (lv' := [(2, vI (0 : Int32)), (0, vR l0), (1, vX l1)]) 28 dX4_isWord_27 rfl rfl rfl ?_
      exact rz_sub [1, 2, 0] rfl (rX4_isWord_28 v d fu l0 l1 (0 : Int32))
    · refine rz_iconst 25 dX4_isWord_24 rfl ci_0 ?_
      exact rz_zreturn rfl rfl dX4_isWord_25
theorem tX4_isWord (v : mE) (d : Nat) (l0 : Nat) (l1 : Nat) : Mt v yX4_isWord cX4_isWord 3 (some .boolean) emI (d + 4) [vR l0, vX l1] (fX4_isWord l0 l1) := mt_of rfl rfl (fun h => by cases h) rfl rfl (rX4_isWord v d l0 l1)
theorem dX4_isSign_0 : decode cX4_isSign 0 = .ok (.aload_n 0, 1) := by decide +kernel
theorem dX4_isSign_1 : decode cX4_isSign 1 = .ok (.getfield 15, 3) := by decide +kernel
theorem dX4_isSign_4 : decode cX4_isSign 4 = .ok (.iconst 3, 1) := by decide +kernel
theorem dX4_isSign_5 : decode cX4_isSign 5 = .ok (.if_icmp .ne 15, 3) := by decide +kernel
theorem dX4_isSign_8 : decode cX4_isSign 8 = .ok (.aload_n 0, 1) := by decide +kernel
theorem dX4_isSign_9 : decode cX4_isSign 9 = .ok (.getfield 24, 3) := by decide +kernel
theorem dX4_isSign_12 : decode cX4_isSign 12 = .ok (.iload_n 1, 1) := by decide +kernel
theorem dX4_isSign_13 : decode cX4_isSign 13 = .ok (.if_icmp .ne 7, 3) := by decide +kernel
theorem dX4_isSign_16 : decode cX4_isSign 16 = .ok (.iconst 1, 1) := by decide +kernel
theorem dX4_isSign_17 : decode cX4_isSign 17 = .ok (.goto 4, 3) := by decide +kernel
theorem dX4_isSign_20 : decode cX4_isSign 20 = .ok (.iconst 0, 1) := by decide +kernel
theorem dX4_isSign_21 : decode cX4_isSign 21 = .ok (.ireturn, 1) := by decide +kernel
def fX4_isSign (l0 : Nat) (l1 : Int32) : mM Int32 := bGI 4 l0 2 (fun x1 => bIf (x1 = (3 : Int32)) (bGI 4 l0 5 (fun x2 => bIf (x2 = l1) (bRetZ (1 : Int32)) (bRetZ (0 : Int32)))) (bRetZ (0 : Int32)))
set_option maxRecDepth 20000 in
theorem rX4_isSign (v : mE) (d : Nat) (l0 : Nat) (l1 : Int32) : Rz v RX4 cX4_isSign 2 (some .boolean) false emI (d + 0) 0 [(0, vR l0), (1, vI l1)] [] (fX4_isSign l0 l1) := by
  unfold fX4_isSign
  refine rz_aload_n 1 0 dX4_isSign_0 rfl rfl ?_
  refine rz_gI 4 dX4_isSign_1 rfl rfl fl_X4_15 (fun x1 => ?_)
  refine rz_iconst 5 dX4_isSign_4 rfl ci_3 ?_
  refine rz_icmp_ne 20 8 dX4_isSign_5 rfl rfl ?_ ?_
  · refine rz_iconst 21 dX4_isSign_20 rfl ci_0 ?_
    exact rz_zreturn rfl rfl dX4_isSign_21
  · refine rz_aload_n 9 0 dX4_isSign_8 rfl rfl ?_
    refine rz_gI 12 dX4_isSign_9 rfl rfl fl_X4_24 (fun x2 => ?_)
    refine rz_iload_n 13 1 dX4_isSign_12 rfl rfl ?_
    refine rz_icmp_ne 20 16 dX4_isSign_13 rfl rfl ?_ ?_
    · refine rz_iconst 21 dX4_isSign_20 rfl ci_0 ?_
      exact rz_zreturn rfl rfl dX4_isSign_21
    · refine rz_iconst 17 dX4_isSign_16 rfl ci_1 ?_
      refine rz_goto 21 dX4_isSign_17 rfl ?_
      exact rz_zreturn rfl rfl dX4_isSign_21
theorem tX4_isSign (v : mE) (d : Nat) (l0 : Nat) (l1 : Int32) : Mt v yX4_isSign cX4_isSign 2 (some .boolean) emI (d + 0) [vR l0, vI l1] (fX4_isSign l0 l1) := mt_of rfl rfl (fun h => by cases h) rfl rfl (rX4_isSign v d l0 l1)
theorem dX4_takeWord_0 : decode cX4_takeWord 0 = .ok (.aload_n 0, 1) := by decide +kernel
theorem dX4_takeWord_1 : decode cX4_takeWord 1 = .ok (.aload_n 1, 1) := by decide +kernel
theorem dX4_takeWord_2 : decode cX4_takeWord 2 = .ok (.invokevirtual 64, 3) := by decide +kernel
theorem dX4_takeWord_5 : decode cX4_takeWord 5 = .ok (.ifCond .ne 9, 3) := by decide +kernel
theorem dX4_takeWord_8 : decode cX4_takeWord 8 = .ok (.aload_n 0, 1) := by decide +kernel
theorem dX4_takeWord_9 : decode cX4_takeWord 9 = .ok (.iconst 2, 1) := by decide +kernel
theorem dX4_takeWord_10 : decode cX4_takeWord 10 = .ok (.invokevirtual 68, 3) := by decide +kernel
theorem dX4_takeWord_13 : decode cX4_takeWord 13 = .ok (.ireturn, 1) := by decide +kernel
theorem dX4_takeWord_14 : decode cX4_takeWord 14 = .ok (.aload_n 0, 1) := by decide +kernel
theorem dX4_takeWord_15 : decode cX4_takeWord 15 = .ok (.invokevirtual 46, 3) := by decide +kernel
theorem dX4_takeWord_18 : decode cX4_takeWord 18 = .ok (.iconst 1, 1) := by decide +kernel
theorem dX4_takeWord_19 : decode cX4_takeWord 19 = .ok (.ireturn, 1) := by decide +kernel
def fX4_takeWord (l0 : Nat) (l1 : Nat) : mM Int32 := bCallV 4 l0 (fX4_isWord l0 l1) (fun x1 => bIf (x1 = 0) (bCallV 4 l0 (fX4_refuseToken l0 (2 : Int32)) (fun x2 => bRetZ x2)) (bCallV 4 l0 (fX4_next l0) (fun _ => bRetZ (1 : Int32))))
set_option maxRecDepth 20000 in
theorem rX4_takeWord (v : mE) (d : Nat) (l0 : Nat) (l1 : Nat) : Rz v RX4 cX4_takeWord 2 (some .boolean) false emI (d + 5) 0 [(0, vR l0), (1, vX l1)] [] (fX4_takeWord l0 l1) := by
  unfold fX4_takeWord
  refine rz_aload_n 1 0 dX4_takeWord_0 rfl rfl ?_
  refine rz_xload_n 2 1 dX4_takeWord_1 rfl rfl ?_
  refine rz_callV 5 dX4_takeWord_2 rfl (tX4_isWord v (d + 0) l0 l1) rfl rfl rfl rfl ml_X4_64 im_X4_isWord se_X4_X4_isWord in_X4 co_X4_isWord rfl rfl (fun x1 => ?_)
  refine rz_if_ne 14 8 dX4_takeWord_5 rfl rfl ?_ ?_
  · refine rz_aload_n 15 0 dX4_takeWord_14 rfl rfl ?_
    refine rz_callV 18 dX4_takeWord_15 rfl (tX4_next v (d + 0) l0) rfl rfl rfl rfl ml_X4_46 im_X4_next se_X4_X4_next in_X4 co_X4_next rfl rfl (fun _ => ?_)
    refine rz_iconst 19 dX4_takeWord_18 rfl ci_1 ?_
    exact rz_zreturn rfl rfl dX4_takeWord_19
  · refine rz_aload_n 9 0 dX4_takeWord_8 rfl rfl ?_
    refine rz_iconst 10 dX4_takeWord_9 rfl ci_2 ?_
    refine rz_callV 13 dX4_takeWord_10 rfl (tX4_refuseToken v (d + 4) l0 (2 : Int32)) rfl rfl rfl rfl ml_X4_68 im_X4_refuseToken se_X4_X4_refuseToken in_X4 co_X4_refuseToken rfl rfl (fun x2 => ?_)
    exact rz_zreturn rfl rfl dX4_takeWord_13
theorem tX4_takeWord (v : mE) (d : Nat) (l0 : Nat) (l1 : Nat) : Mt v yX4_takeWord cX4_takeWord 2 (some .boolean) emI (d + 5) [vR l0, vX l1] (fX4_takeWord l0 l1) := mt_of rfl rfl (fun h => by cases h) rfl rfl (rX4_takeWord v d l0 l1)
theorem dX4_takeSign_0 : decode cX4_takeSign 0 = .ok (.aload_n 0, 1) := by decide +kernel
theorem dX4_takeSign_1 : decode cX4_takeSign 1 = .ok (.iload_n 1, 1) := by decide +kernel
theorem dX4_takeSign_2 : decode cX4_takeSign 2 = .ok (.invokevirtual 72, 3) := by decide +kernel
theorem dX4_takeSign_5 : decode cX4_takeSign 5 = .ok (.ifCond .ne 9, 3) := by decide +kernel
theorem dX4_takeSign_8 : decode cX4_takeSign 8 = .ok (.aload_n 0, 1) := by decide +kernel
theorem dX4_takeSign_9 : decode cX4_takeSign 9 = .ok (.iconst 2, 1) := by decide +kernel
theorem dX4_takeSign_10 : decode cX4_takeSign 10 = .ok (.invokevirtual 68, 3) := by decide +kernel
theorem dX4_takeSign_13 : decode cX4_takeSign 13 = .ok (.ireturn, 1) := by decide +kernel
theorem dX4_takeSign_14 : decode cX4_takeSign 14 = .ok (.aload_n 0, 1) := by decide +kernel
theorem dX4_takeSign_15 : decode cX4_takeSign 15 = .ok (.invokevirtual 46, 3) := by decide +kernel
theorem dX4_takeSign_18 : decode cX4_takeSign 18 = .ok (.iconst 1, 1) := by decide +kernel
theorem dX4_takeSign_19 : decode cX4_takeSign 19 = .ok (.ireturn, 1) := by decide +kernel
def fX4_takeSign (l0 : Nat) (l1 : Int32) : mM Int32 := bCallV 4 l0 (fX4_isSign l0 l1) (fun x1 => bIf (x1 = 0) (bCallV 4 l0 (fX4_refuseToken l0 (2 : Int32)) (fun x2 => bRetZ x2)) (bCallV 4 l0 (fX4_next l0) (fun _ => bRetZ (1 : Int32))))
set_option maxRecDepth 20000 in
theorem rX4_takeSign (v : mE) (d : Nat) (l0 : Nat) (l1 : Int32) : Rz v RX4 cX4_takeSign 2 (some .boolean) false emI (d + 5) 0 [(0, vR l0), (1, vI l1)] [] (fX4_takeSign l0 l1) := by
  unfold fX4_takeSign
  refine rz_aload_n 1 0 dX4_takeSign_0 rfl rfl ?_
  refine rz_iload_n 2 1 dX4_takeSign_1 rfl rfl ?_
  refine rz_callV 5 dX4_takeSign_2 rfl (tX4_isSign v (d + 4) l0 l1) rfl rfl rfl rfl ml_X4_72 im_X4_isSign se_X4_X4_isSign in_X4 co_X4_isSign rfl rfl (fun x1 => ?_)
  refine rz_if_ne 14 8 dX4_takeSign_5 rfl rfl ?_ ?_
  · refine rz_aload_n 15 0 dX4_takeSign_14 rfl rfl ?_
    refine rz_callV 18 dX4_takeSign_15 rfl (tX4_next v (d + 0) l0) rfl rfl rfl rfl ml_X4_46 im_X4_next se_X4_X4_next in_X4 co_X4_next rfl rfl (fun _ => ?_)
    refine rz_iconst 19 dX4_takeSign_18 rfl ci_1 ?_
    exact rz_zreturn rfl rfl dX4_takeSign_19
  · refine rz_aload_n 9 0 dX4_takeSign_8 rfl rfl ?_
    refine rz_iconst 10 dX4_takeSign_9 rfl ci_2 ?_
    refine rz_callV 13 dX4_takeSign_10 rfl (tX4_refuseToken v (d + 4) l0 (2 : Int32)) rfl rfl rfl rfl ml_X4_68 im_X4_refuseToken se_X4_X4_refuseToken in_X4 co_X4_refuseToken rfl rfl (fun x2 => ?_)
    exact rz_zreturn rfl rfl dX4_takeSign_13
theorem tX4_takeSign (v : mE) (d : Nat) (l0 : Nat) (l1 : Int32) : Mt v yX4_takeSign cX4_takeSign 2 (some .boolean) emI (d + 5) [vR l0, vI l1] (fX4_takeSign l0 l1) := mt_of rfl rfl (fun h => by cases h) rfl rfl (rX4_takeSign v d l0 l1)
theorem dX4_takeNumber_0 : decode cX4_takeNumber 0 = .ok (.aload_n 0, 1) := by decide +kernel
theorem dX4_takeNumber_1 : decode cX4_takeNumber 1 = .ok (.getfield 15, 3) := by decide +kernel
theorem dX4_takeNumber_4 : decode cX4_takeNumber 4 = .ok (.iconst 2, 1) := by decide +kernel
theorem dX4_takeNumber_5 : decode cX4_takeNumber 5 = .ok (.if_icmp .eq 9, 3) := by decide +kernel
theorem dX4_takeNumber_8 : decode cX4_takeNumber 8 = .ok (.aload_n 0, 1) := by decide +kernel
theorem dX4_takeNumber_9 : decode cX4_takeNumber 9 = .ok (.iconst 2, 1) := by decide +kernel
theorem dX4_takeNumber_10 : decode cX4_takeNumber 10 = .ok (.invokevirtual 68, 3) := by decide +kernel
theorem dX4_takeNumber_13 : decode cX4_takeNumber 13 = .ok (.ireturn, 1) := by decide +kernel
theorem dX4_takeNumber_14 : decode cX4_takeNumber 14 = .ok (.aload_n 0, 1) := by decide +kernel
theorem dX4_takeNumber_15 : decode cX4_takeNumber 15 = .ok (.getfield 24, 3) := by decide +kernel
theorem dX4_takeNumber_18 : decode cX4_takeNumber 18 = .ok (.iload_n 1, 1) := by decide +kernel
theorem dX4_takeNumber_19 : decode cX4_takeNumber 19 = .ok (.if_icmp .lt 11, 3) := by decide +kernel
theorem dX4_takeNumber_22 : decode cX4_takeNumber 22 = .ok (.aload_n 0, 1) := by decide +kernel
theorem dX4_takeNumber_23 : decode cX4_takeNumber 23 = .ok (.getfield 24, 3) := by decide +kernel
theorem dX4_takeNumber_26 : decode cX4_takeNumber 26 = .ok (.iload_n 2, 1) := by decide +kernel
theorem dX4_takeNumber_27 : decode cX4_takeNumber 27 = .ok (.if_icmp .le 9, 3) := by decide +kernel
theorem dX4_takeNumber_30 : decode cX4_takeNumber 30 = .ok (.aload_n 0, 1) := by decide +kernel
theorem dX4_takeNumber_31 : decode cX4_takeNumber 31 = .ok (.iconst 4, 1) := by decide +kernel
theorem dX4_takeNumber_32 : decode cX4_takeNumber 32 = .ok (.invokevirtual 68, 3) := by decide +kernel
theorem dX4_takeNumber_35 : decode cX4_takeNumber 35 = .ok (.ireturn, 1) := by decide +kernel
theorem dX4_takeNumber_36 : decode cX4_takeNumber 36 = .ok (.aload_n 0, 1) := by decide +kernel
theorem dX4_takeNumber_37 : decode cX4_takeNumber 37 = .ok (.aload_n 0, 1) := by decide +kernel
theorem dX4_takeNumber_38 : decode cX4_takeNumber 38 = .ok (.getfield 24, 3) := by decide +kernel
theorem dX4_takeNumber_41 : decode cX4_takeNumber 41 = .ok (.putfield 27, 3) := by decide +kernel
theorem dX4_takeNumber_44 : decode cX4_takeNumber 44 = .ok (.aload_n 0, 1) := by decide +kernel
theorem dX4_takeNumber_45 : decode cX4_takeNumber 45 = .ok (.invokevirtual 46, 3) := by decide +kernel
theorem dX4_takeNumber_48 : decode cX4_takeNumber 48 = .ok (.iconst 1, 1) := by decide +kernel
theorem dX4_takeNumber_49 : decode cX4_takeNumber 49 = .ok (.ireturn, 1) := by decide +kernel
def fX4_takeNumber_30 (l0 : Nat) : mM Int32 := bCallV 4 l0 (fX4_refuseToken l0 (4 : Int32)) (fun x1 => bRetZ x1)
set_option maxRecDepth 20000 in
theorem rX4_takeNumber_30 (v : mE) (d : Nat) (l0 : Nat) : Rz v RX4 cX4_takeNumber 3 (some .boolean) false emI (d + 5) 30 [(0, vR l0)] [] (fX4_takeNumber_30 l0) := by
  unfold fX4_takeNumber_30
  refine rz_aload_n 31 0 dX4_takeNumber_30 rfl rfl ?_
  refine rz_iconst 32 dX4_takeNumber_31 rfl ci_4 ?_
  refine rz_callV 35 dX4_takeNumber_32 rfl (tX4_refuseToken v (d + 4) l0 (4 : Int32)) rfl rfl rfl rfl ml_X4_68 im_X4_refuseToken se_X4_X4_refuseToken in_X4 co_X4_refuseToken rfl rfl (fun x1 => ?_)
  exact rz_zreturn rfl rfl dX4_takeNumber_35
def fX4_takeNumber (l0 : Nat) (l1 : Int32) (l2 : Int32) : mM Int32 := bGI 4 l0 2 (fun x1 => bIf (x1 = (2 : Int32)) (bGI 4 l0 5 (fun x2 => bIf (x2 < l1) (fX4_takeNumber_30 l0) (bGI 4 l0 5 (fun x3 => bIf (x3 ≤ l2) (bGI 4 l0 5 (fun x4 => bPI 4 l0 6 x4 (bCallV 4 l0 (fX4_next l0) (fun _ => bRetZ (1 : Int32))))) (fX4_takeNumber_30 l0))))) (bCallV 4 l0 (fX4_refuseToken l0 (2 : Int32)) (fun x5 => bRetZ x5)))
set_option maxRecDepth 20000 in
theorem rX4_takeNumber (v : mE) (d : Nat) (l0 : Nat) (l1 : Int32) (l2 : Int32) : Rz v RX4 cX4_takeNumber 3 (some .boolean) false emI (d + 5) 0 [(0, vR l0), (1, vI l1), (2, vI l2)] [] (fX4_takeNumber l0 l1 l2) := by
  unfold fX4_takeNumber
  refine rz_aload_n 1 0 dX4_takeNumber_0 rfl rfl ?_
  refine rz_gI 4 dX4_takeNumber_1 rfl rfl fl_X4_15 (fun x1 => ?_)
  refine rz_iconst 5 dX4_takeNumber_4 rfl ci_2 ?_
  refine rz_icmp_eq 14 8 dX4_takeNumber_5 rfl rfl ?_ ?_
  · refine rz_aload_n 15 0 dX4_takeNumber_14 rfl rfl ?_
    refine rz_gI 18 dX4_takeNumber_15 rfl rfl fl_X4_24 (fun x2 => ?_)
    refine rz_iload_n 19 1 dX4_takeNumber_18 rfl rfl ?_
    refine rz_icmp_lt 30 22 dX4_takeNumber_19 rfl rfl ?_ ?_
    · exact rz_sub [0] rfl (rX4_takeNumber_30 v d l0)
    · refine rz_aload_n 23 0 dX4_takeNumber_22 rfl rfl ?_
      refine rz_gI 26 dX4_takeNumber_23 rfl rfl fl_X4_24 (fun x3 => ?_)
      refine rz_iload_n 27 2 dX4_takeNumber_26 rfl rfl ?_
      refine rz_icmp_le 36 30 dX4_takeNumber_27 rfl rfl ?_ ?_
      · refine rz_aload_n 37 0 dX4_takeNumber_36 rfl rfl ?_
        refine rz_aload_n 38 0 dX4_takeNumber_37 rfl rfl ?_
        refine rz_gI 41 dX4_takeNumber_38 rfl rfl fl_X4_24 (fun x4 => ?_)
        refine rz_pI 44 dX4_takeNumber_41 rfl rfl rfl rfl fl_X4_27 ?_
        refine rz_aload_n 45 0 dX4_takeNumber_44 rfl rfl ?_
        refine rz_callV 48 dX4_takeNumber_45 rfl (tX4_next v (d + 0) l0) rfl rfl rfl rfl ml_X4_46 im_X4_next se_X4_X4_next in_X4 co_X4_next rfl rfl (fun _ => ?_)
        refine rz_iconst 49 dX4_takeNumber_48 rfl ci_1 ?_
        exact rz_zreturn rfl rfl dX4_takeNumber_49
      · exact rz_sub [0] rfl (rX4_takeNumber_30 v d l0)
  · refine rz_aload_n 9 0 dX4_takeNumber_8 rfl rfl ?_
    refine rz_iconst 10 dX4_takeNumber_9 rfl ci_2 ?_
    refine rz_callV 13 dX4_takeNumber_10 rfl (tX4_refuseToken v (d + 4) l0 (2 : Int32)) rfl rfl rfl rfl ml_X4_68 im_X4_refuseToken se_X4_X4_refuseToken in_X4 co_X4_refuseToken rfl rfl (fun x5 => ?_)
    exact rz_zreturn rfl rfl dX4_takeNumber_13
theorem tX4_takeNumber (v : mE) (d : Nat) (l0 : Nat) (l1 : Int32) (l2 : Int32) : Mt v yX4_takeNumber cX4_takeNumber 3 (some .boolean) emI (d + 5) [vR l0, vI l1, vI l2] (fX4_takeNumber l0 l1 l2) := mt_of rfl rfl (fun h => by cases h) rfl rfl (rX4_takeNumber v d l0 l1 l2)

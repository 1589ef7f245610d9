/-- the words that every method is proved over: all words of the tables that keep -/
def TB : List Cond := lw_tbl.filter goodWord
theorem tb_of {w : Cond} (h : w ∈ tables_1) (g : goodWord w = true) : w ∈ TB := List.mem_filter.mpr ⟨List.mem_append_right _ h, g⟩
theorem tb_1 {w : Cond} (h : w ∈ tables_1_1) (g : goodWord w = true) : w ∈ TB := tb_of (List.mem_append_left _ h) g
theorem tb_2 {w : Cond} (h : w ∈ tables_1_2) (g : goodWord w = true) : w ∈ TB := tb_of (List.mem_append_right _ (List.mem_append_left _ h)) g
theorem tb_3 {w : Cond} (h : w ∈ tables_1_3) (g : goodWord w = true) : w ∈ TB := tb_of (List.mem_append_right _ (List.mem_append_right _ (List.mem_append_left _ h))) g
theorem tb_4 {w : Cond} (h : w ∈ tables_1_4) (g : goodWord w = true) : w ∈ TB := tb_of (List.mem_append_right _ (List.mem_append_right _ (List.mem_append_right _ (List.mem_append_left _ h)))) g
theorem tb_5 {w : Cond} (h : w ∈ tables_1_5) (g : goodWord w = true) : w ∈ TB := tb_of (List.mem_append_right _ (List.mem_append_right _ (List.mem_append_right _ (List.mem_append_right _ (List.mem_append_left _ h))))) g
theorem tb_6 {w : Cond} (h : w ∈ tables_1_6) (g : goodWord w = true) : w ∈ TB := tb_of (List.mem_append_right _ (List.mem_append_right _ (List.mem_append_right _ (List.mem_append_right _ (List.mem_append_right _ (List.mem_append_left _ h)))))) g
theorem tb_7 {w : Cond} (h : w ∈ tables_1_7) (g : goodWord w = true) : w ∈ TB := tb_of (List.mem_append_right _ (List.mem_append_right _ (List.mem_append_right _ (List.mem_append_right _ (List.mem_append_right _ (List.mem_append_right _ (List.mem_append_left _ h))))))) g
theorem tb_8 {w : Cond} (h : w ∈ tables_1_8) (g : goodWord w = true) : w ∈ TB := tb_of (List.mem_append_right _ (List.mem_append_right _ (List.mem_append_right _ (List.mem_append_right _ (List.mem_append_right _ (List.mem_append_right _ (List.mem_append_right _ (List.mem_append_left _ h)))))))) g
theorem tb_9 {w : Cond} (h : w ∈ tables_1_9) (g : goodWord w = true) : w ∈ TB := tb_of (List.mem_append_right _ (List.mem_append_right _ (List.mem_append_right _ (List.mem_append_right _ (List.mem_append_right _ (List.mem_append_right _ (List.mem_append_right _ (List.mem_append_right _ (h))))))))) g
theorem tb_sel {q : MethodName × Nat} (h : q ∈ lw_privs) : Cond.selects q.1.cls q.1 q.1 ∈ TB := List.mem_filter.mpr ⟨List.mem_append_left _ (List.mem_map.mpr ⟨q, h, rfl⟩), rfl⟩
theorem tb_s1 {q : MethodName × Nat} (h : q ∈ lw_privs_1) : Cond.selects q.1.cls q.1 q.1 ∈ TB := tb_sel (List.mem_append_left _ h)
theorem tb_s2 {q : MethodName × Nat} (h : q ∈ lw_privs_2) : Cond.selects q.1.cls q.1 q.1 ∈ TB := tb_sel (List.mem_append_right _ (List.mem_append_left _ h))
theorem tb_s3 {q : MethodName × Nat} (h : q ∈ lw_privs_3) : Cond.selects q.1.cls q.1 q.1 ∈ TB := tb_sel (List.mem_append_right _ (List.mem_append_right _ (List.mem_append_left _ h)))
theorem tb_s4 {q : MethodName × Nat} (h : q ∈ lw_privs_4) : Cond.selects q.1.cls q.1 q.1 ∈ TB := tb_sel (List.mem_append_right _ (List.mem_append_right _ (List.mem_append_right _ (List.mem_append_left _ h))))
theorem tb_s5 {q : MethodName × Nat} (h : q ∈ lw_privs_5) : Cond.selects q.1.cls q.1 q.1 ∈ TB := tb_sel (List.mem_append_right _ (List.mem_append_right _ (List.mem_append_right _ (List.mem_append_right _ (List.mem_append_left _ h)))))
theorem tb_s6 {q : MethodName × Nat} (h : q ∈ lw_privs_6) : Cond.selects q.1.cls q.1 q.1 ∈ TB := tb_sel (List.mem_append_right _ (List.mem_append_right _ (List.mem_append_right _ (List.mem_append_right _ (List.mem_append_right _ (List.mem_append_left _ h))))))
theorem tb_s7 {q : MethodName × Nat} (h : q ∈ lw_privs_7) : Cond.selects q.1.cls q.1 q.1 ∈ TB := tb_sel (List.mem_append_right _ (List.mem_append_right _ (List.mem_append_right _ (List.mem_append_right _ (List.mem_append_right _ (List.mem_append_right _ (List.mem_append_left _ h)))))))
theorem tb_s8 {q : MethodName × Nat} (h : q ∈ lw_privs_8) : Cond.selects q.1.cls q.1 q.1 ∈ TB := tb_sel (List.mem_append_right _ (List.mem_append_right _ (List.mem_append_right _ (List.mem_append_right _ (List.mem_append_right _ (List.mem_append_right _ (List.mem_append_right _ (List.mem_append_left _ h))))))))
theorem tb_s9 {q : MethodName × Nat} (h : q ∈ lw_privs_9) : Cond.selects q.1.cls q.1 q.1 ∈ TB := tb_sel (List.mem_append_right _ (List.mem_append_right _ (List.mem_append_right _ (List.mem_append_right _ (List.mem_append_right _ (List.mem_append_right _ (List.mem_append_right _ (List.mem_append_right _ (List.mem_append_left _ h)))))))))
theorem tb_s10 {q : MethodName × Nat} (h : q ∈ lw_privs_10) : Cond.selects q.1.cls q.1 q.1 ∈ TB := tb_sel (List.mem_append_right _ (List.mem_append_right _ (List.mem_append_right _ (List.mem_append_right _ (List.mem_append_right _ (List.mem_append_right _ (List.mem_append_right _ (List.mem_append_right _ (List.mem_append_right _ (h))))))))))
theorem tb_good : GoodIn TB TB := fun w h => ⟨h, good_of_word (List.mem_filter.mp h).2⟩
theorem tb_hts {args : Array Value} {s : State} (h : ∀ w ∈ lw_tbl, w.before args s = true) : ∀ w ∈ TB, w.before args s = true := fun w hw => h w (List.mem_filter.mp hw).1
theorem in_L : Cond.initialized RL ∈ TB := tb_1 (List.mem_of_getElem? (i := 0) rfl) rfl
theorem in_X8 : Cond.initialized RX8 ∈ TB := tb_1 (List.mem_of_getElem? (i := 1) rfl) rfl
theorem in_X7 : Cond.initialized RX7 ∈ TB := tb_1 (List.mem_of_getElem? (i := 2) rfl) rfl
theorem in_X3 : Cond.initialized RX3 ∈ TB := tb_1 (List.mem_of_getElem? (i := 3) rfl) rfl
theorem in_X2 : Cond.initialized RX2 ∈ TB := tb_1 (List.mem_of_getElem? (i := 4) rfl) rfl
theorem in_X5 : Cond.initialized RX5 ∈ TB := tb_1 (List.mem_of_getElem? (i := 5) rfl) rfl
theorem in_X4 : Cond.initialized RX4 ∈ TB := tb_1 (List.mem_of_getElem? (i := 6) rfl) rfl
theorem in_X6 : Cond.initialized RX6 ∈ TB := tb_1 (List.mem_of_getElem? (i := 7) rfl) rfl
theorem in_X1 : Cond.initialized RX1 ∈ TB := tb_1 (List.mem_of_getElem? (i := 8) rfl) rfl
theorem in_X9 : Cond.initialized RX9 ∈ TB := tb_1 (List.mem_of_getElem? (i := 9) rfl) rfl
theorem in_J7 : Cond.initialized RJ7 ∈ TB := tb_1 (List.mem_of_getElem? (i := 10) rfl) rfl
theorem in_J10 : Cond.initialized RJ10 ∈ TB := tb_1 (List.mem_of_getElem? (i := 11) rfl) rfl
theorem in_J9 : Cond.initialized RJ9 ∈ TB := tb_1 (List.mem_of_getElem? (i := 12) rfl) rfl
theorem in_J0 : Cond.initialized RJ0 ∈ TB := tb_1 (List.mem_of_getElem? (i := 13) rfl) rfl
theorem in_J1 : Cond.initialized RJ1 ∈ TB := tb_1 (List.mem_of_getElem? (i := 14) rfl) rfl
theorem in_J2 : Cond.initialized RJ2 ∈ TB := tb_1 (List.mem_of_getElem? (i := 15) rfl) rfl
theorem in_J3 : Cond.initialized RJ3 ∈ TB := tb_1 (List.mem_of_getElem? (i := 16) rfl) rfl
theorem in_J11 : Cond.initialized RJ11 ∈ TB := tb_1 (List.mem_of_getElem? (i := 17) rfl) rfl
theorem in_X0 : Cond.initialized RX0 ∈ TB := tb_1 (List.mem_of_getElem? (i := 18) rfl) rfl
theorem in_J6 : Cond.initialized RJ6 ∈ TB := tb_1 (List.mem_of_getElem? (i := 19) rfl) rfl
theorem cl_L_7 : Cond.classLink RL 7 RX8 ∈ TB := tb_1 (List.mem_of_getElem? (i := 20) rfl) rfl
theorem it_X8 : Cond.instantiable RX8 16 ∈ TB := tb_1 (List.mem_of_getElem? (i := 21) rfl) rfl
theorem ml_L_9 : Cond.methodLink RL 9 yX8_init ∈ TB := tb_1 (List.mem_of_getElem? (i := 22) rfl) rfl
theorem im_X8_init : Cond.instanceMethod yX8_init ∈ TB := tb_1 (List.mem_of_getElem? (i := 23) rfl) rfl
theorem co_X8_init : Cond.code yX8_init cX8_init 2 none ∈ TB := tb_1 (List.mem_of_getElem? (i := 24) rfl) rfl
theorem ml_X8_1 : Cond.methodLink RX8 1 ⟨"java/lang/Object", "<init>", "()V"⟩ ∈ TB := tb_1 (List.mem_of_getElem? (i := 25) rfl) rfl
theorem im_java_lang_Object__init____V : Cond.instanceMethod ⟨"java/lang/Object", "<init>", "()V"⟩ ∈ TB := tb_1 (List.mem_of_getElem? (i := 26) rfl) rfl
theorem co_java_lang_Object__init____V : Cond.code ⟨"java/lang/Object", "<init>", "()V"⟩ object_method_1_code 1 none ∈ TB := tb_1 (List.mem_of_getElem? (i := 27) rfl) rfl
theorem cl_X8_9 : Cond.classLink RX8 9 RX5 ∈ TB := tb_1 (List.mem_of_getElem? (i := 28) rfl) rfl
theorem cl_X8_23 : Cond.classLink RX8 23 RX7 ∈ TB := tb_1 (List.mem_of_getElem? (i := 30) rfl) rfl
theorem it_X7 : Cond.instantiable RX7 17 ∈ TB := tb_1 (List.mem_of_getElem? (i := 31) rfl) rfl
theorem ml_X8_25 : Cond.methodLink RX8 25 yX7_init ∈ TB := tb_1 (List.mem_of_getElem? (i := 32) rfl) rfl
theorem im_X7_init : Cond.instanceMethod yX7_init ∈ TB := tb_1 (List.mem_of_getElem? (i := 33) rfl) rfl
theorem co_X7_init : Cond.code yX7_init cX7_init 2 none ∈ TB := tb_1 (List.mem_of_getElem? (i := 34) rfl) rfl
theorem ml_X7_3 : Cond.methodLink RX7 3 ⟨"java/lang/Object", "<init>", "()V"⟩ ∈ TB := tb_1 (List.mem_of_getElem? (i := 35) rfl) rfl
theorem cl_X7_43 : Cond.classLink RX7 43 RX3 ∈ TB := tb_1 (List.mem_of_getElem? (i := 36) rfl) rfl
theorem it_X3 : Cond.instantiable RX3 8 ∈ TB := tb_1 (List.mem_of_getElem? (i := 38) rfl) rfl
theorem im_X3_init : Cond.instanceMethod yX3_init ∈ TB := tb_1 (List.mem_of_getElem? (i := 40) rfl) rfl
theorem co_X3_init : Cond.code yX3_init cX3_init 1 none ∈ TB := tb_1 (List.mem_of_getElem? (i := 41) rfl) rfl
theorem ml_X3_3 : Cond.methodLink RX3 3 ⟨"java/lang/Object", "<init>", "()V"⟩ ∈ TB := tb_1 (List.mem_of_getElem? (i := 42) rfl) rfl
theorem fl_X3_9 : Cond.fieldLink RX3 9 "WellHeirs$Rope" "owner" "I" ∈ TB := tb_1 (List.mem_of_getElem? (i := 43) rfl) rfl
theorem fl_X6_160 : Cond.fieldLink RX6 160 "WellHeirs$Rope" "owner" "I" ∈ TB := tb_1 (List.mem_of_getElem? (i := 44) rfl) rfl
theorem fl_X7_90 : Cond.fieldLink RX7 90 "WellHeirs$Rope" "owner" "I" ∈ TB := tb_1 (List.mem_of_getElem? (i := 45) rfl) rfl
theorem fl_X8_239 : Cond.fieldLink RX8 239 "WellHeirs$Rope" "owner" "I" ∈ TB := tb_1 (List.mem_of_getElem? (i := 46) rfl) rfl
theorem fl_X3_15 : Cond.fieldLink RX3 15 "WellHeirs$Rope" "borrower" "I" ∈ TB := tb_1 (List.mem_of_getElem? (i := 47) rfl) rfl
theorem fl_X8_244 : Cond.fieldLink RX8 244 "WellHeirs$Rope" "borrower" "I" ∈ TB := tb_1 (List.mem_of_getElem? (i := 48) rfl) rfl
theorem fl_X7_151 : Cond.fieldLink RX7 151 "WellHeirs$Rope" "borrower" "I" ∈ TB := tb_1 (List.mem_of_getElem? (i := 49) rfl) rfl
theorem fl_X3_18 : Cond.fieldLink RX3 18 "WellHeirs$Rope" "pieces" "I" ∈ TB := tb_1 (List.mem_of_getElem? (i := 50) rfl) rfl
theorem fl_X7_100 : Cond.fieldLink RX7 100 "WellHeirs$Rope" "pieces" "I" ∈ TB := tb_1 (List.mem_of_getElem? (i := 51) rfl) rfl
theorem fl_X8_247 : Cond.fieldLink RX8 247 "WellHeirs$Rope" "pieces" "I" ∈ TB := tb_1 (List.mem_of_getElem? (i := 52) rfl) rfl
theorem fl_X3_21 : Cond.fieldLink RX3 21 "WellHeirs$Rope" "length" "I" ∈ TB := tb_1 (List.mem_of_getElem? (i := 53) rfl) rfl
theorem fl_X7_93 : Cond.fieldLink RX7 93 "WellHeirs$Rope" "length" "I" ∈ TB := tb_1 (List.mem_of_getElem? (i := 54) rfl) rfl
theorem fl_X8_250 : Cond.fieldLink RX8 250 "WellHeirs$Rope" "length" "I" ∈ TB := tb_1 (List.mem_of_getElem? (i := 55) rfl) rfl
theorem fl_X3_24 : Cond.fieldLink RX3 24 "WellHeirs$Rope" "holy" "Z" ∈ TB := tb_1 (List.mem_of_getElem? (i := 56) rfl) rfl
theorem fl_X2_57 : Cond.fieldLink RX2 57 "WellHeirs$Rope" "holy" "Z" ∈ TB := tb_1 (List.mem_of_getElem? (i := 57) rfl) rfl
theorem fl_X6_171 : Cond.fieldLink RX6 171 "WellHeirs$Rope" "holy" "Z" ∈ TB := tb_1 (List.mem_of_getElem? (i := 58) rfl) rfl
theorem fl_X8_257 : Cond.fieldLink RX8 257 "WellHeirs$Rope" "holy" "Z" ∈ TB := tb_1 (List.mem_of_getElem? (i := 59) rfl) rfl
theorem fl_X7_187 : Cond.fieldLink RX7 187 "WellHeirs$Rope" "holy" "Z" ∈ TB := tb_1 (List.mem_of_getElem? (i := 60) rfl) rfl
theorem fl_X3_28 : Cond.fieldLink RX3 28 "WellHeirs$Rope" "slips" "I" ∈ TB := tb_1 (List.mem_of_getElem? (i := 61) rfl) rfl
theorem fl_X6_175 : Cond.fieldLink RX6 175 "WellHeirs$Rope" "slips" "I" ∈ TB := tb_1 (List.mem_of_getElem? (i := 62) rfl) rfl
theorem fl_X8_261 : Cond.fieldLink RX8 261 "WellHeirs$Rope" "slips" "I" ∈ TB := tb_1 (List.mem_of_getElem? (i := 63) rfl) rfl
theorem fl_X3_31 : Cond.fieldLink RX3 31 "WellHeirs$Rope" "yards" "[I" ∈ TB := tb_1 (List.mem_of_getElem? (i := 64) rfl) rfl
theorem fl_X7_106 : Cond.fieldLink RX7 106 "WellHeirs$Rope" "yards" "[I" ∈ TB := tb_1 (List.mem_of_getElem? (i := 65) rfl) rfl
theorem fl_X8_264 : Cond.fieldLink RX8 264 "WellHeirs$Rope" "yards" "[I" ∈ TB := tb_1 (List.mem_of_getElem? (i := 66) rfl) rfl
theorem fl_X3_35 : Cond.fieldLink RX3 35 "WellHeirs$Rope" "age" "[I" ∈ TB := tb_1 (List.mem_of_getElem? (i := 67) rfl) rfl
theorem fl_X7_103 : Cond.fieldLink RX7 103 "WellHeirs$Rope" "age" "[I" ∈ TB := tb_1 (List.mem_of_getElem? (i := 68) rfl) rfl
theorem fl_X8_267 : Cond.fieldLink RX8 267 "WellHeirs$Rope" "age" "[I" ∈ TB := tb_1 (List.mem_of_getElem? (i := 69) rfl) rfl
theorem ly_X3_owner : Cond.lays RX3 "WellHeirs$Rope" "owner" "I" ∈ TB := tb_1 (List.mem_of_getElem? (i := 70) rfl) rfl
theorem ly_X3_borrower : Cond.lays RX3 "WellHeirs$Rope" "borrower" "I" ∈ TB := tb_1 (List.mem_of_getElem? (i := 72) rfl) rfl
theorem ly_X3_pieces : Cond.lays RX3 "WellHeirs$Rope" "pieces" "I" ∈ TB := tb_1 (List.mem_of_getElem? (i := 74) rfl) rfl
theorem ly_X3_length : Cond.lays RX3 "WellHeirs$Rope" "length" "I" ∈ TB := tb_1 (List.mem_of_getElem? (i := 76) rfl) rfl
theorem ly_X3_holy : Cond.lays RX3 "WellHeirs$Rope" "holy" "Z" ∈ TB := tb_1 (List.mem_of_getElem? (i := 78) rfl) rfl
theorem ly_X3_slips : Cond.lays RX3 "WellHeirs$Rope" "slips" "I" ∈ TB := tb_1 (List.mem_of_getElem? (i := 80) rfl) rfl
theorem ly_X3_yards : Cond.laysFinal RX3 "WellHeirs$Rope" "yards" "[I" ∈ TB := tb_1 (List.mem_of_getElem? (i := 82) rfl) rfl
theorem ly_X3_age : Cond.laysFinal RX3 "WellHeirs$Rope" "age" "[I" ∈ TB := tb_1 (List.mem_of_getElem? (i := 84) rfl) rfl
theorem ac_byte : Cond.arrayClass .byte ∈ TB := tb_1 (List.mem_of_getElem? (i := 87) rfl) rfl
theorem ac_int : Cond.arrayClass .int ∈ TB := tb_1 (List.mem_of_getElem? (i := 88) rfl) rfl
theorem fl_X7_9 : Cond.fieldLink RX7 9 "WellHeirs$World" "year" "I" ∈ TB := tb_1 (List.mem_of_getElem? (i := 89) rfl) rfl
theorem fl_X8_195 : Cond.fieldLink RX8 195 "WellHeirs$World" "year" "I" ∈ TB := tb_1 (List.mem_of_getElem? (i := 90) rfl) rfl
theorem fl_X7_15 : Cond.fieldLink RX7 15 "WellHeirs$World" "water" "I" ∈ TB := tb_1 (List.mem_of_getElem? (i := 91) rfl) rfl
theorem fl_X6_108 : Cond.fieldLink RX6 108 "WellHeirs$World" "water" "I" ∈ TB := tb_1 (List.mem_of_getElem? (i := 92) rfl) rfl
theorem fl_X7_18 : Cond.fieldLink RX7 18 "WellHeirs$World" "deepest" "I" ∈ TB := tb_1 (List.mem_of_getElem? (i := 93) rfl) rfl
theorem fl_X2_41 : Cond.fieldLink RX2 41 "WellHeirs$World" "deepest" "I" ∈ TB := tb_1 (List.mem_of_getElem? (i := 94) rfl) rfl
theorem fl_X6_115 : Cond.fieldLink RX6 115 "WellHeirs$World" "deepest" "I" ∈ TB := tb_1 (List.mem_of_getElem? (i := 95) rfl) rfl
theorem fl_X8_201 : Cond.fieldLink RX8 201 "WellHeirs$World" "deepest" "I" ∈ TB := tb_1 (List.mem_of_getElem? (i := 96) rfl) rfl
theorem fl_X7_21 : Cond.fieldLink RX7 21 "WellHeirs$World" "sinks" "I" ∈ TB := tb_1 (List.mem_of_getElem? (i := 97) rfl) rfl
theorem fl_X6_120 : Cond.fieldLink RX6 120 "WellHeirs$World" "sinks" "I" ∈ TB := tb_1 (List.mem_of_getElem? (i := 98) rfl) rfl
theorem fl_X7_24 : Cond.fieldLink RX7 24 "WellHeirs$World" "rain" "I" ∈ TB := tb_1 (List.mem_of_getElem? (i := 99) rfl) rfl
theorem fl_X6_131 : Cond.fieldLink RX6 131 "WellHeirs$World" "rain" "I" ∈ TB := tb_1 (List.mem_of_getElem? (i := 100) rfl) rfl
theorem fl_X7_27 : Cond.fieldLink RX7 27 "WellHeirs$World" "rainBy" "I" ∈ TB := tb_1 (List.mem_of_getElem? (i := 101) rfl) rfl
theorem fl_X6_135 : Cond.fieldLink RX6 135 "WellHeirs$World" "rainBy" "I" ∈ TB := tb_1 (List.mem_of_getElem? (i := 102) rfl) rfl
theorem fl_X7_30 : Cond.fieldLink RX7 30 "WellHeirs$World" "draws" "I" ∈ TB := tb_1 (List.mem_of_getElem? (i := 103) rfl) rfl
theorem fl_X8_204 : Cond.fieldLink RX8 204 "WellHeirs$World" "draws" "I" ∈ TB := tb_1 (List.mem_of_getElem? (i := 104) rfl) rfl
theorem fl_X7_33 : Cond.fieldLink RX7 33 "WellHeirs$World" "people" "I" ∈ TB := tb_1 (List.mem_of_getElem? (i := 105) rfl) rfl
theorem fl_X6_79 : Cond.fieldLink RX6 79 "WellHeirs$World" "people" "I" ∈ TB := tb_1 (List.mem_of_getElem? (i := 106) rfl) rfl
theorem fl_X8_163 : Cond.fieldLink RX8 163 "WellHeirs$World" "people" "I" ∈ TB := tb_1 (List.mem_of_getElem? (i := 107) rfl) rfl
theorem fl_X7_36 : Cond.fieldLink RX7 36 "WellHeirs$World" "parent" "[I" ∈ TB := tb_1 (List.mem_of_getElem? (i := 108) rfl) rfl
theorem fl_X6_141 : Cond.fieldLink RX6 141 "WellHeirs$World" "parent" "[I" ∈ TB := tb_1 (List.mem_of_getElem? (i := 109) rfl) rfl
theorem fl_X8_210 : Cond.fieldLink RX8 210 "WellHeirs$World" "parent" "[I" ∈ TB := tb_1 (List.mem_of_getElem? (i := 110) rfl) rfl
theorem fl_X7_40 : Cond.fieldLink RX7 40 "WellHeirs$World" "dies" "[I" ∈ TB := tb_1 (List.mem_of_getElem? (i := 111) rfl) rfl
theorem fl_X6_144 : Cond.fieldLink RX6 144 "WellHeirs$World" "dies" "[I" ∈ TB := tb_1 (List.mem_of_getElem? (i := 112) rfl) rfl
theorem fl_X8_217 : Cond.fieldLink RX8 217 "WellHeirs$World" "dies" "[I" ∈ TB := tb_1 (List.mem_of_getElem? (i := 113) rfl) rfl
theorem fl_X7_45 : Cond.fieldLink RX7 45 "WellHeirs$World" "ropes" "[LWellHeirs$Rope;" ∈ TB := tb_1 (List.mem_of_getElem? (i := 114) rfl) rfl
theorem fl_X2_44 : Cond.fieldLink RX2 44 "WellHeirs$World" "ropes" "[LWellHeirs$Rope;" ∈ TB := tb_1 (List.mem_of_getElem? (i := 115) rfl) rfl
theorem fl_X6_156 : Cond.fieldLink RX6 156 "WellHeirs$World" "ropes" "[LWellHeirs$Rope;" ∈ TB := tb_1 (List.mem_of_getElem? (i := 116) rfl) rfl
theorem fl_X8_235 : Cond.fieldLink RX8 235 "WellHeirs$World" "ropes" "[LWellHeirs$Rope;" ∈ TB := tb_1 (List.mem_of_getElem? (i := 117) rfl) rfl
theorem fl_X7_49 : Cond.fieldLink RX7 49 "WellHeirs$World" "floods" "I" ∈ TB := tb_1 (List.mem_of_getElem? (i := 118) rfl) rfl
theorem fl_X6_92 : Cond.fieldLink RX6 92 "WellHeirs$World" "floods" "I" ∈ TB := tb_1 (List.mem_of_getElem? (i := 119) rfl) rfl
theorem fl_X7_52 : Cond.fieldLink RX7 52 "WellHeirs$World" "floodFrom" "[I" ∈ TB := tb_1 (List.mem_of_getElem? (i := 120) rfl) rfl
theorem fl_X6_185 : Cond.fieldLink RX6 185 "WellHeirs$World" "floodFrom" "[I" ∈ TB := tb_1 (List.mem_of_getElem? (i := 121) rfl) rfl
theorem fl_X7_55 : Cond.fieldLink RX7 55 "WellHeirs$World" "floodTo" "[I" ∈ TB := tb_1 (List.mem_of_getElem? (i := 122) rfl) rfl
theorem fl_X6_190 : Cond.fieldLink RX6 190 "WellHeirs$World" "floodTo" "[I" ∈ TB := tb_1 (List.mem_of_getElem? (i := 123) rfl) rfl
theorem fl_X7_58 : Cond.fieldLink RX7 58 "WellHeirs$World" "floodBy" "[I" ∈ TB := tb_1 (List.mem_of_getElem? (i := 124) rfl) rfl
theorem fl_X6_193 : Cond.fieldLink RX6 193 "WellHeirs$World" "floodBy" "[I" ∈ TB := tb_1 (List.mem_of_getElem? (i := 125) rfl) rfl
theorem fl_X7_61 : Cond.fieldLink RX7 61 "WellHeirs$World" "facts" "[I" ∈ TB := tb_1 (List.mem_of_getElem? (i := 126) rfl) rfl
theorem fl_X7_64 : Cond.fieldLink RX7 64 "WellHeirs$World" "law" "LWellHeirs$Law;" ∈ TB := tb_1 (List.mem_of_getElem? (i := 127) rfl) rfl
theorem fl_X8_177 : Cond.fieldLink RX8 177 "WellHeirs$World" "law" "LWellHeirs$Law;" ∈ TB := tb_1 (List.mem_of_getElem? (i := 128) rfl) rfl
theorem ly_X7_year : Cond.lays RX7 "WellHeirs$World" "year" "I" ∈ TB := tb_1 (List.mem_of_getElem? (i := 129) rfl) rfl
theorem ly_X7_water : Cond.lays RX7 "WellHeirs$World" "water" "I" ∈ TB := tb_1 (List.mem_of_getElem? (i := 131) rfl) rfl
theorem ly_X7_deepest : Cond.lays RX7 "WellHeirs$World" "deepest" "I" ∈ TB := tb_1 (List.mem_of_getElem? (i := 133) rfl) rfl
theorem ly_X7_sinks : Cond.lays RX7 "WellHeirs$World" "sinks" "I" ∈ TB := tb_1 (List.mem_of_getElem? (i := 135) rfl) rfl
theorem ly_X7_rain : Cond.lays RX7 "WellHeirs$World" "rain" "I" ∈ TB := tb_1 (List.mem_of_getElem? (i := 137) rfl) rfl
theorem ly_X7_rainBy : Cond.lays RX7 "WellHeirs$World" "rainBy" "I" ∈ TB := tb_1 (List.mem_of_getElem? (i := 139) rfl) rfl
theorem ly_X7_draws : Cond.lays RX7 "WellHeirs$World" "draws" "I" ∈ TB := tb_1 (List.mem_of_getElem? (i := 141) rfl) rfl
theorem ly_X7_people : Cond.lays RX7 "WellHeirs$World" "people" "I" ∈ TB := tb_1 (List.mem_of_getElem? (i := 143) rfl) rfl
theorem ly_X7_parent : Cond.laysFinal RX7 "WellHeirs$World" "parent" "[I" ∈ TB := tb_1 (List.mem_of_getElem? (i := 145) rfl) rfl
theorem ly_X7_dies : Cond.laysFinal RX7 "WellHeirs$World" "dies" "[I" ∈ TB := tb_1 (List.mem_of_getElem? (i := 147) rfl) rfl
theorem ly_X7_ropes : Cond.laysFinal RX7 "WellHeirs$World" "ropes" "[LWellHeirs$Rope;" ∈ TB := tb_1 (List.mem_of_getElem? (i := 149) rfl) rfl
theorem ly_X7_floods : Cond.lays RX7 "WellHeirs$World" "floods" "I" ∈ TB := tb_1 (List.mem_of_getElem? (i := 151) rfl) rfl
theorem ly_X7_floodFrom : Cond.laysFinal RX7 "WellHeirs$World" "floodFrom" "[I" ∈ TB := tb_1 (List.mem_of_getElem? (i := 153) rfl) rfl
theorem ly_X7_floodTo : Cond.laysFinal RX7 "WellHeirs$World" "floodTo" "[I" ∈ TB := tb_1 (List.mem_of_getElem? (i := 155) rfl) rfl
theorem ly_X7_floodBy : Cond.laysFinal RX7 "WellHeirs$World" "floodBy" "[I" ∈ TB := tb_1 (List.mem_of_getElem? (i := 157) rfl) rfl
theorem ly_X7_facts : Cond.laysFinal RX7 "WellHeirs$World" "facts" "[I" ∈ TB := tb_1 (List.mem_of_getElem? (i := 159) rfl) rfl
theorem ly_X7_law : Cond.lays RX7 "WellHeirs$World" "law" "LWellHeirs$Law;" ∈ TB := tb_1 (List.mem_of_getElem? (i := 161) rfl) rfl
theorem cl_X8_40 : Cond.classLink RX8 40 RX2 ∈ TB := tb_1 (List.mem_of_getElem? (i := 165) rfl) rfl
theorem it_X2 : Cond.instantiable RX2 7 ∈ TB := tb_1 (List.mem_of_getElem? (i := 166) rfl) rfl
theorem im_X2_init : Cond.instanceMethod yX2_init ∈ TB := tb_1 (List.mem_of_getElem? (i := 168) rfl) rfl
theorem co_X2_init : Cond.code yX2_init cX2_init 1 none ∈ TB := tb_1 (List.mem_of_getElem? (i := 169) rfl) rfl
theorem ml_X2_3 : Cond.methodLink RX2 3 ⟨"java/lang/Object", "<init>", "()V"⟩ ∈ TB := tb_1 (List.mem_of_getElem? (i := 170) rfl) rfl
theorem fl_X2_9 : Cond.fieldLink RX2 9 "WellHeirs$Planner" "dry" "Z" ∈ TB := tb_1 (List.mem_of_getElem? (i := 171) rfl) rfl
theorem fl_X2_15 : Cond.fieldLink RX2 15 "WellHeirs$Planner" "alone" "I" ∈ TB := tb_1 (List.mem_of_getElem? (i := 172) rfl) rfl
theorem fl_X2_19 : Cond.fieldLink RX2 19 "WellHeirs$Planner" "count" "I" ∈ TB := tb_1 (List.mem_of_getElem? (i := 173) rfl) rfl
theorem fl_X2_22 : Cond.fieldLink RX2 22 "WellHeirs$Planner" "need" "I" ∈ TB := tb_1 (List.mem_of_getElem? (i := 174) rfl) rfl
theorem fl_X2_25 : Cond.fieldLink RX2 25 "WellHeirs$Planner" "gain" "[I" ∈ TB := tb_1 (List.mem_of_getElem? (i := 175) rfl) rfl
theorem fl_X2_29 : Cond.fieldLink RX2 29 "WellHeirs$Planner" "full" "[I" ∈ TB := tb_1 (List.mem_of_getElem? (i := 176) rfl) rfl
theorem fl_X2_32 : Cond.fieldLink RX2 32 "WellHeirs$Planner" "fewest" "[I" ∈ TB := tb_1 (List.mem_of_getElem? (i := 177) rfl) rfl
theorem ly_X2_dry : Cond.lays RX2 "WellHeirs$Planner" "dry" "Z" ∈ TB := tb_1 (List.mem_of_getElem? (i := 178) rfl) rfl
theorem ly_X2_alone : Cond.lays RX2 "WellHeirs$Planner" "alone" "I" ∈ TB := tb_1 (List.mem_of_getElem? (i := 180) rfl) rfl
theorem ly_X2_count : Cond.lays RX2 "WellHeirs$Planner" "count" "I" ∈ TB := tb_1 (List.mem_of_getElem? (i := 182) rfl) rfl
theorem ly_X2_need : Cond.lays RX2 "WellHeirs$Planner" "need" "I" ∈ TB := tb_1 (List.mem_of_getElem? (i := 184) rfl) rfl
theorem ly_X2_gain : Cond.laysFinal RX2 "WellHeirs$Planner" "gain" "[I" ∈ TB := tb_1 (List.mem_of_getElem? (i := 186) rfl) rfl
theorem ly_X2_full : Cond.lays RX2 "WellHeirs$Planner" "full" "[I" ∈ TB := tb_1 (List.mem_of_getElem? (i := 188) rfl) rfl
theorem ly_X2_fewest : Cond.laysFinal RX2 "WellHeirs$Planner" "fewest" "[I" ∈ TB := tb_1 (List.mem_of_getElem? (i := 190) rfl) rfl
theorem it_X5 : Cond.instantiable RX5 3 ∈ TB := tb_1 (List.mem_of_getElem? (i := 193) rfl) rfl
theorem im_X5_init : Cond.instanceMethod yX5_init ∈ TB := tb_1 (List.mem_of_getElem? (i := 195) rfl) rfl
theorem co_X5_init : Cond.code yX5_init cX5_init 1 none ∈ TB := tb_1 (List.mem_of_getElem? (i := 196) rfl) rfl
theorem ml_X5_3 : Cond.methodLink RX5 3 ⟨"java/lang/Object", "<init>", "()V"⟩ ∈ TB := tb_1 (List.mem_of_getElem? (i := 197) rfl) rfl
theorem fl_X5_9 : Cond.fieldLink RX5 9 "WellHeirs$Tray" "numbers" "[J" ∈ TB := tb_1 (List.mem_of_getElem? (i := 198) rfl) rfl
theorem fl_X8_118 : Cond.fieldLink RX8 118 "WellHeirs$Tray" "numbers" "[J" ∈ TB := tb_1 (List.mem_of_getElem? (i := 199) rfl) rfl
theorem fl_X5_15 : Cond.fieldLink RX5 15 "WellHeirs$Tray" "sort" "I" ∈ TB := tb_1 (List.mem_of_getElem? (i := 200) rfl) rfl
theorem fl_X8_138 : Cond.fieldLink RX8 138 "WellHeirs$Tray" "sort" "I" ∈ TB := tb_1 (List.mem_of_getElem? (i := 201) rfl) rfl
theorem fl_X5_19 : Cond.fieldLink RX5 19 "WellHeirs$Tray" "length" "I" ∈ TB := tb_1 (List.mem_of_getElem? (i := 202) rfl) rfl
theorem fl_X8_135 : Cond.fieldLink RX8 135 "WellHeirs$Tray" "length" "I" ∈ TB := tb_1 (List.mem_of_getElem? (i := 203) rfl) rfl
theorem ly_X5_numbers : Cond.laysFinal RX5 "WellHeirs$Tray" "numbers" "[J" ∈ TB := tb_1 (List.mem_of_getElem? (i := 204) rfl) rfl
theorem ly_X5_sort : Cond.lays RX5 "WellHeirs$Tray" "sort" "I" ∈ TB := tb_1 (List.mem_of_getElem? (i := 206) rfl) rfl
theorem ly_X5_length : Cond.lays RX5 "WellHeirs$Tray" "length" "I" ∈ TB := tb_1 (List.mem_of_getElem? (i := 208) rfl) rfl
theorem ac_long : Cond.arrayClass .long ∈ TB := tb_1 (List.mem_of_getElem? (i := 211) rfl) rfl
theorem cl_X8_68 : Cond.classLink RX8 68 RX4 ∈ TB := tb_1 (List.mem_of_getElem? (i := 212) rfl) rfl
theorem it_X4 : Cond.instantiable RX4 9 ∈ TB := tb_1 (List.mem_of_getElem? (i := 213) rfl) rfl
theorem ml_X8_70 : Cond.methodLink RX8 70 yX4_init ∈ TB := tb_1 (List.mem_of_getElem? (i := 214) rfl) rfl
theorem im_X4_init : Cond.instanceMethod yX4_init ∈ TB := tb_1 (List.mem_of_getElem? (i := 215) rfl) rfl
theorem co_X4_init : Cond.code yX4_init cX4_init 2 none ∈ TB := tb_1 (List.mem_of_getElem? (i := 216) rfl) rfl
theorem ml_X4_3 : Cond.methodLink RX4 3 ⟨"java/lang/Object", "<init>", "()V"⟩ ∈ TB := tb_1 (List.mem_of_getElem? (i := 217) rfl) rfl
theorem fl_X4_36 : Cond.fieldLink RX4 36 "WellHeirs$Tokens" "text" "[B" ∈ TB := tb_1 (List.mem_of_getElem? (i := 218) rfl) rfl
theorem fl_X6_220 : Cond.fieldLink RX6 220 "WellHeirs$Tokens" "text" "[B" ∈ TB := tb_1 (List.mem_of_getElem? (i := 219) rfl) rfl
theorem fl_X4_9 : Cond.fieldLink RX4 9 "WellHeirs$Tokens" "length" "I" ∈ TB := tb_1 (List.mem_of_getElem? (i := 220) rfl) rfl
theorem fl_X4_15 : Cond.fieldLink RX4 15 "WellHeirs$Tokens" "kind" "I" ∈ TB := tb_1 (List.mem_of_getElem? (i := 221) rfl) rfl
theorem fl_X1_35 : Cond.fieldLink RX1 35 "WellHeirs$Tokens" "kind" "I" ∈ TB := tb_1 (List.mem_of_getElem? (i := 222) rfl) rfl
theorem fl_X6_57 : Cond.fieldLink RX6 57 "WellHeirs$Tokens" "kind" "I" ∈ TB := tb_1 (List.mem_of_getElem? (i := 223) rfl) rfl
theorem fl_X4_18 : Cond.fieldLink RX4 18 "WellHeirs$Tokens" "start" "I" ∈ TB := tb_1 (List.mem_of_getElem? (i := 224) rfl) rfl
theorem fl_X6_199 : Cond.fieldLink RX6 199 "WellHeirs$Tokens" "start" "I" ∈ TB := tb_1 (List.mem_of_getElem? (i := 225) rfl) rfl
theorem fl_X4_21 : Cond.fieldLink RX4 21 "WellHeirs$Tokens" "end" "I" ∈ TB := tb_1 (List.mem_of_getElem? (i := 226) rfl) rfl
theorem fl_X6_196 : Cond.fieldLink RX6 196 "WellHeirs$Tokens" "end" "I" ∈ TB := tb_1 (List.mem_of_getElem? (i := 227) rfl) rfl
theorem fl_X4_24 : Cond.fieldLink RX4 24 "WellHeirs$Tokens" "value" "I" ∈ TB := tb_1 (List.mem_of_getElem? (i := 228) rfl) rfl
theorem fl_X1_107 : Cond.fieldLink RX1 107 "WellHeirs$Tokens" "value" "I" ∈ TB := tb_1 (List.mem_of_getElem? (i := 229) rfl) rfl
theorem fl_X4_27 : Cond.fieldLink RX4 27 "WellHeirs$Tokens" "taken" "I" ∈ TB := tb_1 (List.mem_of_getElem? (i := 230) rfl) rfl
theorem fl_X6_105 : Cond.fieldLink RX6 105 "WellHeirs$Tokens" "taken" "I" ∈ TB := tb_1 (List.mem_of_getElem? (i := 231) rfl) rfl
theorem fl_X1_114 : Cond.fieldLink RX1 114 "WellHeirs$Tokens" "taken" "I" ∈ TB := tb_1 (List.mem_of_getElem? (i := 232) rfl) rfl
theorem fl_X4_30 : Cond.fieldLink RX4 30 "WellHeirs$Tokens" "fault" "I" ∈ TB := tb_1 (List.mem_of_getElem? (i := 233) rfl) rfl
theorem fl_X8_184 : Cond.fieldLink RX8 184 "WellHeirs$Tokens" "fault" "I" ∈ TB := tb_1 (List.mem_of_getElem? (i := 234) rfl) rfl
theorem fl_X4_33 : Cond.fieldLink RX4 33 "WellHeirs$Tokens" "faultPlace" "I" ∈ TB := tb_1 (List.mem_of_getElem? (i := 235) rfl) rfl
theorem fl_X8_187 : Cond.fieldLink RX8 187 "WellHeirs$Tokens" "faultPlace" "I" ∈ TB := tb_1 (List.mem_of_getElem? (i := 236) rfl) rfl
theorem ly_X4_text : Cond.laysFinal RX4 "WellHeirs$Tokens" "text" "[B" ∈ TB := tb_1 (List.mem_of_getElem? (i := 237) rfl) rfl
theorem ly_X4_length : Cond.lays RX4 "WellHeirs$Tokens" "length" "I" ∈ TB := tb_1 (List.mem_of_getElem? (i := 239) rfl) rfl
theorem ly_X4_kind : Cond.lays RX4 "WellHeirs$Tokens" "kind" "I" ∈ TB := tb_2 (List.mem_of_getElem? (i := 1) rfl) rfl
theorem ly_X4_start : Cond.lays RX4 "WellHeirs$Tokens" "start" "I" ∈ TB := tb_2 (List.mem_of_getElem? (i := 3) rfl) rfl
theorem ly_X4_end : Cond.lays RX4 "WellHeirs$Tokens" "end" "I" ∈ TB := tb_2 (List.mem_of_getElem? (i := 5) rfl) rfl
theorem ly_X4_value : Cond.lays RX4 "WellHeirs$Tokens" "value" "I" ∈ TB := tb_2 (List.mem_of_getElem? (i := 7) rfl) rfl
theorem ly_X4_taken : Cond.lays RX4 "WellHeirs$Tokens" "taken" "I" ∈ TB := tb_2 (List.mem_of_getElem? (i := 9) rfl) rfl
theorem ly_X4_fault : Cond.lays RX4 "WellHeirs$Tokens" "fault" "I" ∈ TB := tb_2 (List.mem_of_getElem? (i := 11) rfl) rfl
theorem ly_X4_faultPlace : Cond.lays RX4 "WellHeirs$Tokens" "faultPlace" "I" ∈ TB := tb_2 (List.mem_of_getElem? (i := 13) rfl) rfl
theorem cl_X8_73 : Cond.classLink RX8 73 RX6 ∈ TB := tb_2 (List.mem_of_getElem? (i := 16) rfl) rfl
theorem it_X6 : Cond.instantiable RX6 10 ∈ TB := tb_2 (List.mem_of_getElem? (i := 17) rfl) rfl
theorem ml_X8_75 : Cond.methodLink RX8 75 yX6_init ∈ TB := tb_2 (List.mem_of_getElem? (i := 18) rfl) rfl
theorem im_X6_init : Cond.instanceMethod yX6_init ∈ TB := tb_2 (List.mem_of_getElem? (i := 19) rfl) rfl
theorem co_X6_init : Cond.code yX6_init cX6_init 3 none ∈ TB := tb_2 (List.mem_of_getElem? (i := 20) rfl) rfl
theorem ml_X6_5 : Cond.methodLink RX6 5 ⟨"java/lang/Object", "<init>", "()V"⟩ ∈ TB := tb_2 (List.mem_of_getElem? (i := 21) rfl) rfl
theorem fl_X6_38 : Cond.fieldLink RX6 38 "WellHeirs$WellReader" "tokens" "LWellHeirs$Tokens;" ∈ TB := tb_2 (List.mem_of_getElem? (i := 22) rfl) rfl
theorem fl_X8_152 : Cond.fieldLink RX8 152 "WellHeirs$WellReader" "tokens" "LWellHeirs$Tokens;" ∈ TB := tb_2 (List.mem_of_getElem? (i := 23) rfl) rfl
theorem fl_X6_42 : Cond.fieldLink RX6 42 "WellHeirs$WellReader" "into" "LWellHeirs$World;" ∈ TB := tb_2 (List.mem_of_getElem? (i := 24) rfl) rfl
theorem fl_X6_11 : Cond.fieldLink RX6 11 "WellHeirs$WellReader" "waterTold" "Z" ∈ TB := tb_2 (List.mem_of_getElem? (i := 25) rfl) rfl
theorem fl_X6_15 : Cond.fieldLink RX6 15 "WellHeirs$WellReader" "ropesTold" "I" ∈ TB := tb_2 (List.mem_of_getElem? (i := 26) rfl) rfl
theorem fl_X6_19 : Cond.fieldLink RX6 19 "WellHeirs$WellReader" "names" "I" ∈ TB := tb_2 (List.mem_of_getElem? (i := 27) rfl) rfl
theorem fl_X6_22 : Cond.fieldLink RX6 22 "WellHeirs$WellReader" "nameStart" "[I" ∈ TB := tb_2 (List.mem_of_getElem? (i := 28) rfl) rfl
theorem fl_X6_26 : Cond.fieldLink RX6 26 "WellHeirs$WellReader" "nameEnd" "[I" ∈ TB := tb_2 (List.mem_of_getElem? (i := 29) rfl) rfl
theorem fl_X6_29 : Cond.fieldLink RX6 29 "WellHeirs$WellReader" "nameOf" "[I" ∈ TB := tb_2 (List.mem_of_getElem? (i := 30) rfl) rfl
theorem fl_X6_32 : Cond.fieldLink RX6 32 "WellHeirs$WellReader" "newStart" "I" ∈ TB := tb_2 (List.mem_of_getElem? (i := 31) rfl) rfl
theorem fl_X6_35 : Cond.fieldLink RX6 35 "WellHeirs$WellReader" "newEnd" "I" ∈ TB := tb_2 (List.mem_of_getElem? (i := 32) rfl) rfl
theorem ly_X6_tokens : Cond.laysFinal RX6 "WellHeirs$WellReader" "tokens" "LWellHeirs$Tokens;" ∈ TB := tb_2 (List.mem_of_getElem? (i := 33) rfl) rfl
theorem ly_X6_into : Cond.laysFinal RX6 "WellHeirs$WellReader" "into" "LWellHeirs$World;" ∈ TB := tb_2 (List.mem_of_getElem? (i := 35) rfl) rfl
theorem ly_X6_waterTold : Cond.lays RX6 "WellHeirs$WellReader" "waterTold" "Z" ∈ TB := tb_2 (List.mem_of_getElem? (i := 37) rfl) rfl
theorem ly_X6_ropesTold : Cond.lays RX6 "WellHeirs$WellReader" "ropesTold" "I" ∈ TB := tb_2 (List.mem_of_getElem? (i := 39) rfl) rfl
theorem ly_X6_names : Cond.lays RX6 "WellHeirs$WellReader" "names" "I" ∈ TB := tb_2 (List.mem_of_getElem? (i := 41) rfl) rfl
theorem ly_X6_nameStart : Cond.laysFinal RX6 "WellHeirs$WellReader" "nameStart" "[I" ∈ TB := tb_2 (List.mem_of_getElem? (i := 43) rfl) rfl
theorem ly_X6_nameEnd : Cond.laysFinal RX6 "WellHeirs$WellReader" "nameEnd" "[I" ∈ TB := tb_2 (List.mem_of_getElem? (i := 45) rfl) rfl
theorem ly_X6_nameOf : Cond.laysFinal RX6 "WellHeirs$WellReader" "nameOf" "[I" ∈ TB := tb_2 (List.mem_of_getElem? (i := 47) rfl) rfl
theorem ly_X6_newStart : Cond.lays RX6 "WellHeirs$WellReader" "newStart" "I" ∈ TB := tb_2 (List.mem_of_getElem? (i := 49) rfl) rfl
theorem ly_X6_newEnd : Cond.lays RX6 "WellHeirs$WellReader" "newEnd" "I" ∈ TB := tb_2 (List.mem_of_getElem? (i := 51) rfl) rfl
theorem cl_X8_82 : Cond.classLink RX8 82 RX1 ∈ TB := tb_2 (List.mem_of_getElem? (i := 54) rfl) rfl
theorem it_X1 : Cond.instantiable RX1 5 ∈ TB := tb_2 (List.mem_of_getElem? (i := 55) rfl) rfl
theorem ml_X8_84 : Cond.methodLink RX8 84 yX1_init ∈ TB := tb_2 (List.mem_of_getElem? (i := 56) rfl) rfl
theorem im_X1_init : Cond.instanceMethod yX1_init ∈ TB := tb_2 (List.mem_of_getElem? (i := 57) rfl) rfl
theorem co_X1_init : Cond.code yX1_init cX1_init 2 none ∈ TB := tb_2 (List.mem_of_getElem? (i := 58) rfl) rfl
theorem ml_X1_3 : Cond.methodLink RX1 3 ⟨"java/lang/Object", "<init>", "()V"⟩ ∈ TB := tb_2 (List.mem_of_getElem? (i := 59) rfl) rfl
theorem fl_X1_25 : Cond.fieldLink RX1 25 "WellHeirs$LawReader" "tokens" "LWellHeirs$Tokens;" ∈ TB := tb_2 (List.mem_of_getElem? (i := 60) rfl) rfl
theorem fl_X8_172 : Cond.fieldLink RX8 172 "WellHeirs$LawReader" "tokens" "LWellHeirs$Tokens;" ∈ TB := tb_2 (List.mem_of_getElem? (i := 61) rfl) rfl
theorem fl_X1_9 : Cond.fieldLink RX1 9 "WellHeirs$LawReader" "rules" "I" ∈ TB := tb_2 (List.mem_of_getElem? (i := 62) rfl) rfl
theorem fl_X8_181 : Cond.fieldLink RX8 181 "WellHeirs$LawReader" "rules" "I" ∈ TB := tb_2 (List.mem_of_getElem? (i := 63) rfl) rfl
theorem fl_X1_15 : Cond.fieldLink RX1 15 "WellHeirs$LawReader" "cases" "I" ∈ TB := tb_2 (List.mem_of_getElem? (i := 64) rfl) rfl
theorem fl_X1_18 : Cond.fieldLink RX1 18 "WellHeirs$LawReader" "size" "I" ∈ TB := tb_2 (List.mem_of_getElem? (i := 65) rfl) rfl
theorem fl_X1_21 : Cond.fieldLink RX1 21 "WellHeirs$LawReader" "steps" "[I" ∈ TB := tb_2 (List.mem_of_getElem? (i := 66) rfl) rfl
theorem ly_X1_tokens : Cond.laysFinal RX1 "WellHeirs$LawReader" "tokens" "LWellHeirs$Tokens;" ∈ TB := tb_2 (List.mem_of_getElem? (i := 67) rfl) rfl
theorem ly_X1_rules : Cond.lays RX1 "WellHeirs$LawReader" "rules" "I" ∈ TB := tb_2 (List.mem_of_getElem? (i := 69) rfl) rfl
theorem ly_X1_cases : Cond.lays RX1 "WellHeirs$LawReader" "cases" "I" ∈ TB := tb_2 (List.mem_of_getElem? (i := 71) rfl) rfl
theorem ly_X1_size : Cond.lays RX1 "WellHeirs$LawReader" "size" "I" ∈ TB := tb_2 (List.mem_of_getElem? (i := 73) rfl) rfl
theorem ly_X1_steps : Cond.laysFinal RX1 "WellHeirs$LawReader" "steps" "[I" ∈ TB := tb_2 (List.mem_of_getElem? (i := 75) rfl) rfl
theorem fl_X8_11 : Cond.fieldLink RX8 11 "WellHeirs" "trays" "[LWellHeirs$Tray;" ∈ TB := tb_2 (List.mem_of_getElem? (i := 78) rfl) rfl
theorem fl_X8_15 : Cond.fieldLink RX8 15 "WellHeirs" "tape" "[B" ∈ TB := tb_2 (List.mem_of_getElem? (i := 79) rfl) rfl
theorem fl_X8_19 : Cond.fieldLink RX8 19 "WellHeirs" "taped" "I" ∈ TB := tb_2 (List.mem_of_getElem? (i := 80) rfl) rfl
theorem fl_X8_26 : Cond.fieldLink RX8 26 "WellHeirs" "now" "LWellHeirs$World;" ∈ TB := tb_2 (List.mem_of_getElem? (i := 81) rfl) rfl
theorem fl_X8_30 : Cond.fieldLink RX8 30 "WellHeirs" "then" "LWellHeirs$World;" ∈ TB := tb_2 (List.mem_of_getElem? (i := 82) rfl) rfl
theorem fl_X8_33 : Cond.fieldLink RX8 33 "WellHeirs" "marks" "[LWellHeirs$World;" ∈ TB := tb_2 (List.mem_of_getElem? (i := 83) rfl) rfl
theorem fl_X8_37 : Cond.fieldLink RX8 37 "WellHeirs" "marked" "I" ∈ TB := tb_2 (List.mem_of_getElem? (i := 84) rfl) rfl
theorem fl_X8_78 : Cond.fieldLink RX8 78 "WellHeirs" "wellReader" "LWellHeirs$WellReader;" ∈ TB := tb_2 (List.mem_of_getElem? (i := 85) rfl) rfl
theorem fl_X8_87 : Cond.fieldLink RX8 87 "WellHeirs" "lawReader" "LWellHeirs$LawReader;" ∈ TB := tb_2 (List.mem_of_getElem? (i := 86) rfl) rfl
theorem fl_X8_43 : Cond.fieldLink RX8 43 "WellHeirs" "planner" "LWellHeirs$Planner;" ∈ TB := tb_2 (List.mem_of_getElem? (i := 87) rfl) rfl
theorem fl_X8_47 : Cond.fieldLink RX8 47 "WellHeirs" "minutes" "[I" ∈ TB := tb_2 (List.mem_of_getElem? (i := 88) rfl) rfl
theorem fl_X8_51 : Cond.fieldLink RX8 51 "WellHeirs" "state" "I" ∈ TB := tb_2 (List.mem_of_getElem? (i := 89) rfl) rfl
theorem fl_X8_54 : Cond.fieldLink RX8 54 "WellHeirs" "fractionTop" "J" ∈ TB := tb_2 (List.mem_of_getElem? (i := 90) rfl) rfl
theorem fl_X8_58 : Cond.fieldLink RX8 58 "WellHeirs" "fractionBottom" "J" ∈ TB := tb_2 (List.mem_of_getElem? (i := 91) rfl) rfl
theorem fl_X8_61 : Cond.fieldLink RX8 61 "WellHeirs" "faultKind" "I" ∈ TB := tb_2 (List.mem_of_getElem? (i := 92) rfl) rfl
theorem fl_X8_64 : Cond.fieldLink RX8 64 "WellHeirs" "faultPlace" "I" ∈ TB := tb_2 (List.mem_of_getElem? (i := 93) rfl) rfl
theorem ly_X8_trays : Cond.laysFinal RX8 "WellHeirs" "trays" "[LWellHeirs$Tray;" ∈ TB := tb_2 (List.mem_of_getElem? (i := 94) rfl) rfl
theorem ly_X8_tape : Cond.laysFinal RX8 "WellHeirs" "tape" "[B" ∈ TB := tb_2 (List.mem_of_getElem? (i := 96) rfl) rfl
theorem ly_X8_taped : Cond.lays RX8 "WellHeirs" "taped" "I" ∈ TB := tb_2 (List.mem_of_getElem? (i := 98) rfl) rfl
theorem ly_X8_now : Cond.laysFinal RX8 "WellHeirs" "now" "LWellHeirs$World;" ∈ TB := tb_2 (List.mem_of_getElem? (i := 100) rfl) rfl
theorem ly_X8_then : Cond.laysFinal RX8 "WellHeirs" "then" "LWellHeirs$World;" ∈ TB := tb_2 (List.mem_of_getElem? (i := 102) rfl) rfl
theorem ly_X8_marks : Cond.laysFinal RX8 "WellHeirs" "marks" "[LWellHeirs$World;" ∈ TB := tb_2 (List.mem_of_getElem? (i := 104) rfl) rfl
theorem ly_X8_marked : Cond.lays RX8 "WellHeirs" "marked" "I" ∈ TB := tb_2 (List.mem_of_getElem? (i := 106) rfl) rfl
theorem ly_X8_wellReader : Cond.laysFinal RX8 "WellHeirs" "wellReader" "LWellHeirs$WellReader;" ∈ TB := tb_2 (List.mem_of_getElem? (i := 108) rfl) rfl
theorem ly_X8_lawReader : Cond.laysFinal RX8 "WellHeirs" "lawReader" "LWellHeirs$LawReader;" ∈ TB := tb_2 (List.mem_of_getElem? (i := 110) rfl) rfl
theorem ly_X8_planner : Cond.laysFinal RX8 "WellHeirs" "planner" "LWellHeirs$Planner;" ∈ TB := tb_2 (List.mem_of_getElem? (i := 112) rfl) rfl
theorem ly_X8_minutes : Cond.laysFinal RX8 "WellHeirs" "minutes" "[I" ∈ TB := tb_2 (List.mem_of_getElem? (i := 114) rfl) rfl
theorem ly_X8_state : Cond.lays RX8 "WellHeirs" "state" "I" ∈ TB := tb_2 (List.mem_of_getElem? (i := 116) rfl) rfl
theorem ly_X8_fractionTop : Cond.lays RX8 "WellHeirs" "fractionTop" "J" ∈ TB := tb_2 (List.mem_of_getElem? (i := 118) rfl) rfl
theorem ly_X8_fractionBottom : Cond.lays RX8 "WellHeirs" "fractionBottom" "J" ∈ TB := tb_2 (List.mem_of_getElem? (i := 120) rfl) rfl
theorem ly_X8_faultKind : Cond.lays RX8 "WellHeirs" "faultKind" "I" ∈ TB := tb_2 (List.mem_of_getElem? (i := 122) rfl) rfl
theorem ly_X8_faultPlace : Cond.lays RX8 "WellHeirs" "faultPlace" "I" ∈ TB := tb_2 (List.mem_of_getElem? (i := 124) rfl) rfl
theorem ml_L_13 : Cond.methodLink RL 13 yX8_status ∈ TB := tb_2 (List.mem_of_getElem? (i := 127) rfl) rfl
theorem im_X8_status : Cond.instanceMethod yX8_status ∈ TB := tb_2 (List.mem_of_getElem? (i := 128) rfl) rfl
theorem se_X8_X8_status : Cond.selects RX8 yX8_status yX8_status ∈ TB := tb_2 (List.mem_of_getElem? (i := 129) rfl) rfl
theorem co_X8_status : Cond.code yX8_status cX8_status 1 (some .int) ∈ TB := tb_2 (List.mem_of_getElem? (i := 130) rfl) rfl
theorem ml_L_18 : Cond.methodLink RL 18 yX8_top ∈ TB := tb_2 (List.mem_of_getElem? (i := 131) rfl) rfl
theorem im_X8_top : Cond.instanceMethod yX8_top ∈ TB := tb_2 (List.mem_of_getElem? (i := 132) rfl) rfl
theorem se_X8_X8_top : Cond.selects RX8 yX8_top yX8_top ∈ TB := tb_2 (List.mem_of_getElem? (i := 133) rfl) rfl
theorem co_X8_top : Cond.code yX8_top cX8_top 1 (some .long) ∈ TB := tb_2 (List.mem_of_getElem? (i := 134) rfl) rfl
theorem ml_L_23 : Cond.methodLink RL 23 yX8_bottom ∈ TB := tb_2 (List.mem_of_getElem? (i := 135) rfl) rfl
theorem im_X8_bottom : Cond.instanceMethod yX8_bottom ∈ TB := tb_2 (List.mem_of_getElem? (i := 136) rfl) rfl
theorem se_X8_X8_bottom : Cond.selects RX8 yX8_bottom yX8_bottom ∈ TB := tb_2 (List.mem_of_getElem? (i := 137) rfl) rfl
theorem co_X8_bottom : Cond.code yX8_bottom cX8_bottom 1 (some .long) ∈ TB := tb_2 (List.mem_of_getElem? (i := 138) rfl) rfl
theorem ml_L_27 : Cond.methodLink RL 27 yX8_tray ∈ TB := tb_2 (List.mem_of_getElem? (i := 139) rfl) rfl
theorem im_X8_tray : Cond.instanceMethod yX8_tray ∈ TB := tb_2 (List.mem_of_getElem? (i := 140) rfl) rfl
theorem se_X8_X8_tray : Cond.selects RX8 yX8_tray yX8_tray ∈ TB := tb_2 (List.mem_of_getElem? (i := 141) rfl) rfl
theorem co_X8_tray : Cond.code yX8_tray cX8_tray 4 (some .boolean) ∈ TB := tb_2 (List.mem_of_getElem? (i := 142) rfl) rfl
theorem ml_X8_91 : Cond.methodLink RX8 91 yX8_isTray ∈ TB := tb_2 (List.mem_of_getElem? (i := 143) rfl) rfl
theorem im_X8_isTray : Cond.instanceMethod yX8_isTray ∈ TB := tb_2 (List.mem_of_getElem? (i := 145) rfl) rfl
theorem co_X8_isTray : Cond.code yX8_isTray cX8_isTray 2 (some .boolean) ∈ TB := tb_2 (List.mem_of_getElem? (i := 146) rfl) rfl
theorem ml_X8_95 : Cond.methodLink RX8 95 yX8_refuse ∈ TB := tb_2 (List.mem_of_getElem? (i := 147) rfl) rfl
theorem im_X8_refuse : Cond.instanceMethod yX8_refuse ∈ TB := tb_2 (List.mem_of_getElem? (i := 149) rfl) rfl
theorem co_X8_refuse : Cond.code yX8_refuse cX8_refuse 2 (some .boolean) ∈ TB := tb_2 (List.mem_of_getElem? (i := 150) rfl) rfl
theorem ml_X8_98 : Cond.methodLink RX8 98 yX5_lay ∈ TB := tb_2 (List.mem_of_getElem? (i := 151) rfl) rfl
theorem im_X5_lay : Cond.instanceMethod yX5_lay ∈ TB := tb_2 (List.mem_of_getElem? (i := 152) rfl) rfl
theorem se_X5_X5_lay : Cond.selects RX5 yX5_lay yX5_lay ∈ TB := tb_2 (List.mem_of_getElem? (i := 153) rfl) rfl
theorem co_X5_lay : Cond.code yX5_lay cX5_lay 3 none ∈ TB := tb_2 (List.mem_of_getElem? (i := 154) rfl) rfl
theorem ml_X5_22 : Cond.methodLink RX5 22 yJ7_fill_d0a16 ∈ TB := tb_2 (List.mem_of_getElem? (i := 155) rfl) rfl
theorem sm_J7_fill_d0a16 : Cond.static yJ7_fill_d0a16 ∈ TB := tb_2 (List.mem_of_getElem? (i := 156) rfl) rfl
theorem co_J7_fill_d0a16 : Cond.code yJ7_fill_d0a16 cJ7_fill_d0a16 5 none ∈ TB := tb_2 (List.mem_of_getElem? (i := 157) rfl) rfl
theorem ml_X8_102 : Cond.methodLink RX8 102 yX8_accept ∈ TB := tb_2 (List.mem_of_getElem? (i := 158) rfl) rfl
theorem im_X8_accept : Cond.instanceMethod yX8_accept ∈ TB := tb_2 (List.mem_of_getElem? (i := 160) rfl) rfl
theorem co_X8_accept : Cond.code yX8_accept cX8_accept 1 (some .boolean) ∈ TB := tb_2 (List.mem_of_getElem? (i := 161) rfl) rfl
theorem ml_L_34 : Cond.methodLink RL 34 yX8_write ∈ TB := tb_2 (List.mem_of_getElem? (i := 162) rfl) rfl
theorem im_X8_write : Cond.instanceMethod yX8_write ∈ TB := tb_2 (List.mem_of_getElem? (i := 163) rfl) rfl
theorem se_X8_X8_write : Cond.selects RX8 yX8_write yX8_write ∈ TB := tb_2 (List.mem_of_getElem? (i := 164) rfl) rfl
theorem co_X8_write : Cond.code yX8_write cX8_write 6 (some .boolean) ∈ TB := tb_2 (List.mem_of_getElem? (i := 165) rfl) rfl
theorem ml_X8_106 : Cond.methodLink RX8 106 yX8_placeStatus ∈ TB := tb_2 (List.mem_of_getElem? (i := 166) rfl) rfl
theorem im_X8_placeStatus : Cond.instanceMethod yX8_placeStatus ∈ TB := tb_2 (List.mem_of_getElem? (i := 168) rfl) rfl
theorem co_X8_placeStatus : Cond.code yX8_placeStatus cX8_placeStatus 3 (some .int) ∈ TB := tb_2 (List.mem_of_getElem? (i := 169) rfl) rfl
theorem ml_X8_132 : Cond.methodLink RX8 132 yX5_isMissing ∈ TB := tb_2 (List.mem_of_getElem? (i := 170) rfl) rfl
theorem im_X5_isMissing : Cond.instanceMethod yX5_isMissing ∈ TB := tb_2 (List.mem_of_getElem? (i := 171) rfl) rfl
theorem se_X5_X5_isMissing : Cond.selects RX5 yX5_isMissing yX5_isMissing ∈ TB := tb_2 (List.mem_of_getElem? (i := 172) rfl) rfl
theorem co_X5_isMissing : Cond.code yX5_isMissing cX5_isMissing 1 (some .boolean) ∈ TB := tb_2 (List.mem_of_getElem? (i := 173) rfl) rfl
theorem ml_X8_110 : Cond.methodLink RX8 110 yX5_put ∈ TB := tb_2 (List.mem_of_getElem? (i := 174) rfl) rfl
theorem im_X5_put : Cond.instanceMethod yX5_put ∈ TB := tb_2 (List.mem_of_getElem? (i := 175) rfl) rfl
theorem se_X5_X5_put : Cond.selects RX5 yX5_put yX5_put ∈ TB := tb_2 (List.mem_of_getElem? (i := 176) rfl) rfl
theorem co_X5_put : Cond.code yX5_put cX5_put 4 none ∈ TB := tb_2 (List.mem_of_getElem? (i := 177) rfl) rfl
theorem ml_L_39 : Cond.methodLink RL 39 yX8_read ∈ TB := tb_2 (List.mem_of_getElem? (i := 178) rfl) rfl
theorem im_X8_read : Cond.instanceMethod yX8_read ∈ TB := tb_2 (List.mem_of_getElem? (i := 179) rfl) rfl
theorem se_X8_X8_read : Cond.selects RX8 yX8_read yX8_read ∈ TB := tb_2 (List.mem_of_getElem? (i := 180) rfl) rfl
theorem co_X8_read : Cond.code yX8_read cX8_read 4 (some .long) ∈ TB := tb_2 (List.mem_of_getElem? (i := 181) rfl) rfl
theorem ml_X8_114 : Cond.methodLink RX8 114 yX8_none ∈ TB := tb_2 (List.mem_of_getElem? (i := 182) rfl) rfl
theorem im_X8_none : Cond.instanceMethod yX8_none ∈ TB := tb_2 (List.mem_of_getElem? (i := 184) rfl) rfl
theorem co_X8_none : Cond.code yX8_none cX8_none 2 (some .int) ∈ TB := tb_2 (List.mem_of_getElem? (i := 185) rfl) rfl
theorem ml_L_44 : Cond.methodLink RL 44 yX8_pour ∈ TB := tb_2 (List.mem_of_getElem? (i := 186) rfl) rfl
theorem im_X8_pour : Cond.instanceMethod yX8_pour ∈ TB := tb_2 (List.mem_of_getElem? (i := 187) rfl) rfl
theorem se_X8_X8_pour : Cond.selects RX8 yX8_pour yX8_pour ∈ TB := tb_2 (List.mem_of_getElem? (i := 188) rfl) rfl
theorem co_X8_pour : Cond.code yX8_pour cX8_pour 7 (some .boolean) ∈ TB := tb_2 (List.mem_of_getElem? (i := 189) rfl) rfl
theorem ml_X8_122 : Cond.methodLink RX8 122 yX8_pourStatus ∈ TB := tb_2 (List.mem_of_getElem? (i := 190) rfl) rfl
theorem im_X8_pourStatus : Cond.instanceMethod yX8_pourStatus ∈ TB := tb_2 (List.mem_of_getElem? (i := 192) rfl) rfl
theorem co_X8_pourStatus : Cond.code yX8_pourStatus cX8_pourStatus 8 (some .int) ∈ TB := tb_2 (List.mem_of_getElem? (i := 193) rfl) rfl
theorem ml_X8_141 : Cond.methodLink RX8 141 yX5_has ∈ TB := tb_2 (List.mem_of_getElem? (i := 194) rfl) rfl
theorem im_X5_has : Cond.instanceMethod yX5_has ∈ TB := tb_2 (List.mem_of_getElem? (i := 195) rfl) rfl
theorem se_X5_X5_has : Cond.selects RX5 yX5_has yX5_has ∈ TB := tb_2 (List.mem_of_getElem? (i := 196) rfl) rfl
theorem co_X5_has : Cond.code yX5_has cX5_has 3 (some .boolean) ∈ TB := tb_2 (List.mem_of_getElem? (i := 197) rfl) rfl
theorem ml_X8_126 : Cond.methodLink RX8 126 ⟨"java/lang/System", "arraycopy", "(Ljava/lang/Object;ILjava/lang/Object;II)V"⟩ ∈ TB := tb_2 (List.mem_of_getElem? (i := 198) rfl) rfl
theorem sm_java_lang_System_arraycopy__Ljava_lang_Object_ILjava_lang_Object_II_V : Cond.static ⟨"java/lang/System", "arraycopy", "(Ljava/lang/Object;ILjava/lang/Object;II)V"⟩ ∈ TB := tb_2 (List.mem_of_getElem? (i := 199) rfl) rfl
theorem na_java_lang_System_arraycopy__Ljava_lang_Object_ILjava_lang_Object_II_V : Cond.native ⟨"java/lang/System", "arraycopy", "(Ljava/lang/Object;ILjava/lang/Object;II)V"⟩ ∈ TB := tb_2 (List.mem_of_getElem? (i := 200) rfl) rfl
theorem ml_L_49 : Cond.methodLink RL 49 yX8_feed ∈ TB := tb_2 (List.mem_of_getElem? (i := 201) rfl) rfl
theorem im_X8_feed : Cond.instanceMethod yX8_feed ∈ TB := tb_2 (List.mem_of_getElem? (i := 202) rfl) rfl
theorem se_X8_X8_feed : Cond.selects RX8 yX8_feed yX8_feed ∈ TB := tb_2 (List.mem_of_getElem? (i := 203) rfl) rfl
theorem co_X8_feed : Cond.code yX8_feed cX8_feed 6 (some .int) ∈ TB := tb_2 (List.mem_of_getElem? (i := 204) rfl) rfl
theorem ml_X8_145 : Cond.methodLink RX8 145 yX8_putOnTape ∈ TB := tb_2 (List.mem_of_getElem? (i := 205) rfl) rfl
theorem im_X8_putOnTape : Cond.instanceMethod yX8_putOnTape ∈ TB := tb_2 (List.mem_of_getElem? (i := 207) rfl) rfl
theorem co_X8_putOnTape : Cond.code yX8_putOnTape cX8_putOnTape 3 none ∈ TB := tb_2 (List.mem_of_getElem? (i := 208) rfl) rfl
theorem ml_L_54 : Cond.methodLink RL 54 yX8_well ∈ TB := tb_2 (List.mem_of_getElem? (i := 209) rfl) rfl
theorem im_X8_well : Cond.instanceMethod yX8_well ∈ TB := tb_2 (List.mem_of_getElem? (i := 210) rfl) rfl
theorem se_X8_X8_well : Cond.selects RX8 yX8_well yX8_well ∈ TB := tb_2 (List.mem_of_getElem? (i := 211) rfl) rfl
theorem co_X8_well : Cond.code yX8_well cX8_well 3 (some .int) ∈ TB := tb_2 (List.mem_of_getElem? (i := 212) rfl) rfl
theorem ml_X8_149 : Cond.methodLink RX8 149 yX6_readWell ∈ TB := tb_2 (List.mem_of_getElem? (i := 213) rfl) rfl
theorem im_X6_readWell : Cond.instanceMethod yX6_readWell ∈ TB := tb_2 (List.mem_of_getElem? (i := 214) rfl) rfl
theorem se_X6_X6_readWell : Cond.selects RX6 yX6_readWell yX6_readWell ∈ TB := tb_2 (List.mem_of_getElem? (i := 215) rfl) rfl
theorem co_X6_readWell : Cond.code yX6_readWell cX6_readWell 4 (some .boolean) ∈ TB := tb_2 (List.mem_of_getElem? (i := 216) rfl) rfl
theorem ml_X6_46 : Cond.methodLink RX6 46 yX7_clear ∈ TB := tb_2 (List.mem_of_getElem? (i := 217) rfl) rfl
theorem im_X7_clear : Cond.instanceMethod yX7_clear ∈ TB := tb_2 (List.mem_of_getElem? (i := 218) rfl) rfl
theorem se_X7_X7_clear : Cond.selects RX7 yX7_clear yX7_clear ∈ TB := tb_2 (List.mem_of_getElem? (i := 219) rfl) rfl
theorem co_X7_clear : Cond.code yX7_clear cX7_clear 2 none ∈ TB := tb_2 (List.mem_of_getElem? (i := 220) rfl) rfl
theorem ml_X7_69 : Cond.methodLink RX7 69 yX3_clear ∈ TB := tb_2 (List.mem_of_getElem? (i := 221) rfl) rfl
theorem im_X3_clear : Cond.instanceMethod yX3_clear ∈ TB := tb_2 (List.mem_of_getElem? (i := 222) rfl) rfl
theorem se_X3_X3_clear : Cond.selects RX3 yX3_clear yX3_clear ∈ TB := tb_2 (List.mem_of_getElem? (i := 223) rfl) rfl
theorem co_X3_clear : Cond.code yX3_clear cX3_clear 1 none ∈ TB := tb_2 (List.mem_of_getElem? (i := 224) rfl) rfl
theorem ml_X6_51 : Cond.methodLink RX6 51 yX4_open ∈ TB := tb_2 (List.mem_of_getElem? (i := 225) rfl) rfl
theorem im_X4_open : Cond.instanceMethod yX4_open ∈ TB := tb_2 (List.mem_of_getElem? (i := 226) rfl) rfl
theorem se_X4_X4_open : Cond.selects RX4 yX4_open yX4_open ∈ TB := tb_2 (List.mem_of_getElem? (i := 227) rfl) rfl
theorem co_X4_open : Cond.code yX4_open cX4_open 2 none ∈ TB := tb_2 (List.mem_of_getElem? (i := 228) rfl) rfl
theorem ml_X4_40 : Cond.methodLink RX4 40 yJ9_min_7cf53 ∈ TB := tb_2 (List.mem_of_getElem? (i := 229) rfl) rfl
theorem sm_J9_min_7cf53 : Cond.static yJ9_min_7cf53 ∈ TB := tb_2 (List.mem_of_getElem? (i := 230) rfl) rfl
theorem co_J9_min_7cf53 : Cond.code yJ9_min_7cf53 cJ9_min_7cf53 2 (some .int) ∈ TB := tb_2 (List.mem_of_getElem? (i := 231) rfl) rfl
theorem ml_X4_46 : Cond.methodLink RX4 46 yX4_next ∈ TB := tb_2 (List.mem_of_getElem? (i := 232) rfl) rfl
theorem im_X4_next : Cond.instanceMethod yX4_next ∈ TB := tb_2 (List.mem_of_getElem? (i := 233) rfl) rfl
theorem se_X4_X4_next : Cond.selects RX4 yX4_next yX4_next ∈ TB := tb_2 (List.mem_of_getElem? (i := 234) rfl) rfl
theorem co_X4_next : Cond.code yX4_next cX4_next 2 none ∈ TB := tb_2 (List.mem_of_getElem? (i := 235) rfl) rfl
theorem ml_X4_51 : Cond.methodLink RX4 51 yJ0_indexOf_0f7a4 ∈ TB := tb_2 (List.mem_of_getElem? (i := 237) rfl) rfl
theorem im_J0_indexOf_0f7a4 : Cond.instanceMethod yJ0_indexOf_0f7a4 ∈ TB := tb_2 (List.mem_of_getElem? (i := 238) rfl) rfl
theorem se_J0_J0_indexOf_0f7a4 : Cond.selects RJ0 yJ0_indexOf_0f7a4 yJ0_indexOf_0f7a4 ∈ TB := tb_2 (List.mem_of_getElem? (i := 239) rfl) rfl
theorem co_J0_indexOf_0f7a4 : Cond.code yJ0_indexOf_0f7a4 cJ0_indexOf_0f7a4 2 (some .int) ∈ TB := tb_3 (List.mem_of_getElem? (i := 0) rfl) rfl
theorem ml_J0_633 : Cond.methodLink RJ0 633 yJ0_indexOf_7cf53 ∈ TB := tb_3 (List.mem_of_getElem? (i := 1) rfl) rfl
theorem im_J0_indexOf_7cf53 : Cond.instanceMethod yJ0_indexOf_7cf53 ∈ TB := tb_3 (List.mem_of_getElem? (i := 2) rfl) rfl
theorem se_J0_J0_indexOf_7cf53 : Cond.selects RJ0 yJ0_indexOf_7cf53 yJ0_indexOf_7cf53 ∈ TB := tb_3 (List.mem_of_getElem? (i := 3) rfl) rfl
theorem co_J0_indexOf_7cf53 : Cond.code yJ0_indexOf_7cf53 cJ0_indexOf_7cf53 3 (some .int) ∈ TB := tb_3 (List.mem_of_getElem? (i := 4) rfl) rfl
theorem ml_J0_492 : Cond.methodLink RJ0 492 yJ0_isLatin1_aae02 ∈ TB := tb_3 (List.mem_of_getElem? (i := 5) rfl) rfl
theorem im_J0_isLatin1_aae02 : Cond.instanceMethod yJ0_isLatin1_aae02 ∈ TB := tb_3 (List.mem_of_getElem? (i := 6) rfl) rfl
theorem se_J0_J0_isLatin1_aae02 : Cond.selects RJ0 yJ0_isLatin1_aae02 yJ0_isLatin1_aae02 ∈ TB := tb_3 (List.mem_of_getElem? (i := 7) rfl) rfl
theorem co_J0_isLatin1_aae02 : Cond.code yJ0_isLatin1_aae02 cJ0_isLatin1_aae02 1 (some .boolean) ∈ TB := tb_3 (List.mem_of_getElem? (i := 8) rfl) rfl
theorem fl_J0_38 : Cond.fieldLink RJ0 38 "java/lang/String" "COMPACT_STRINGS" "Z" ∈ TB := tb_3 (List.mem_of_getElem? (i := 9) rfl) rfl
theorem ml_J0_505 : Cond.methodLink RJ0 505 yJ0_length_8abf5 ∈ TB := tb_3 (List.mem_of_getElem? (i := 11) rfl) rfl
theorem im_J0_length_8abf5 : Cond.instanceMethod yJ0_length_8abf5 ∈ TB := tb_3 (List.mem_of_getElem? (i := 12) rfl) rfl
theorem se_J0_J0_length_8abf5 : Cond.selects RJ0 yJ0_length_8abf5 yJ0_length_8abf5 ∈ TB := tb_3 (List.mem_of_getElem? (i := 13) rfl) rfl
theorem co_J0_length_8abf5 : Cond.code yJ0_length_8abf5 cJ0_length_8abf5 1 (some .int) ∈ TB := tb_3 (List.mem_of_getElem? (i := 14) rfl) rfl
theorem ml_J0_335 : Cond.methodLink RJ0 335 yJ0_coder_7d493 ∈ TB := tb_3 (List.mem_of_getElem? (i := 15) rfl) rfl
theorem im_J0_coder_7d493 : Cond.instanceMethod yJ0_coder_7d493 ∈ TB := tb_3 (List.mem_of_getElem? (i := 16) rfl) rfl
theorem se_J0_J0_coder_7d493 : Cond.selects RJ0 yJ0_coder_7d493 yJ0_coder_7d493 ∈ TB := tb_3 (List.mem_of_getElem? (i := 17) rfl) rfl
theorem co_J0_coder_7d493 : Cond.code yJ0_coder_7d493 cJ0_coder_7d493 1 (some .byte) ∈ TB := tb_3 (List.mem_of_getElem? (i := 18) rfl) rfl
theorem ml_J0_637 : Cond.methodLink RJ0 637 yJ1_indexOf_4cfef ∈ TB := tb_3 (List.mem_of_getElem? (i := 19) rfl) rfl
theorem sm_J1_indexOf_4cfef : Cond.static yJ1_indexOf_4cfef ∈ TB := tb_3 (List.mem_of_getElem? (i := 20) rfl) rfl
theorem co_J1_indexOf_4cfef : Cond.code yJ1_indexOf_4cfef cJ1_indexOf_4cfef 4 (some .int) ∈ TB := tb_3 (List.mem_of_getElem? (i := 21) rfl) rfl
theorem ml_J1_88 : Cond.methodLink RJ1 88 yJ1_canEncode_9a6ad ∈ TB := tb_3 (List.mem_of_getElem? (i := 22) rfl) rfl
theorem sm_J1_canEncode_9a6ad : Cond.static yJ1_canEncode_9a6ad ∈ TB := tb_3 (List.mem_of_getElem? (i := 23) rfl) rfl
theorem co_J1_canEncode_9a6ad : Cond.code yJ1_canEncode_9a6ad cJ1_canEncode_9a6ad 1 (some .boolean) ∈ TB := tb_3 (List.mem_of_getElem? (i := 24) rfl) rfl
theorem ml_J1_92 : Cond.methodLink RJ1 92 yJ9_max_7cf53 ∈ TB := tb_3 (List.mem_of_getElem? (i := 25) rfl) rfl
theorem sm_J9_max_7cf53 : Cond.static yJ9_max_7cf53 ∈ TB := tb_3 (List.mem_of_getElem? (i := 26) rfl) rfl
theorem co_J9_max_7cf53 : Cond.code yJ9_max_7cf53 cJ9_max_7cf53 2 (some .int) ∈ TB := tb_3 (List.mem_of_getElem? (i := 27) rfl) rfl
theorem ml_J1_38 : Cond.methodLink RJ1 38 yJ9_min_7cf53 ∈ TB := tb_3 (List.mem_of_getElem? (i := 28) rfl) rfl
theorem ml_J1_95 : Cond.methodLink RJ1 95 yJ1_indexOfChar_4cfef ∈ TB := tb_3 (List.mem_of_getElem? (i := 29) rfl) rfl
theorem sm_J1_indexOfChar_4cfef : Cond.static yJ1_indexOfChar_4cfef ∈ TB := tb_3 (List.mem_of_getElem? (i := 30) rfl) rfl
theorem co_J1_indexOfChar_4cfef : Cond.code yJ1_indexOfChar_4cfef cJ1_indexOfChar_4cfef 6 (some .int) ∈ TB := tb_3 (List.mem_of_getElem? (i := 31) rfl) rfl
theorem ml_J0_640 : Cond.methodLink RJ0 640 yJ2_indexOf_4cfef ∈ TB := tb_3 (List.mem_of_getElem? (i := 32) rfl) rfl
theorem sm_J2_indexOf_4cfef : Cond.static yJ2_indexOf_4cfef ∈ TB := tb_3 (List.mem_of_getElem? (i := 33) rfl) rfl
theorem co_J2_indexOf_4cfef : Cond.code yJ2_indexOf_4cfef cJ2_indexOf_4cfef 4 (some .int) ∈ TB := tb_3 (List.mem_of_getElem? (i := 34) rfl) rfl
theorem ml_J2_224 : Cond.methodLink RJ2 224 yJ9_max_7cf53 ∈ TB := tb_3 (List.mem_of_getElem? (i := 35) rfl) rfl
theorem ml_J2_183 : Cond.methodLink RJ2 183 yJ9_min_7cf53 ∈ TB := tb_3 (List.mem_of_getElem? (i := 36) rfl) rfl
theorem ct_J2_227 : Cond.constant RJ2 227 (65536) ∈ TB := tb_3 (List.mem_of_getElem? (i := 37) rfl) rfl
theorem ml_J2_228 : Cond.methodLink RJ2 228 yJ2_indexOfChar_4cfef ∈ TB := tb_3 (List.mem_of_getElem? (i := 38) rfl) rfl
theorem sm_J2_indexOfChar_4cfef : Cond.static yJ2_indexOfChar_4cfef ∈ TB := tb_3 (List.mem_of_getElem? (i := 39) rfl) rfl
theorem co_J2_indexOfChar_4cfef : Cond.code yJ2_indexOfChar_4cfef cJ2_indexOfChar_4cfef 4 (some .int) ∈ TB := tb_3 (List.mem_of_getElem? (i := 40) rfl) rfl
theorem ml_J2_96 : Cond.methodLink RJ2 96 yJ2_checkBoundsBeginEnd_d044e ∈ TB := tb_3 (List.mem_of_getElem? (i := 41) rfl) rfl
theorem sm_J2_checkBoundsBeginEnd_d044e : Cond.static yJ2_checkBoundsBeginEnd_d044e ∈ TB := tb_3 (List.mem_of_getElem? (i := 42) rfl) rfl
theorem co_J2_checkBoundsBeginEnd_d044e : Cond.code yJ2_checkBoundsBeginEnd_d044e cJ2_checkBoundsBeginEnd_d044e 3 none ∈ TB := tb_3 (List.mem_of_getElem? (i := 43) rfl) rfl
theorem ml_J2_48 : Cond.methodLink RJ2 48 yJ2_length_9d52b ∈ TB := tb_3 (List.mem_of_getElem? (i := 44) rfl) rfl
theorem sm_J2_length_9d52b : Cond.static yJ2_length_9d52b ∈ TB := tb_3 (List.mem_of_getElem? (i := 45) rfl) rfl
theorem co_J2_length_9d52b : Cond.code yJ2_length_9d52b cJ2_length_9d52b 1 (some .int) ∈ TB := tb_3 (List.mem_of_getElem? (i := 46) rfl) rfl
theorem ml_J2_241 : Cond.methodLink RJ2 241 yJ0_checkBoundsBeginEnd_23922 ∈ TB := tb_3 (List.mem_of_getElem? (i := 47) rfl) rfl
theorem sm_J0_checkBoundsBeginEnd_23922 : Cond.static yJ0_checkBoundsBeginEnd_23922 ∈ TB := tb_3 (List.mem_of_getElem? (i := 48) rfl) rfl
theorem co_J0_checkBoundsBeginEnd_23922 : Cond.code yJ0_checkBoundsBeginEnd_23922 cJ0_checkBoundsBeginEnd_23922 3 none ∈ TB := tb_3 (List.mem_of_getElem? (i := 49) rfl) rfl
theorem fl_J0_1053 : Cond.fieldLink RJ0 1053 "jdk/internal/util/Preconditions" "SIOOBE_FORMATTER" "Ljava/util/function/BiFunction;" ∈ TB := tb_3 (List.mem_of_getElem? (i := 50) rfl) rfl
theorem ml_J0_1062 : Cond.methodLink RJ0 1062 yJ3_checkFromToIndex_8c36e ∈ TB := tb_3 (List.mem_of_getElem? (i := 52) rfl) rfl
theorem sm_J3_checkFromToIndex_8c36e : Cond.static yJ3_checkFromToIndex_8c36e ∈ TB := tb_3 (List.mem_of_getElem? (i := 53) rfl) rfl
theorem co_J3_checkFromToIndex_8c36e : Cond.code yJ3_checkFromToIndex_8c36e cJ3_checkFromToIndex_8c36e 4 (some .int) ∈ TB := tb_3 (List.mem_of_getElem? (i := 54) rfl) rfl
theorem ml_J2_244 : Cond.methodLink RJ2 244 yJ2_indexOfCharUnsafe_4cfef ∈ TB := tb_3 (List.mem_of_getElem? (i := 55) rfl) rfl
theorem sm_J2_indexOfCharUnsafe_4cfef : Cond.static yJ2_indexOfCharUnsafe_4cfef ∈ TB := tb_3 (List.mem_of_getElem? (i := 56) rfl) rfl
theorem co_J2_indexOfCharUnsafe_4cfef : Cond.code yJ2_indexOfCharUnsafe_4cfef cJ2_indexOfCharUnsafe_4cfef 5 (some .int) ∈ TB := tb_3 (List.mem_of_getElem? (i := 57) rfl) rfl
theorem ml_J2_71 : Cond.methodLink RJ2 71 yJ2_getChar_3b067 ∈ TB := tb_3 (List.mem_of_getElem? (i := 58) rfl) rfl
theorem sm_J2_getChar_3b067 : Cond.static yJ2_getChar_3b067 ∈ TB := tb_3 (List.mem_of_getElem? (i := 59) rfl) rfl
theorem co_J2_getChar_3b067 : Cond.code yJ2_getChar_3b067 cJ2_getChar_3b067 2 (some .char) ∈ TB := tb_3 (List.mem_of_getElem? (i := 60) rfl) rfl
theorem fl_J2_44 : Cond.fieldLink RJ2 44 "java/lang/StringUTF16" "$assertionsDisabled" "Z" ∈ TB := tb_3 (List.mem_of_getElem? (i := 61) rfl) rfl
theorem fl_J2_59 : Cond.fieldLink RJ2 59 "java/lang/StringUTF16" "HI_BYTE_SHIFT" "I" ∈ TB := tb_3 (List.mem_of_getElem? (i := 63) rfl) rfl
theorem fl_J2_63 : Cond.fieldLink RJ2 63 "java/lang/StringUTF16" "LO_BYTE_SHIFT" "I" ∈ TB := tb_3 (List.mem_of_getElem? (i := 65) rfl) rfl
theorem ml_J2_232 : Cond.methodLink RJ2 232 yJ2_indexOfSupplementary_4cfef ∈ TB := tb_3 (List.mem_of_getElem? (i := 67) rfl) rfl
theorem sm_J2_indexOfSupplementary_4cfef : Cond.static yJ2_indexOfSupplementary_4cfef ∈ TB := tb_3 (List.mem_of_getElem? (i := 68) rfl) rfl
theorem co_J2_indexOfSupplementary_4cfef : Cond.code yJ2_indexOfSupplementary_4cfef cJ2_indexOfSupplementary_4cfef 7 (some .int) ∈ TB := tb_3 (List.mem_of_getElem? (i := 69) rfl) rfl
theorem ml_J2_164 : Cond.methodLink RJ2 164 yJ11_isValidCodePoint_9a6ad ∈ TB := tb_3 (List.mem_of_getElem? (i := 70) rfl) rfl
theorem sm_J11_isValidCodePoint_9a6ad : Cond.static yJ11_isValidCodePoint_9a6ad ∈ TB := tb_3 (List.mem_of_getElem? (i := 71) rfl) rfl
theorem co_J11_isValidCodePoint_9a6ad : Cond.code yJ11_isValidCodePoint_9a6ad cJ11_isValidCodePoint_9a6ad 2 (some .boolean) ∈ TB := tb_3 (List.mem_of_getElem? (i := 72) rfl) rfl
theorem ml_J2_157 : Cond.methodLink RJ2 157 yJ11_highSurrogate_5068e ∈ TB := tb_3 (List.mem_of_getElem? (i := 73) rfl) rfl
theorem sm_J11_highSurrogate_5068e : Cond.static yJ11_highSurrogate_5068e ∈ TB := tb_3 (List.mem_of_getElem? (i := 74) rfl) rfl
theorem co_J11_highSurrogate_5068e : Cond.code yJ11_highSurrogate_5068e cJ11_highSurrogate_5068e 1 (some .char) ∈ TB := tb_3 (List.mem_of_getElem? (i := 75) rfl) rfl
theorem ct_J11_110 : Cond.constant RJ11 110 (55232) ∈ TB := tb_3 (List.mem_of_getElem? (i := 76) rfl) rfl
theorem ml_J2_161 : Cond.methodLink RJ2 161 yJ11_lowSurrogate_5068e ∈ TB := tb_3 (List.mem_of_getElem? (i := 77) rfl) rfl
theorem sm_J11_lowSurrogate_5068e : Cond.static yJ11_lowSurrogate_5068e ∈ TB := tb_3 (List.mem_of_getElem? (i := 78) rfl) rfl
theorem co_J11_lowSurrogate_5068e : Cond.code yJ11_lowSurrogate_5068e cJ11_lowSurrogate_5068e 1 (some .char) ∈ TB := tb_3 (List.mem_of_getElem? (i := 79) rfl) rfl
theorem ct_J11_76 : Cond.constant RJ11 76 (56320) ∈ TB := tb_3 (List.mem_of_getElem? (i := 80) rfl) rfl
theorem ml_X6_60 : Cond.methodLink RX6 60 yX6_readPart ∈ TB := tb_3 (List.mem_of_getElem? (i := 81) rfl) rfl
theorem im_X6_readPart : Cond.instanceMethod yX6_readPart ∈ TB := tb_3 (List.mem_of_getElem? (i := 83) rfl) rfl
theorem co_X6_readPart : Cond.code yX6_readPart cX6_readPart 1 (some .boolean) ∈ TB := tb_3 (List.mem_of_getElem? (i := 84) rfl) rfl
theorem ml_X6_66 : Cond.methodLink RX6 66 yX4_isWord ∈ TB := tb_3 (List.mem_of_getElem? (i := 86) rfl) rfl
theorem im_X4_isWord : Cond.instanceMethod yX4_isWord ∈ TB := tb_3 (List.mem_of_getElem? (i := 87) rfl) rfl
theorem se_X4_X4_isWord : Cond.selects RX4 yX4_isWord yX4_isWord ∈ TB := tb_3 (List.mem_of_getElem? (i := 88) rfl) rfl
theorem co_X4_isWord : Cond.code yX4_isWord cX4_isWord 3 (some .boolean) ∈ TB := tb_3 (List.mem_of_getElem? (i := 89) rfl) rfl
theorem ml_X4_57 : Cond.methodLink RX4 57 yJ0_length_8abf5 ∈ TB := tb_3 (List.mem_of_getElem? (i := 90) rfl) rfl
theorem ml_X4_60 : Cond.methodLink RX4 60 yJ0_charAt_5068e ∈ TB := tb_3 (List.mem_of_getElem? (i := 91) rfl) rfl
theorem im_J0_charAt_5068e : Cond.instanceMethod yJ0_charAt_5068e ∈ TB := tb_3 (List.mem_of_getElem? (i := 92) rfl) rfl
theorem se_J0_J0_charAt_5068e : Cond.selects RJ0 yJ0_charAt_5068e yJ0_charAt_5068e ∈ TB := tb_3 (List.mem_of_getElem? (i := 93) rfl) rfl
theorem co_J0_charAt_5068e : Cond.code yJ0_charAt_5068e cJ0_charAt_5068e 2 (some .char) ∈ TB := tb_3 (List.mem_of_getElem? (i := 94) rfl) rfl
theorem ml_J0_495 : Cond.methodLink RJ0 495 yJ1_charAt_3b067 ∈ TB := tb_3 (List.mem_of_getElem? (i := 95) rfl) rfl
theorem sm_J1_charAt_3b067 : Cond.static yJ1_charAt_3b067 ∈ TB := tb_3 (List.mem_of_getElem? (i := 96) rfl) rfl
theorem co_J1_charAt_3b067 : Cond.code yJ1_charAt_3b067 cJ1_charAt_3b067 2 (some .char) ∈ TB := tb_3 (List.mem_of_getElem? (i := 97) rfl) rfl
theorem ml_J1_9 : Cond.methodLink RJ1 9 yJ0_checkIndex_df160 ∈ TB := tb_3 (List.mem_of_getElem? (i := 98) rfl) rfl
theorem sm_J0_checkIndex_df160 : Cond.static yJ0_checkIndex_df160 ∈ TB := tb_3 (List.mem_of_getElem? (i := 99) rfl) rfl
theorem co_J0_checkIndex_df160 : Cond.code yJ0_checkIndex_df160 cJ0_checkIndex_df160 2 none ∈ TB := tb_3 (List.mem_of_getElem? (i := 100) rfl) rfl
theorem ml_J0_1059 : Cond.methodLink RJ0 1059 yJ3_checkIndex_8e157 ∈ TB := tb_3 (List.mem_of_getElem? (i := 101) rfl) rfl
theorem sm_J3_checkIndex_8e157 : Cond.static yJ3_checkIndex_8e157 ∈ TB := tb_3 (List.mem_of_getElem? (i := 102) rfl) rfl
theorem co_J3_checkIndex_8e157 : Cond.code yJ3_checkIndex_8e157 cJ3_checkIndex_8e157 3 (some .int) ∈ TB := tb_3 (List.mem_of_getElem? (i := 103) rfl) rfl
theorem ml_J0_498 : Cond.methodLink RJ0 498 yJ2_charAt_3b067 ∈ TB := tb_3 (List.mem_of_getElem? (i := 104) rfl) rfl
theorem sm_J2_charAt_3b067 : Cond.static yJ2_charAt_3b067 ∈ TB := tb_3 (List.mem_of_getElem? (i := 105) rfl) rfl
theorem co_J2_charAt_3b067 : Cond.code yJ2_charAt_3b067 cJ2_charAt_3b067 2 (some .char) ∈ TB := tb_3 (List.mem_of_getElem? (i := 106) rfl) rfl
theorem ml_J2_67 : Cond.methodLink RJ2 67 yJ2_checkIndex_2214a ∈ TB := tb_3 (List.mem_of_getElem? (i := 107) rfl) rfl
theorem sm_J2_checkIndex_2214a : Cond.static yJ2_checkIndex_2214a ∈ TB := tb_3 (List.mem_of_getElem? (i := 108) rfl) rfl
theorem co_J2_checkIndex_2214a : Cond.code yJ2_checkIndex_2214a cJ2_checkIndex_2214a 2 none ∈ TB := tb_3 (List.mem_of_getElem? (i := 109) rfl) rfl
theorem ml_J2_414 : Cond.methodLink RJ2 414 yJ0_checkIndex_df160 ∈ TB := tb_3 (List.mem_of_getElem? (i := 110) rfl) rfl
theorem ml_X6_70 : Cond.methodLink RX6 70 yX4_refuseToken ∈ TB := tb_3 (List.mem_of_getElem? (i := 111) rfl) rfl
theorem im_X4_refuseToken : Cond.instanceMethod yX4_refuseToken ∈ TB := tb_3 (List.mem_of_getElem? (i := 112) rfl) rfl
theorem se_X4_X4_refuseToken : Cond.selects RX4 yX4_refuseToken yX4_refuseToken ∈ TB := tb_3 (List.mem_of_getElem? (i := 113) rfl) rfl
theorem co_X4_refuseToken : Cond.code yX4_refuseToken cX4_refuseToken 2 (some .boolean) ∈ TB := tb_3 (List.mem_of_getElem? (i := 114) rfl) rfl
theorem ml_X6_74 : Cond.methodLink RX6 74 yX6_readWater ∈ TB := tb_3 (List.mem_of_getElem? (i := 115) rfl) rfl
theorem im_X6_readWater : Cond.instanceMethod yX6_readWater ∈ TB := tb_3 (List.mem_of_getElem? (i := 117) rfl) rfl
theorem co_X6_readWater : Cond.code yX6_readWater cX6_readWater 1 (some .boolean) ∈ TB := tb_3 (List.mem_of_getElem? (i := 118) rfl) rfl
theorem ml_X6_98 : Cond.methodLink RX6 98 yX4_next ∈ TB := tb_3 (List.mem_of_getElem? (i := 119) rfl) rfl
theorem ml_X6_101 : Cond.methodLink RX6 101 yX4_takeNumber ∈ TB := tb_3 (List.mem_of_getElem? (i := 120) rfl) rfl
theorem im_X4_takeNumber : Cond.instanceMethod yX4_takeNumber ∈ TB := tb_3 (List.mem_of_getElem? (i := 121) rfl) rfl
theorem se_X4_X4_takeNumber : Cond.selects RX4 yX4_takeNumber yX4_takeNumber ∈ TB := tb_3 (List.mem_of_getElem? (i := 122) rfl) rfl
theorem co_X4_takeNumber : Cond.code yX4_takeNumber cX4_takeNumber 3 (some .boolean) ∈ TB := tb_3 (List.mem_of_getElem? (i := 123) rfl) rfl
theorem ml_X4_68 : Cond.methodLink RX4 68 yX4_refuseToken ∈ TB := tb_3 (List.mem_of_getElem? (i := 124) rfl) rfl
theorem ml_X6_112 : Cond.methodLink RX6 112 yX4_takeWord ∈ TB := tb_3 (List.mem_of_getElem? (i := 126) rfl) rfl
theorem im_X4_takeWord : Cond.instanceMethod yX4_takeWord ∈ TB := tb_3 (List.mem_of_getElem? (i := 127) rfl) rfl
theorem se_X4_X4_takeWord : Cond.selects RX4 yX4_takeWord yX4_takeWord ∈ TB := tb_3 (List.mem_of_getElem? (i := 128) rfl) rfl
theorem co_X4_takeWord : Cond.code yX4_takeWord cX4_takeWord 2 (some .boolean) ∈ TB := tb_3 (List.mem_of_getElem? (i := 129) rfl) rfl
theorem ml_X4_64 : Cond.methodLink RX4 64 yX4_isWord ∈ TB := tb_3 (List.mem_of_getElem? (i := 130) rfl) rfl
theorem ml_X6_124 : Cond.methodLink RX6 124 yX6_readRain ∈ TB := tb_3 (List.mem_of_getElem? (i := 133) rfl) rfl
theorem im_X6_readRain : Cond.instanceMethod yX6_readRain ∈ TB := tb_3 (List.mem_of_getElem? (i := 135) rfl) rfl
theorem co_X6_readRain : Cond.code yX6_readRain cX6_readRain 1 (some .boolean) ∈ TB := tb_3 (List.mem_of_getElem? (i := 136) rfl) rfl
theorem ml_X6_127 : Cond.methodLink RX6 127 yX4_takeSign ∈ TB := tb_3 (List.mem_of_getElem? (i := 138) rfl) rfl
theorem im_X4_takeSign : Cond.instanceMethod yX4_takeSign ∈ TB := tb_3 (List.mem_of_getElem? (i := 139) rfl) rfl
theorem se_X4_X4_takeSign : Cond.selects RX4 yX4_takeSign yX4_takeSign ∈ TB := tb_3 (List.mem_of_getElem? (i := 140) rfl) rfl
theorem co_X4_takeSign : Cond.code yX4_takeSign cX4_takeSign 2 (some .boolean) ∈ TB := tb_3 (List.mem_of_getElem? (i := 141) rfl) rfl
theorem ml_X4_72 : Cond.methodLink RX4 72 yX4_isSign ∈ TB := tb_3 (List.mem_of_getElem? (i := 142) rfl) rfl
theorem im_X4_isSign : Cond.instanceMethod yX4_isSign ∈ TB := tb_3 (List.mem_of_getElem? (i := 143) rfl) rfl
theorem se_X4_X4_isSign : Cond.selects RX4 yX4_isSign yX4_isSign ∈ TB := tb_3 (List.mem_of_getElem? (i := 144) rfl) rfl
theorem co_X4_isSign : Cond.code yX4_isSign cX4_isSign 2 (some .boolean) ∈ TB := tb_3 (List.mem_of_getElem? (i := 145) rfl) rfl
theorem ml_X6_82 : Cond.methodLink RX6 82 yX6_readPerson ∈ TB := tb_3 (List.mem_of_getElem? (i := 147) rfl) rfl
theorem im_X6_readPerson : Cond.instanceMethod yX6_readPerson ∈ TB := tb_3 (List.mem_of_getElem? (i := 149) rfl) rfl
theorem co_X6_readPerson : Cond.code yX6_readPerson cX6_readPerson 2 (some .boolean) ∈ TB := tb_3 (List.mem_of_getElem? (i := 150) rfl) rfl
theorem ml_X6_138 : Cond.methodLink RX6 138 yX6_takeNewName ∈ TB := tb_3 (List.mem_of_getElem? (i := 151) rfl) rfl
theorem im_X6_takeNewName : Cond.instanceMethod yX6_takeNewName ∈ TB := tb_3 (List.mem_of_getElem? (i := 153) rfl) rfl
theorem co_X6_takeNewName : Cond.code yX6_takeNewName cX6_takeNewName 1 (some .boolean) ∈ TB := tb_3 (List.mem_of_getElem? (i := 154) rfl) rfl
theorem ml_X6_224 : Cond.methodLink RX6 224 yX6_isName ∈ TB := tb_3 (List.mem_of_getElem? (i := 155) rfl) rfl
theorem im_X6_isName : Cond.instanceMethod yX6_isName ∈ TB := tb_3 (List.mem_of_getElem? (i := 157) rfl) rfl
theorem co_X6_isName : Cond.code yX6_isName cX6_isName 1 (some .boolean) ∈ TB := tb_3 (List.mem_of_getElem? (i := 158) rfl) rfl
theorem ml_X6_202 : Cond.methodLink RX6 202 yX6_isReserved ∈ TB := tb_3 (List.mem_of_getElem? (i := 159) rfl) rfl
theorem im_X6_isReserved : Cond.instanceMethod yX6_isReserved ∈ TB := tb_3 (List.mem_of_getElem? (i := 161) rfl) rfl
theorem co_X6_isReserved : Cond.code yX6_isReserved cX6_isReserved 3 (some .boolean) ∈ TB := tb_3 (List.mem_of_getElem? (i := 162) rfl) rfl
theorem ml_X6_207 : Cond.methodLink RX6 207 yJ0_length_8abf5 ∈ TB := tb_3 (List.mem_of_getElem? (i := 164) rfl) rfl
theorem ml_X6_213 : Cond.methodLink RX6 213 yJ0_charAt_5068e ∈ TB := tb_3 (List.mem_of_getElem? (i := 165) rfl) rfl
theorem ml_X6_217 : Cond.methodLink RX6 217 yX6_isReservedAt ∈ TB := tb_3 (List.mem_of_getElem? (i := 166) rfl) rfl
theorem im_X6_isReservedAt : Cond.instanceMethod yX6_isReservedAt ∈ TB := tb_3 (List.mem_of_getElem? (i := 168) rfl) rfl
theorem co_X6_isReservedAt : Cond.code yX6_isReservedAt cX6_isReservedAt 5 (some .boolean) ∈ TB := tb_3 (List.mem_of_getElem? (i := 169) rfl) rfl
theorem ml_X6_227 : Cond.methodLink RX6 227 yX6_findName ∈ TB := tb_3 (List.mem_of_getElem? (i := 170) rfl) rfl
theorem im_X6_findName : Cond.instanceMethod yX6_findName ∈ TB := tb_3 (List.mem_of_getElem? (i := 172) rfl) rfl
theorem co_X6_findName : Cond.code yX6_findName cX6_findName 4 (some .int) ∈ TB := tb_3 (List.mem_of_getElem? (i := 173) rfl) rfl
theorem ml_X6_149 : Cond.methodLink RX6 149 yX6_takePerson ∈ TB := tb_3 (List.mem_of_getElem? (i := 175) rfl) rfl
theorem im_X6_takePerson : Cond.instanceMethod yX6_takePerson ∈ TB := tb_3 (List.mem_of_getElem? (i := 177) rfl) rfl
theorem co_X6_takePerson : Cond.code yX6_takePerson cX6_takePerson 2 (some .boolean) ∈ TB := tb_3 (List.mem_of_getElem? (i := 178) rfl) rfl
theorem ml_X6_153 : Cond.methodLink RX6 153 yX6_keepName ∈ TB := tb_3 (List.mem_of_getElem? (i := 180) rfl) rfl
theorem im_X6_keepName : Cond.instanceMethod yX6_keepName ∈ TB := tb_3 (List.mem_of_getElem? (i := 182) rfl) rfl
theorem co_X6_keepName : Cond.code yX6_keepName cX6_keepName 2 none ∈ TB := tb_3 (List.mem_of_getElem? (i := 183) rfl) rfl
theorem ml_X6_87 : Cond.methodLink RX6 87 yX6_readRope ∈ TB := tb_3 (List.mem_of_getElem? (i := 185) rfl) rfl
theorem im_X6_readRope : Cond.instanceMethod yX6_readRope ∈ TB := tb_3 (List.mem_of_getElem? (i := 187) rfl) rfl
theorem co_X6_readRope : Cond.code yX6_readRope cX6_readRope 2 (some .boolean) ∈ TB := tb_3 (List.mem_of_getElem? (i := 188) rfl) rfl
theorem ml_X6_165 : Cond.methodLink RX6 165 yX6_readPieces ∈ TB := tb_3 (List.mem_of_getElem? (i := 189) rfl) rfl
theorem im_X6_readPieces : Cond.instanceMethod yX6_readPieces ∈ TB := tb_3 (List.mem_of_getElem? (i := 191) rfl) rfl
theorem co_X6_readPieces : Cond.code yX6_readPieces cX6_readPieces 5 (some .boolean) ∈ TB := tb_3 (List.mem_of_getElem? (i := 192) rfl) rfl
theorem ml_X6_181 : Cond.methodLink RX6 181 yX3_add ∈ TB := tb_3 (List.mem_of_getElem? (i := 195) rfl) rfl
theorem im_X3_add : Cond.instanceMethod yX3_add ∈ TB := tb_3 (List.mem_of_getElem? (i := 196) rfl) rfl
theorem se_X3_X3_add : Cond.selects RX3 yX3_add yX3_add ∈ TB := tb_3 (List.mem_of_getElem? (i := 197) rfl) rfl
theorem co_X3_add : Cond.code yX3_add cX3_add 3 none ∈ TB := tb_3 (List.mem_of_getElem? (i := 198) rfl) rfl
theorem ml_X6_95 : Cond.methodLink RX6 95 yX6_readFlood ∈ TB := tb_3 (List.mem_of_getElem? (i := 202) rfl) rfl
theorem im_X6_readFlood : Cond.instanceMethod yX6_readFlood ∈ TB := tb_3 (List.mem_of_getElem? (i := 204) rfl) rfl
theorem co_X6_readFlood : Cond.code yX6_readFlood cX6_readFlood 2 (some .boolean) ∈ TB := tb_3 (List.mem_of_getElem? (i := 205) rfl) rfl
theorem ml_X8_156 : Cond.methodLink RX8 156 yX8_noteFault ∈ TB := tb_3 (List.mem_of_getElem? (i := 207) rfl) rfl
theorem im_X8_noteFault : Cond.instanceMethod yX8_noteFault ∈ TB := tb_3 (List.mem_of_getElem? (i := 209) rfl) rfl
theorem co_X8_noteFault : Cond.code yX8_noteFault cX8_noteFault 2 none ∈ TB := tb_3 (List.mem_of_getElem? (i := 210) rfl) rfl
theorem ml_X8_159 : Cond.methodLink RX8 159 yX7_copyFrom ∈ TB := tb_3 (List.mem_of_getElem? (i := 211) rfl) rfl
theorem im_X7_copyFrom : Cond.instanceMethod yX7_copyFrom ∈ TB := tb_3 (List.mem_of_getElem? (i := 212) rfl) rfl
theorem se_X7_X7_copyFrom : Cond.selects RX7 yX7_copyFrom yX7_copyFrom ∈ TB := tb_3 (List.mem_of_getElem? (i := 213) rfl) rfl
theorem co_X7_copyFrom : Cond.code yX7_copyFrom cX7_copyFrom 3 none ∈ TB := tb_3 (List.mem_of_getElem? (i := 214) rfl) rfl
theorem ml_X7_72 : Cond.methodLink RX7 72 ⟨"java/lang/System", "arraycopy", "(Ljava/lang/Object;ILjava/lang/Object;II)V"⟩ ∈ TB := tb_3 (List.mem_of_getElem? (i := 215) rfl) rfl
theorem ml_X7_78 : Cond.methodLink RX7 78 yX3_copyFrom ∈ TB := tb_3 (List.mem_of_getElem? (i := 216) rfl) rfl
theorem im_X3_copyFrom : Cond.instanceMethod yX3_copyFrom ∈ TB := tb_3 (List.mem_of_getElem? (i := 217) rfl) rfl
theorem se_X3_X3_copyFrom : Cond.selects RX3 yX3_copyFrom yX3_copyFrom ∈ TB := tb_3 (List.mem_of_getElem? (i := 218) rfl) rfl
theorem co_X3_copyFrom : Cond.code yX3_copyFrom cX3_copyFrom 2 none ∈ TB := tb_3 (List.mem_of_getElem? (i := 219) rfl) rfl
theorem ml_X3_38 : Cond.methodLink RX3 38 ⟨"java/lang/System", "arraycopy", "(Ljava/lang/Object;ILjava/lang/Object;II)V"⟩ ∈ TB := tb_3 (List.mem_of_getElem? (i := 220) rfl) rfl
theorem ml_X8_166 : Cond.methodLink RX8 166 yX8_tell ∈ TB := tb_3 (List.mem_of_getElem? (i := 221) rfl) rfl
theorem im_X8_tell : Cond.instanceMethod yX8_tell ∈ TB := tb_3 (List.mem_of_getElem? (i := 223) rfl) rfl
theorem co_X8_tell : Cond.code yX8_tell cX8_tell 2 (some .int) ∈ TB := tb_3 (List.mem_of_getElem? (i := 224) rfl) rfl
theorem ml_L_59 : Cond.methodLink RL 59 yX8_law ∈ TB := tb_3 (List.mem_of_getElem? (i := 225) rfl) rfl
theorem im_X8_law : Cond.instanceMethod yX8_law ∈ TB := tb_3 (List.mem_of_getElem? (i := 226) rfl) rfl
theorem se_X8_X8_law : Cond.selects RX8 yX8_law yX8_law ∈ TB := tb_3 (List.mem_of_getElem? (i := 227) rfl) rfl
theorem co_X8_law : Cond.code yX8_law cX8_law 3 (some .int) ∈ TB := tb_3 (List.mem_of_getElem? (i := 228) rfl) rfl
theorem ml_X8_169 : Cond.methodLink RX8 169 yX1_readLaw ∈ TB := tb_3 (List.mem_of_getElem? (i := 229) rfl) rfl
theorem im_X1_readLaw : Cond.instanceMethod yX1_readLaw ∈ TB := tb_3 (List.mem_of_getElem? (i := 230) rfl) rfl
theorem se_X1_X1_readLaw : Cond.selects RX1 yX1_readLaw yX1_readLaw ∈ TB := tb_3 (List.mem_of_getElem? (i := 231) rfl) rfl
theorem co_X1_readLaw : Cond.code yX1_readLaw cX1_readLaw 4 (some .boolean) ∈ TB := tb_3 (List.mem_of_getElem? (i := 232) rfl) rfl
theorem ml_X1_29 : Cond.methodLink RX1 29 yX4_open ∈ TB := tb_3 (List.mem_of_getElem? (i := 233) rfl) rfl
theorem ml_X1_38 : Cond.methodLink RX1 38 yX1_readRule ∈ TB := tb_3 (List.mem_of_getElem? (i := 234) rfl) rfl
theorem im_X1_readRule : Cond.instanceMethod yX1_readRule ∈ TB := tb_3 (List.mem_of_getElem? (i := 236) rfl) rfl
theorem co_X1_readRule : Cond.code yX1_readRule cX1_readRule 2 (some .boolean) ∈ TB := tb_3 (List.mem_of_getElem? (i := 237) rfl) rfl
theorem ml_X1_55 : Cond.methodLink RX1 55 yX4_isWord ∈ TB := tb_3 (List.mem_of_getElem? (i := 239) rfl) rfl
theorem ml_X1_59 : Cond.methodLink RX1 59 yX4_refuseToken ∈ TB := tb_4 (List.mem_of_getElem? (i := 0) rfl) rfl
theorem ml_X1_63 : Cond.methodLink RX1 63 yX4_takeWord ∈ TB := tb_4 (List.mem_of_getElem? (i := 1) rfl) rfl
theorem ml_X1_66 : Cond.methodLink RX1 66 yX1_readEither ∈ TB := tb_4 (List.mem_of_getElem? (i := 2) rfl) rfl
theorem im_X1_readEither : Cond.instanceMethod yX1_readEither ∈ TB := tb_4 (List.mem_of_getElem? (i := 4) rfl) rfl
theorem co_X1_readEither : Cond.code yX1_readEither cX1_readEither 5 (some .boolean) ∈ TB := tb_4 (List.mem_of_getElem? (i := 5) rfl) rfl
theorem ml_X1_89 : Cond.methodLink RX1 89 yX1_readOne ∈ TB := tb_4 (List.mem_of_getElem? (i := 6) rfl) rfl
theorem im_X1_readOne : Cond.instanceMethod yX1_readOne ∈ TB := tb_4 (List.mem_of_getElem? (i := 8) rfl) rfl
theorem co_X1_readOne : Cond.code yX1_readOne cX1_readOne 5 (some .boolean) ∈ TB := tb_4 (List.mem_of_getElem? (i := 9) rfl) rfl
theorem ml_X1_96 : Cond.methodLink RX1 96 yX1_factHere ∈ TB := tb_4 (List.mem_of_getElem? (i := 10) rfl) rfl
theorem im_X1_factHere : Cond.instanceMethod yX1_factHere ∈ TB := tb_4 (List.mem_of_getElem? (i := 12) rfl) rfl
theorem co_X1_factHere : Cond.code yX1_factHere cX1_factHere 1 (some .int) ∈ TB := tb_4 (List.mem_of_getElem? (i := 13) rfl) rfl
theorem ml_X1_101 : Cond.methodLink RX1 101 yX4_isSign ∈ TB := tb_4 (List.mem_of_getElem? (i := 23) rfl) rfl
theorem ml_X1_82 : Cond.methodLink RX1 82 yX4_next ∈ TB := tb_4 (List.mem_of_getElem? (i := 24) rfl) rfl
theorem ml_X1_104 : Cond.methodLink RX1 104 yX1_readCase ∈ TB := tb_4 (List.mem_of_getElem? (i := 25) rfl) rfl
theorem im_X1_readCase : Cond.instanceMethod yX1_readCase ∈ TB := tb_4 (List.mem_of_getElem? (i := 27) rfl) rfl
theorem co_X1_readCase : Cond.code yX1_readCase cX1_readCase 3 (some .boolean) ∈ TB := tb_4 (List.mem_of_getElem? (i := 28) rfl) rfl
theorem ml_X1_75 : Cond.methodLink RX1 75 yX0_step ∈ TB := tb_4 (List.mem_of_getElem? (i := 29) rfl) rfl
theorem sm_X0_step : Cond.static yX0_step ∈ TB := tb_4 (List.mem_of_getElem? (i := 30) rfl) rfl
theorem co_X0_step : Cond.code yX0_step cX0_step 4 (some .int) ∈ TB := tb_4 (List.mem_of_getElem? (i := 31) rfl) rfl
theorem ml_X1_79 : Cond.methodLink RX1 79 yX1_keepStep ∈ TB := tb_4 (List.mem_of_getElem? (i := 32) rfl) rfl
theorem im_X1_keepStep : Cond.instanceMethod yX1_keepStep ∈ TB := tb_4 (List.mem_of_getElem? (i := 34) rfl) rfl
theorem co_X1_keepStep : Cond.code yX1_keepStep cX1_keepStep 2 none ∈ TB := tb_4 (List.mem_of_getElem? (i := 35) rfl) rfl
theorem ml_X1_110 : Cond.methodLink RX1 110 yX4_takeNumber ∈ TB := tb_4 (List.mem_of_getElem? (i := 36) rfl) rfl
theorem ml_X1_85 : Cond.methodLink RX1 85 yX4_takeSign ∈ TB := tb_4 (List.mem_of_getElem? (i := 37) rfl) rfl
theorem ml_X1_71 : Cond.methodLink RX1 71 yX1_whomHere ∈ TB := tb_4 (List.mem_of_getElem? (i := 41) rfl) rfl
theorem im_X1_whomHere : Cond.instanceMethod yX1_whomHere ∈ TB := tb_4 (List.mem_of_getElem? (i := 43) rfl) rfl
theorem co_X1_whomHere : Cond.code yX1_whomHere cX1_whomHere 1 (some .int) ∈ TB := tb_4 (List.mem_of_getElem? (i := 44) rfl) rfl
theorem ml_X8_173 : Cond.methodLink RX8 173 yX1_made ∈ TB := tb_4 (List.mem_of_getElem? (i := 50) rfl) rfl
theorem im_X1_made : Cond.instanceMethod yX1_made ∈ TB := tb_4 (List.mem_of_getElem? (i := 51) rfl) rfl
theorem se_X1_X1_made : Cond.selects RX1 yX1_made yX1_made ∈ TB := tb_4 (List.mem_of_getElem? (i := 52) rfl) rfl
theorem co_X1_made : Cond.code yX1_made cX1_made 1 (some (.object "WellHeirs$Law")) ∈ TB := tb_4 (List.mem_of_getElem? (i := 53) rfl) rfl
theorem cl_X1_42 : Cond.classLink RX1 42 RX0 ∈ TB := tb_4 (List.mem_of_getElem? (i := 54) rfl) rfl
theorem it_X0 : Cond.instantiable RX0 2 ∈ TB := tb_4 (List.mem_of_getElem? (i := 55) rfl) rfl
theorem ml_X1_44 : Cond.methodLink RX1 44 yJ7_copyOf_59c91 ∈ TB := tb_4 (List.mem_of_getElem? (i := 56) rfl) rfl
theorem sm_J7_copyOf_59c91 : Cond.static yJ7_copyOf_59c91 ∈ TB := tb_4 (List.mem_of_getElem? (i := 57) rfl) rfl
theorem co_J7_copyOf_59c91 : Cond.code yJ7_copyOf_59c91 cJ7_copyOf_59c91 3 (some (.array .int)) ∈ TB := tb_4 (List.mem_of_getElem? (i := 58) rfl) rfl
theorem ml_J7_316 : Cond.methodLink RJ7 316 ⟨"[I", "clone", "()Ljava/lang/Object;"⟩ ∈ TB := tb_4 (List.mem_of_getElem? (i := 59) rfl) rfl
theorem na_java_lang_Object_clone___Ljava_lang_Object_ : Cond.native ⟨"java/lang/Object", "clone", "()Ljava/lang/Object;"⟩ ∈ TB := tb_4 (List.mem_of_getElem? (i := 61) rfl) rfl
theorem im_java_lang_Object_clone___Ljava_lang_Object_ : Cond.instanceMethod ⟨"java/lang/Object", "clone", "()Ljava/lang/Object;"⟩ ∈ TB := tb_4 (List.mem_of_getElem? (i := 62) rfl) rfl
theorem se__I__I_clone___Ljava_lang_Object_ : Cond.selects "[I" ⟨"[I", "clone", "()Ljava/lang/Object;"⟩ ⟨"java/lang/Object", "clone", "()Ljava/lang/Object;"⟩ ∈ TB := tb_4 (List.mem_of_getElem? (i := 63) rfl) rfl
theorem cl_J7_317 : Cond.classLink RJ7 317 "[I" ∈ TB := tb_4 (List.mem_of_getElem? (i := 65) rfl) rfl
theorem ml_J7_304 : Cond.methodLink RJ7 304 yJ9_min_7cf53 ∈ TB := tb_4 (List.mem_of_getElem? (i := 66) rfl) rfl
theorem ml_J7_150 : Cond.methodLink RJ7 150 ⟨"java/lang/System", "arraycopy", "(Ljava/lang/Object;ILjava/lang/Object;II)V"⟩ ∈ TB := tb_4 (List.mem_of_getElem? (i := 67) rfl) rfl
theorem ml_X1_50 : Cond.methodLink RX1 50 yX0_init ∈ TB := tb_4 (List.mem_of_getElem? (i := 68) rfl) rfl
theorem im_X0_init : Cond.instanceMethod yX0_init ∈ TB := tb_4 (List.mem_of_getElem? (i := 69) rfl) rfl
theorem co_X0_init : Cond.code yX0_init cX0_init 3 none ∈ TB := tb_4 (List.mem_of_getElem? (i := 70) rfl) rfl
theorem ml_X0_3 : Cond.methodLink RX0 3 ⟨"java/lang/Object", "<init>", "()V"⟩ ∈ TB := tb_4 (List.mem_of_getElem? (i := 71) rfl) rfl
theorem fl_X0_9 : Cond.fieldLink RX0 9 "WellHeirs$Law" "steps" "[I" ∈ TB := tb_4 (List.mem_of_getElem? (i := 72) rfl) rfl
theorem fl_X0_15 : Cond.fieldLink RX0 15 "WellHeirs$Law" "rules" "I" ∈ TB := tb_4 (List.mem_of_getElem? (i := 73) rfl) rfl
theorem fl_X8_192 : Cond.fieldLink RX8 192 "WellHeirs$Law" "rules" "I" ∈ TB := tb_4 (List.mem_of_getElem? (i := 74) rfl) rfl
theorem ly_X0_steps : Cond.laysFinal RX0 "WellHeirs$Law" "steps" "[I" ∈ TB := tb_4 (List.mem_of_getElem? (i := 75) rfl) rfl
theorem ly_X0_rules : Cond.laysFinal RX0 "WellHeirs$Law" "rules" "I" ∈ TB := tb_4 (List.mem_of_getElem? (i := 77) rfl) rfl
theorem ml_L_63 : Cond.methodLink RL 63 yX8_fault ∈ TB := tb_4 (List.mem_of_getElem? (i := 80) rfl) rfl
theorem im_X8_fault : Cond.instanceMethod yX8_fault ∈ TB := tb_4 (List.mem_of_getElem? (i := 81) rfl) rfl
theorem se_X8_X8_fault : Cond.selects RX8 yX8_fault yX8_fault ∈ TB := tb_4 (List.mem_of_getElem? (i := 82) rfl) rfl
theorem co_X8_fault : Cond.code yX8_fault cX8_fault 2 (some .int) ∈ TB := tb_4 (List.mem_of_getElem? (i := 83) rfl) rfl
theorem ml_L_67 : Cond.methodLink RL 67 yX8_many ∈ TB := tb_4 (List.mem_of_getElem? (i := 84) rfl) rfl
theorem im_X8_many : Cond.instanceMethod yX8_many ∈ TB := tb_4 (List.mem_of_getElem? (i := 85) rfl) rfl
theorem se_X8_X8_many : Cond.selects RX8 yX8_many yX8_many ∈ TB := tb_4 (List.mem_of_getElem? (i := 86) rfl) rfl
theorem co_X8_many : Cond.code yX8_many cX8_many 2 (some .int) ∈ TB := tb_4 (List.mem_of_getElem? (i := 87) rfl) rfl
theorem ml_X8_188 : Cond.methodLink RX8 188 yX7_countRopes ∈ TB := tb_4 (List.mem_of_getElem? (i := 88) rfl) rfl
theorem im_X7_countRopes : Cond.instanceMethod yX7_countRopes ∈ TB := tb_4 (List.mem_of_getElem? (i := 89) rfl) rfl
theorem se_X7_X7_countRopes : Cond.selects RX7 yX7_countRopes yX7_countRopes ∈ TB := tb_4 (List.mem_of_getElem? (i := 90) rfl) rfl
theorem co_X7_countRopes : Cond.code yX7_countRopes cX7_countRopes 3 (some .int) ∈ TB := tb_4 (List.mem_of_getElem? (i := 91) rfl) rfl
theorem ml_X7_86 : Cond.methodLink RX7 86 yX3_isThere ∈ TB := tb_4 (List.mem_of_getElem? (i := 92) rfl) rfl
theorem im_X3_isThere : Cond.instanceMethod yX3_isThere ∈ TB := tb_4 (List.mem_of_getElem? (i := 93) rfl) rfl
theorem se_X3_X3_isThere : Cond.selects RX3 yX3_isThere yX3_isThere ∈ TB := tb_4 (List.mem_of_getElem? (i := 94) rfl) rfl
theorem co_X3_isThere : Cond.code yX3_isThere cX3_isThere 1 (some .boolean) ∈ TB := tb_4 (List.mem_of_getElem? (i := 95) rfl) rfl
theorem ml_X8_198 : Cond.methodLink RX8 198 yX7_depthNow ∈ TB := tb_4 (List.mem_of_getElem? (i := 96) rfl) rfl
theorem im_X7_depthNow : Cond.instanceMethod yX7_depthNow ∈ TB := tb_4 (List.mem_of_getElem? (i := 97) rfl) rfl
theorem se_X7_X7_depthNow : Cond.selects RX7 yX7_depthNow yX7_depthNow ∈ TB := tb_4 (List.mem_of_getElem? (i := 98) rfl) rfl
theorem co_X7_depthNow : Cond.code yX7_depthNow cX7_depthNow 3 (some .int) ∈ TB := tb_4 (List.mem_of_getElem? (i := 99) rfl) rfl
theorem ml_X7_109 : Cond.methodLink RX7 109 yJ9_max_7cf53 ∈ TB := tb_4 (List.mem_of_getElem? (i := 100) rfl) rfl
theorem ml_L_71 : Cond.methodLink RL 71 yX8_person ∈ TB := tb_4 (List.mem_of_getElem? (i := 101) rfl) rfl
theorem im_X8_person : Cond.instanceMethod yX8_person ∈ TB := tb_4 (List.mem_of_getElem? (i := 102) rfl) rfl
theorem se_X8_X8_person : Cond.selects RX8 yX8_person yX8_person ∈ TB := tb_4 (List.mem_of_getElem? (i := 103) rfl) rfl
theorem co_X8_person : Cond.code yX8_person cX8_person 3 (some .int) ∈ TB := tb_4 (List.mem_of_getElem? (i := 104) rfl) rfl
theorem ml_X8_207 : Cond.methodLink RX8 207 yX8_isPerson ∈ TB := tb_4 (List.mem_of_getElem? (i := 105) rfl) rfl
theorem im_X8_isPerson : Cond.instanceMethod yX8_isPerson ∈ TB := tb_4 (List.mem_of_getElem? (i := 107) rfl) rfl
theorem co_X8_isPerson : Cond.code yX8_isPerson cX8_isPerson 2 (some .boolean) ∈ TB := tb_4 (List.mem_of_getElem? (i := 108) rfl) rfl
theorem ml_X8_213 : Cond.methodLink RX8 213 yX8_tellIf ∈ TB := tb_4 (List.mem_of_getElem? (i := 109) rfl) rfl
theorem im_X8_tellIf : Cond.instanceMethod yX8_tellIf ∈ TB := tb_4 (List.mem_of_getElem? (i := 111) rfl) rfl
theorem co_X8_tellIf : Cond.code yX8_tellIf cX8_tellIf 3 (some .int) ∈ TB := tb_4 (List.mem_of_getElem? (i := 112) rfl) rfl
theorem ml_X8_220 : Cond.methodLink RX8 220 yX7_isAlive ∈ TB := tb_4 (List.mem_of_getElem? (i := 113) rfl) rfl
theorem im_X7_isAlive : Cond.instanceMethod yX7_isAlive ∈ TB := tb_4 (List.mem_of_getElem? (i := 114) rfl) rfl
theorem se_X7_X7_isAlive : Cond.selects RX7 yX7_isAlive yX7_isAlive ∈ TB := tb_4 (List.mem_of_getElem? (i := 115) rfl) rfl
theorem co_X7_isAlive : Cond.code yX7_isAlive cX7_isAlive 2 (some .boolean) ∈ TB := tb_4 (List.mem_of_getElem? (i := 116) rfl) rfl
theorem ml_X8_223 : Cond.methodLink RX8 223 yX7_ownYards ∈ TB := tb_4 (List.mem_of_getElem? (i := 117) rfl) rfl
theorem im_X7_ownYards : Cond.instanceMethod yX7_ownYards ∈ TB := tb_4 (List.mem_of_getElem? (i := 118) rfl) rfl
theorem se_X7_X7_ownYards : Cond.selects RX7 yX7_ownYards yX7_ownYards ∈ TB := tb_4 (List.mem_of_getElem? (i := 119) rfl) rfl
theorem co_X7_ownYards : Cond.code yX7_ownYards cX7_ownYards 4 (some .int) ∈ TB := tb_4 (List.mem_of_getElem? (i := 120) rfl) rfl
theorem ml_X8_226 : Cond.methodLink RX8 226 yX7_heldYards ∈ TB := tb_4 (List.mem_of_getElem? (i := 121) rfl) rfl
theorem im_X7_heldYards : Cond.instanceMethod yX7_heldYards ∈ TB := tb_4 (List.mem_of_getElem? (i := 122) rfl) rfl
theorem se_X7_X7_heldYards : Cond.selects RX7 yX7_heldYards yX7_heldYards ∈ TB := tb_4 (List.mem_of_getElem? (i := 123) rfl) rfl
theorem co_X7_heldYards : Cond.code yX7_heldYards cX7_heldYards 4 (some .int) ∈ TB := tb_4 (List.mem_of_getElem? (i := 124) rfl) rfl
theorem ml_X7_96 : Cond.methodLink RX7 96 yX3_holder ∈ TB := tb_4 (List.mem_of_getElem? (i := 125) rfl) rfl
theorem im_X3_holder : Cond.instanceMethod yX3_holder ∈ TB := tb_4 (List.mem_of_getElem? (i := 126) rfl) rfl
theorem se_X3_X3_holder : Cond.selects RX3 yX3_holder yX3_holder ∈ TB := tb_4 (List.mem_of_getElem? (i := 127) rfl) rfl
theorem co_X3_holder : Cond.code yX3_holder cX3_holder 1 (some .int) ∈ TB := tb_4 (List.mem_of_getElem? (i := 128) rfl) rfl
theorem ml_L_76 : Cond.methodLink RL 76 yX8_heirs ∈ TB := tb_4 (List.mem_of_getElem? (i := 129) rfl) rfl
theorem im_X8_heirs : Cond.instanceMethod yX8_heirs ∈ TB := tb_4 (List.mem_of_getElem? (i := 130) rfl) rfl
theorem se_X8_X8_heirs : Cond.selects RX8 yX8_heirs yX8_heirs ∈ TB := tb_4 (List.mem_of_getElem? (i := 131) rfl) rfl
theorem co_X8_heirs : Cond.code yX8_heirs cX8_heirs 2 (some .int) ∈ TB := tb_4 (List.mem_of_getElem? (i := 132) rfl) rfl
theorem ml_X8_229 : Cond.methodLink RX8 229 yX7_heirSet ∈ TB := tb_4 (List.mem_of_getElem? (i := 133) rfl) rfl
theorem im_X7_heirSet : Cond.instanceMethod yX7_heirSet ∈ TB := tb_4 (List.mem_of_getElem? (i := 134) rfl) rfl
theorem se_X7_X7_heirSet : Cond.selects RX7 yX7_heirSet yX7_heirSet ∈ TB := tb_4 (List.mem_of_getElem? (i := 135) rfl) rfl
theorem co_X7_heirSet : Cond.code yX7_heirSet cX7_heirSet 4 (some .int) ∈ TB := tb_4 (List.mem_of_getElem? (i := 136) rfl) rfl
theorem ml_X7_82 : Cond.methodLink RX7 82 yX7_isAlive ∈ TB := tb_4 (List.mem_of_getElem? (i := 137) rfl) rfl
theorem ml_L_80 : Cond.methodLink RL 80 yX8_rope ∈ TB := tb_4 (List.mem_of_getElem? (i := 138) rfl) rfl
theorem im_X8_rope : Cond.instanceMethod yX8_rope ∈ TB := tb_4 (List.mem_of_getElem? (i := 139) rfl) rfl
theorem se_X8_X8_rope : Cond.selects RX8 yX8_rope yX8_rope ∈ TB := tb_4 (List.mem_of_getElem? (i := 140) rfl) rfl
theorem co_X8_rope : Cond.code yX8_rope cX8_rope 4 (some .int) ∈ TB := tb_4 (List.mem_of_getElem? (i := 141) rfl) rfl
theorem ml_X8_232 : Cond.methodLink RX8 232 yX8_isRope ∈ TB := tb_4 (List.mem_of_getElem? (i := 142) rfl) rfl
theorem im_X8_isRope : Cond.instanceMethod yX8_isRope ∈ TB := tb_4 (List.mem_of_getElem? (i := 144) rfl) rfl
theorem co_X8_isRope : Cond.code yX8_isRope cX8_isRope 2 (some .boolean) ∈ TB := tb_4 (List.mem_of_getElem? (i := 145) rfl) rfl
theorem ml_X8_336 : Cond.methodLink RX8 336 yX3_isThere ∈ TB := tb_4 (List.mem_of_getElem? (i := 146) rfl) rfl
theorem ml_X8_251 : Cond.methodLink RX8 251 yX3_reach ∈ TB := tb_4 (List.mem_of_getElem? (i := 147) rfl) rfl
theorem im_X3_reach : Cond.instanceMethod yX3_reach ∈ TB := tb_4 (List.mem_of_getElem? (i := 148) rfl) rfl
theorem se_X3_X3_reach : Cond.selects RX3 yX3_reach yX3_reach ∈ TB := tb_4 (List.mem_of_getElem? (i := 149) rfl) rfl
theorem co_X3_reach : Cond.code yX3_reach cX3_reach 1 (some .int) ∈ TB := tb_4 (List.mem_of_getElem? (i := 150) rfl) rfl
theorem ml_X3_44 : Cond.methodLink RX3 44 yX3_knots ∈ TB := tb_4 (List.mem_of_getElem? (i := 151) rfl) rfl
theorem im_X3_knots : Cond.instanceMethod yX3_knots ∈ TB := tb_4 (List.mem_of_getElem? (i := 152) rfl) rfl
theorem se_X3_X3_knots : Cond.selects RX3 yX3_knots yX3_knots ∈ TB := tb_4 (List.mem_of_getElem? (i := 153) rfl) rfl
theorem co_X3_knots : Cond.code yX3_knots cX3_knots 1 (some .int) ∈ TB := tb_4 (List.mem_of_getElem? (i := 154) rfl) rfl
theorem ml_X8_254 : Cond.methodLink RX8 254 yX3_oldest ∈ TB := tb_4 (List.mem_of_getElem? (i := 155) rfl) rfl
theorem im_X3_oldest : Cond.instanceMethod yX3_oldest ∈ TB := tb_4 (List.mem_of_getElem? (i := 156) rfl) rfl
theorem se_X3_X3_oldest : Cond.selects RX3 yX3_oldest yX3_oldest ∈ TB := tb_4 (List.mem_of_getElem? (i := 157) rfl) rfl
theorem co_X3_oldest : Cond.code yX3_oldest cX3_oldest 3 (some .int) ∈ TB := tb_4 (List.mem_of_getElem? (i := 158) rfl) rfl
theorem ml_X3_48 : Cond.methodLink RX3 48 yJ9_max_7cf53 ∈ TB := tb_4 (List.mem_of_getElem? (i := 159) rfl) rfl
theorem ml_L_84 : Cond.methodLink RL 84 yX8_piece ∈ TB := tb_4 (List.mem_of_getElem? (i := 160) rfl) rfl
theorem im_X8_piece : Cond.instanceMethod yX8_piece ∈ TB := tb_4 (List.mem_of_getElem? (i := 161) rfl) rfl
theorem se_X8_X8_piece : Cond.selects RX8 yX8_piece yX8_piece ∈ TB := tb_4 (List.mem_of_getElem? (i := 162) rfl) rfl
theorem co_X8_piece : Cond.code yX8_piece cX8_piece 5 (some .int) ∈ TB := tb_4 (List.mem_of_getElem? (i := 163) rfl) rfl
theorem ml_L_89 : Cond.methodLink RL 89 yX8_seed ∈ TB := tb_4 (List.mem_of_getElem? (i := 164) rfl) rfl
theorem im_X8_seed : Cond.instanceMethod yX8_seed ∈ TB := tb_4 (List.mem_of_getElem? (i := 165) rfl) rfl
theorem se_X8_X8_seed : Cond.selects RX8 yX8_seed yX8_seed ∈ TB := tb_4 (List.mem_of_getElem? (i := 166) rfl) rfl
theorem co_X8_seed : Cond.code yX8_seed cX8_seed 2 (some .boolean) ∈ TB := tb_4 (List.mem_of_getElem? (i := 167) rfl) rfl
theorem ml_X8_270 : Cond.methodLink RX8 270 yX8_isSeed ∈ TB := tb_4 (List.mem_of_getElem? (i := 168) rfl) rfl
theorem im_X8_isSeed : Cond.instanceMethod yX8_isSeed ∈ TB := tb_4 (List.mem_of_getElem? (i := 170) rfl) rfl
theorem co_X8_isSeed : Cond.code yX8_isSeed cX8_isSeed 2 (some .boolean) ∈ TB := tb_4 (List.mem_of_getElem? (i := 171) rfl) rfl
theorem ml_L_94 : Cond.methodLink RL 94 yX8_pass ∈ TB := tb_4 (List.mem_of_getElem? (i := 172) rfl) rfl
theorem im_X8_pass : Cond.instanceMethod yX8_pass ∈ TB := tb_4 (List.mem_of_getElem? (i := 173) rfl) rfl
theorem se_X8_X8_pass : Cond.selects RX8 yX8_pass yX8_pass ∈ TB := tb_4 (List.mem_of_getElem? (i := 174) rfl) rfl
theorem co_X8_pass : Cond.code yX8_pass cX8_pass 3 (some .int) ∈ TB := tb_4 (List.mem_of_getElem? (i := 175) rfl) rfl
theorem ml_X8_273 : Cond.methodLink RX8 273 yX7_passYear ∈ TB := tb_4 (List.mem_of_getElem? (i := 176) rfl) rfl
theorem im_X7_passYear : Cond.instanceMethod yX7_passYear ∈ TB := tb_4 (List.mem_of_getElem? (i := 177) rfl) rfl
theorem se_X7_X7_passYear : Cond.selects RX7 yX7_passYear yX7_passYear ∈ TB := tb_4 (List.mem_of_getElem? (i := 178) rfl) rfl
theorem co_X7_passYear : Cond.code yX7_passYear cX7_passYear 2 none ∈ TB := tb_4 (List.mem_of_getElem? (i := 179) rfl) rfl
theorem ml_X7_143 : Cond.methodLink RX7 143 yJ9_min_7cf53 ∈ TB := tb_4 (List.mem_of_getElem? (i := 180) rfl) rfl
theorem ct_X7_146 : Cond.constant RX7 146 (65536) ∈ TB := tb_4 (List.mem_of_getElem? (i := 181) rfl) rfl
theorem ml_X7_147 : Cond.methodLink RX7 147 yX7_bury ∈ TB := tb_4 (List.mem_of_getElem? (i := 182) rfl) rfl
theorem im_X7_bury : Cond.instanceMethod yX7_bury ∈ TB := tb_4 (List.mem_of_getElem? (i := 184) rfl) rfl
theorem co_X7_bury : Cond.code yX7_bury cX7_bury 4 none ∈ TB := tb_4 (List.mem_of_getElem? (i := 185) rfl) rfl
theorem ml_X7_154 : Cond.methodLink RX7 154 yX7_heirSet ∈ TB := tb_4 (List.mem_of_getElem? (i := 186) rfl) rfl
theorem ml_X7_157 : Cond.methodLink RX7 157 yX7_handDown ∈ TB := tb_4 (List.mem_of_getElem? (i := 187) rfl) rfl
theorem im_X7_handDown : Cond.instanceMethod yX7_handDown ∈ TB := tb_4 (List.mem_of_getElem? (i := 189) rfl) rfl
theorem co_X7_handDown : Cond.code yX7_handDown cX7_handDown 4 none ∈ TB := tb_4 (List.mem_of_getElem? (i := 190) rfl) rfl
theorem ml_X7_161 : Cond.methodLink RX7 161 yX7_findFacts ∈ TB := tb_4 (List.mem_of_getElem? (i := 191) rfl) rfl
theorem im_X7_findFacts : Cond.instanceMethod yX7_findFacts ∈ TB := tb_4 (List.mem_of_getElem? (i := 193) rfl) rfl
theorem co_X7_findFacts : Cond.code yX7_findFacts cX7_findFacts 3 none ∈ TB := tb_4 (List.mem_of_getElem? (i := 194) rfl) rfl
theorem ml_X7_115 : Cond.methodLink RX7 115 yX3_reach ∈ TB := tb_4 (List.mem_of_getElem? (i := 195) rfl) rfl
theorem ml_X7_118 : Cond.methodLink RX7 118 yX7_depthNow ∈ TB := tb_4 (List.mem_of_getElem? (i := 196) rfl) rfl
theorem ml_X7_140 : Cond.methodLink RX7 140 yX3_knots ∈ TB := tb_4 (List.mem_of_getElem? (i := 197) rfl) rfl
theorem ml_X7_191 : Cond.methodLink RX7 191 yX3_oldest ∈ TB := tb_4 (List.mem_of_getElem? (i := 198) rfl) rfl
theorem ml_X7_131 : Cond.methodLink RX7 131 yJ6_bitCount_0f7a4 ∈ TB := tb_4 (List.mem_of_getElem? (i := 199) rfl) rfl
theorem sm_J6_bitCount_0f7a4 : Cond.static yJ6_bitCount_0f7a4 ∈ TB := tb_4 (List.mem_of_getElem? (i := 200) rfl) rfl
theorem co_J6_bitCount_0f7a4 : Cond.code yJ6_bitCount_0f7a4 cJ6_bitCount_0f7a4 1 (some .int) ∈ TB := tb_4 (List.mem_of_getElem? (i := 201) rfl) rfl
theorem ct_J6_265 : Cond.constant RJ6 265 (1431655765) ∈ TB := tb_4 (List.mem_of_getElem? (i := 202) rfl) rfl
theorem ct_J6_266 : Cond.constant RJ6 266 (858993459) ∈ TB := tb_4 (List.mem_of_getElem? (i := 203) rfl) rfl
theorem ct_J6_267 : Cond.constant RJ6 267 (252645135) ∈ TB := tb_4 (List.mem_of_getElem? (i := 204) rfl) rfl
theorem ml_X7_165 : Cond.methodLink RX7 165 yX0_whomFor ∈ TB := tb_4 (List.mem_of_getElem? (i := 205) rfl) rfl
theorem im_X0_whomFor : Cond.instanceMethod yX0_whomFor ∈ TB := tb_4 (List.mem_of_getElem? (i := 206) rfl) rfl
theorem se_X0_X0_whomFor : Cond.selects RX0 yX0_whomFor yX0_whomFor ∈ TB := tb_4 (List.mem_of_getElem? (i := 207) rfl) rfl
theorem co_X0_whomFor : Cond.code yX0_whomFor cX0_whomFor 5 (some .int) ∈ TB := tb_4 (List.mem_of_getElem? (i := 208) rfl) rfl
theorem ml_X0_19 : Cond.methodLink RX0 19 yX0_isSo ∈ TB := tb_4 (List.mem_of_getElem? (i := 209) rfl) rfl
theorem sm_X0_isSo : Cond.static yX0_isSo ∈ TB := tb_4 (List.mem_of_getElem? (i := 210) rfl) rfl
theorem co_X0_isSo : Cond.code yX0_isSo cX0_isSo 6 (some .boolean) ∈ TB := tb_4 (List.mem_of_getElem? (i := 211) rfl) rfl
theorem ml_X7_171 : Cond.methodLink RX7 171 yX7_greatestOf ∈ TB := tb_4 (List.mem_of_getElem? (i := 212) rfl) rfl
theorem sm_X7_greatestOf : Cond.static yX7_greatestOf ∈ TB := tb_4 (List.mem_of_getElem? (i := 213) rfl) rfl
theorem co_X7_greatestOf : Cond.code yX7_greatestOf cX7_greatestOf 2 (some .int) ∈ TB := tb_4 (List.mem_of_getElem? (i := 214) rfl) rfl
theorem ml_X7_174 : Cond.methodLink RX7 174 yX7_poorestOf ∈ TB := tb_4 (List.mem_of_getElem? (i := 215) rfl) rfl
theorem im_X7_poorestOf : Cond.instanceMethod yX7_poorestOf ∈ TB := tb_4 (List.mem_of_getElem? (i := 217) rfl) rfl
theorem co_X7_poorestOf : Cond.code yX7_poorestOf cX7_poorestOf 6 (some .int) ∈ TB := tb_4 (List.mem_of_getElem? (i := 218) rfl) rfl
theorem ml_X7_194 : Cond.methodLink RX7 194 yX7_heldYards ∈ TB := tb_4 (List.mem_of_getElem? (i := 219) rfl) rfl
theorem ml_X7_177 : Cond.methodLink RX7 177 yX7_isForEach ∈ TB := tb_4 (List.mem_of_getElem? (i := 220) rfl) rfl
theorem im_X7_isForEach : Cond.instanceMethod yX7_isForEach ∈ TB := tb_4 (List.mem_of_getElem? (i := 222) rfl) rfl
theorem co_X7_isForEach : Cond.code yX7_isForEach cX7_isForEach 3 (some .boolean) ∈ TB := tb_4 (List.mem_of_getElem? (i := 223) rfl) rfl
theorem ml_X7_197 : Cond.methodLink RX7 197 yX7_countRopes ∈ TB := tb_4 (List.mem_of_getElem? (i := 224) rfl) rfl
theorem ml_X7_181 : Cond.methodLink RX7 181 yX7_shareOut ∈ TB := tb_4 (List.mem_of_getElem? (i := 225) rfl) rfl
theorem im_X7_shareOut : Cond.instanceMethod yX7_shareOut ∈ TB := tb_4 (List.mem_of_getElem? (i := 227) rfl) rfl
theorem co_X7_shareOut : Cond.code yX7_shareOut cX7_shareOut 10 none ∈ TB := tb_4 (List.mem_of_getElem? (i := 228) rfl) rfl
theorem ml_X7_200 : Cond.methodLink RX7 200 yX7_freeRope ∈ TB := tb_4 (List.mem_of_getElem? (i := 229) rfl) rfl
theorem im_X7_freeRope : Cond.instanceMethod yX7_freeRope ∈ TB := tb_4 (List.mem_of_getElem? (i := 230) rfl) rfl
theorem se_X7_X7_freeRope : Cond.selects RX7 yX7_freeRope yX7_freeRope ∈ TB := tb_4 (List.mem_of_getElem? (i := 231) rfl) rfl
theorem co_X7_freeRope : Cond.code yX7_freeRope cX7_freeRope 2 (some .int) ∈ TB := tb_4 (List.mem_of_getElem? (i := 232) rfl) rfl
theorem ml_X7_203 : Cond.methodLink RX7 203 yX3_splitAt ∈ TB := tb_4 (List.mem_of_getElem? (i := 233) rfl) rfl
theorem im_X3_splitAt : Cond.instanceMethod yX3_splitAt ∈ TB := tb_4 (List.mem_of_getElem? (i := 234) rfl) rfl
theorem se_X3_X3_splitAt : Cond.selects RX3 yX3_splitAt yX3_splitAt ∈ TB := tb_4 (List.mem_of_getElem? (i := 235) rfl) rfl
theorem co_X3_splitAt : Cond.code yX3_splitAt cX3_splitAt 7 none ∈ TB := tb_4 (List.mem_of_getElem? (i := 236) rfl) rfl
theorem ml_X3_58 : Cond.methodLink RX3 58 yX3_clear ∈ TB := tb_4 (List.mem_of_getElem? (i := 237) rfl) rfl
theorem ml_X3_54 : Cond.methodLink RX3 54 yX3_add ∈ TB := tb_4 (List.mem_of_getElem? (i := 238) rfl) rfl
theorem ml_X3_61 : Cond.methodLink RX3 61 yJ9_min_7cf53 ∈ TB := tb_4 (List.mem_of_getElem? (i := 239) rfl) rfl
theorem ml_X7_184 : Cond.methodLink RX7 184 yX7_leastOf ∈ TB := tb_5 (List.mem_of_getElem? (i := 0) rfl) rfl
theorem sm_X7_leastOf : Cond.static yX7_leastOf ∈ TB := tb_5 (List.mem_of_getElem? (i := 1) rfl) rfl
theorem co_X7_leastOf : Cond.code yX7_leastOf cX7_leastOf 2 (some .int) ∈ TB := tb_5 (List.mem_of_getElem? (i := 2) rfl) rfl
theorem ml_L_98 : Cond.methodLink RL 98 yX8_drinks ∈ TB := tb_5 (List.mem_of_getElem? (i := 3) rfl) rfl
theorem im_X8_drinks : Cond.instanceMethod yX8_drinks ∈ TB := tb_5 (List.mem_of_getElem? (i := 4) rfl) rfl
theorem se_X8_X8_drinks : Cond.selects RX8 yX8_drinks yX8_drinks ∈ TB := tb_5 (List.mem_of_getElem? (i := 5) rfl) rfl
theorem co_X8_drinks : Cond.code yX8_drinks cX8_drinks 2 (some .int) ∈ TB := tb_5 (List.mem_of_getElem? (i := 6) rfl) rfl
theorem ml_X8_276 : Cond.methodLink RX8 276 yX7_isDrinking ∈ TB := tb_5 (List.mem_of_getElem? (i := 7) rfl) rfl
theorem im_X7_isDrinking : Cond.instanceMethod yX7_isDrinking ∈ TB := tb_5 (List.mem_of_getElem? (i := 8) rfl) rfl
theorem se_X7_X7_isDrinking : Cond.selects RX7 yX7_isDrinking yX7_isDrinking ∈ TB := tb_5 (List.mem_of_getElem? (i := 9) rfl) rfl
theorem co_X7_isDrinking : Cond.code yX7_isDrinking cX7_isDrinking 2 (some .boolean) ∈ TB := tb_5 (List.mem_of_getElem? (i := 10) rfl) rfl
theorem ml_X7_125 : Cond.methodLink RX7 125 yX7_drinkers ∈ TB := tb_5 (List.mem_of_getElem? (i := 11) rfl) rfl
theorem im_X7_drinkers : Cond.instanceMethod yX7_drinkers ∈ TB := tb_5 (List.mem_of_getElem? (i := 12) rfl) rfl
theorem se_X7_X7_drinkers : Cond.selects RX7 yX7_drinkers yX7_drinkers ∈ TB := tb_5 (List.mem_of_getElem? (i := 13) rfl) rfl
theorem co_X7_drinkers : Cond.code yX7_drinkers cX7_drinkers 5 (some .int) ∈ TB := tb_5 (List.mem_of_getElem? (i := 14) rfl) rfl
theorem ml_X7_121 : Cond.methodLink RX7 121 yX7_servesFrom ∈ TB := tb_5 (List.mem_of_getElem? (i := 15) rfl) rfl
theorem im_X7_servesFrom : Cond.instanceMethod yX7_servesFrom ∈ TB := tb_5 (List.mem_of_getElem? (i := 16) rfl) rfl
theorem se_X7_X7_servesFrom : Cond.selects RX7 yX7_servesFrom yX7_servesFrom ∈ TB := tb_5 (List.mem_of_getElem? (i := 17) rfl) rfl
theorem co_X7_servesFrom : Cond.code yX7_servesFrom cX7_servesFrom 5 (some .boolean) ∈ TB := tb_5 (List.mem_of_getElem? (i := 18) rfl) rfl
theorem ml_L_102 : Cond.methodLink RL 102 yX8_who ∈ TB := tb_5 (List.mem_of_getElem? (i := 19) rfl) rfl
theorem im_X8_who : Cond.instanceMethod yX8_who ∈ TB := tb_5 (List.mem_of_getElem? (i := 20) rfl) rfl
theorem se_X8_X8_who : Cond.selects RX8 yX8_who yX8_who ∈ TB := tb_5 (List.mem_of_getElem? (i := 21) rfl) rfl
theorem co_X8_who : Cond.code yX8_who cX8_who 1 (some .int) ∈ TB := tb_5 (List.mem_of_getElem? (i := 22) rfl) rfl
theorem ml_X8_279 : Cond.methodLink RX8 279 yX7_drinkers ∈ TB := tb_5 (List.mem_of_getElem? (i := 23) rfl) rfl
theorem ml_L_106 : Cond.methodLink RL 106 yX8_depth ∈ TB := tb_5 (List.mem_of_getElem? (i := 24) rfl) rfl
theorem im_X8_depth : Cond.instanceMethod yX8_depth ∈ TB := tb_5 (List.mem_of_getElem? (i := 25) rfl) rfl
theorem se_X8_X8_depth : Cond.selects RX8 yX8_depth yX8_depth ∈ TB := tb_5 (List.mem_of_getElem? (i := 26) rfl) rfl
theorem co_X8_depth : Cond.code yX8_depth cX8_depth 2 (some .int) ∈ TB := tb_5 (List.mem_of_getElem? (i := 27) rfl) rfl
theorem ml_X8_282 : Cond.methodLink RX8 282 yX8_isAhead ∈ TB := tb_5 (List.mem_of_getElem? (i := 28) rfl) rfl
theorem im_X8_isAhead : Cond.instanceMethod yX8_isAhead ∈ TB := tb_5 (List.mem_of_getElem? (i := 30) rfl) rfl
theorem co_X8_isAhead : Cond.code yX8_isAhead cX8_isAhead 2 (some .boolean) ∈ TB := tb_5 (List.mem_of_getElem? (i := 31) rfl) rfl
theorem ml_X8_288 : Cond.methodLink RX8 288 yX8_yearsLeft ∈ TB := tb_5 (List.mem_of_getElem? (i := 32) rfl) rfl
theorem im_X8_yearsLeft : Cond.instanceMethod yX8_yearsLeft ∈ TB := tb_5 (List.mem_of_getElem? (i := 34) rfl) rfl
theorem co_X8_yearsLeft : Cond.code yX8_yearsLeft cX8_yearsLeft 1 (some .int) ∈ TB := tb_5 (List.mem_of_getElem? (i := 35) rfl) rfl
theorem ml_X8_298 : Cond.methodLink RX8 298 yJ9_min_7cf53 ∈ TB := tb_5 (List.mem_of_getElem? (i := 36) rfl) rfl
theorem ml_X8_285 : Cond.methodLink RX8 285 yX8_lookAhead ∈ TB := tb_5 (List.mem_of_getElem? (i := 37) rfl) rfl
theorem im_X8_lookAhead : Cond.instanceMethod yX8_lookAhead ∈ TB := tb_5 (List.mem_of_getElem? (i := 39) rfl) rfl
theorem co_X8_lookAhead : Cond.code yX8_lookAhead cX8_lookAhead 4 none ∈ TB := tb_5 (List.mem_of_getElem? (i := 40) rfl) rfl
theorem ml_L_110 : Cond.methodLink RL 110 yX8_whoThen ∈ TB := tb_5 (List.mem_of_getElem? (i := 41) rfl) rfl
theorem im_X8_whoThen : Cond.instanceMethod yX8_whoThen ∈ TB := tb_5 (List.mem_of_getElem? (i := 42) rfl) rfl
theorem se_X8_X8_whoThen : Cond.selects RX8 yX8_whoThen yX8_whoThen ∈ TB := tb_5 (List.mem_of_getElem? (i := 43) rfl) rfl
theorem co_X8_whoThen : Cond.code yX8_whoThen cX8_whoThen 2 (some .int) ∈ TB := tb_5 (List.mem_of_getElem? (i := 44) rfl) rfl
theorem ml_L_114 : Cond.methodLink RL 114 yX8_owner ∈ TB := tb_5 (List.mem_of_getElem? (i := 45) rfl) rfl
theorem im_X8_owner : Cond.instanceMethod yX8_owner ∈ TB := tb_5 (List.mem_of_getElem? (i := 46) rfl) rfl
theorem se_X8_X8_owner : Cond.selects RX8 yX8_owner yX8_owner ∈ TB := tb_5 (List.mem_of_getElem? (i := 47) rfl) rfl
theorem co_X8_owner : Cond.code yX8_owner cX8_owner 3 (some .int) ∈ TB := tb_5 (List.mem_of_getElem? (i := 48) rfl) rfl
theorem ml_L_118 : Cond.methodLink RL 118 yX8_thirst ∈ TB := tb_5 (List.mem_of_getElem? (i := 49) rfl) rfl
theorem im_X8_thirst : Cond.instanceMethod yX8_thirst ∈ TB := tb_5 (List.mem_of_getElem? (i := 50) rfl) rfl
theorem se_X8_X8_thirst : Cond.selects RX8 yX8_thirst yX8_thirst ∈ TB := tb_5 (List.mem_of_getElem? (i := 51) rfl) rfl
theorem co_X8_thirst : Cond.code yX8_thirst cX8_thirst 4 (some .int) ∈ TB := tb_5 (List.mem_of_getElem? (i := 52) rfl) rfl
theorem ml_L_122 : Cond.methodLink RL 122 yX8_last ∈ TB := tb_5 (List.mem_of_getElem? (i := 53) rfl) rfl
theorem im_X8_last : Cond.instanceMethod yX8_last ∈ TB := tb_5 (List.mem_of_getElem? (i := 54) rfl) rfl
theorem se_X8_X8_last : Cond.selects RX8 yX8_last yX8_last ∈ TB := tb_5 (List.mem_of_getElem? (i := 55) rfl) rfl
theorem co_X8_last : Cond.code yX8_last cX8_last 7 (some .int) ∈ TB := tb_5 (List.mem_of_getElem? (i := 56) rfl) rfl
theorem ml_X8_291 : Cond.methodLink RX8 291 yX7_leastOf ∈ TB := tb_5 (List.mem_of_getElem? (i := 57) rfl) rfl
theorem ml_L_126 : Cond.methodLink RL 126 yX8_odds ∈ TB := tb_5 (List.mem_of_getElem? (i := 58) rfl) rfl
theorem im_X8_odds : Cond.instanceMethod yX8_odds ∈ TB := tb_5 (List.mem_of_getElem? (i := 59) rfl) rfl
theorem se_X8_X8_odds : Cond.selects RX8 yX8_odds yX8_odds ∈ TB := tb_5 (List.mem_of_getElem? (i := 60) rfl) rfl
theorem co_X8_odds : Cond.code yX8_odds cX8_odds 7 (some .boolean) ∈ TB := tb_5 (List.mem_of_getElem? (i := 61) rfl) rfl
theorem ml_X8_294 : Cond.methodLink RX8 294 yX8_tellFraction ∈ TB := tb_5 (List.mem_of_getElem? (i := 62) rfl) rfl
theorem im_X8_tellFraction : Cond.instanceMethod yX8_tellFraction ∈ TB := tb_5 (List.mem_of_getElem? (i := 64) rfl) rfl
theorem co_X8_tellFraction : Cond.code yX8_tellFraction cX8_tellFraction 12 (some .boolean) ∈ TB := tb_5 (List.mem_of_getElem? (i := 65) rfl) rfl
theorem ml_L_131 : Cond.methodLink RL 131 yX8_knot ∈ TB := tb_5 (List.mem_of_getElem? (i := 66) rfl) rfl
theorem im_X8_knot : Cond.instanceMethod yX8_knot ∈ TB := tb_5 (List.mem_of_getElem? (i := 67) rfl) rfl
theorem se_X8_X8_knot : Cond.selects RX8 yX8_knot yX8_knot ∈ TB := tb_5 (List.mem_of_getElem? (i := 68) rfl) rfl
theorem co_X8_knot : Cond.code yX8_knot cX8_knot 5 (some .int) ∈ TB := tb_5 (List.mem_of_getElem? (i := 69) rfl) rfl
theorem ml_X8_303 : Cond.methodLink RX8 303 yX3_isFree ∈ TB := tb_5 (List.mem_of_getElem? (i := 70) rfl) rfl
theorem im_X3_isFree : Cond.instanceMethod yX3_isFree ∈ TB := tb_5 (List.mem_of_getElem? (i := 71) rfl) rfl
theorem se_X3_X3_isFree : Cond.selects RX3 yX3_isFree yX3_isFree ∈ TB := tb_5 (List.mem_of_getElem? (i := 72) rfl) rfl
theorem co_X3_isFree : Cond.code yX3_isFree cX3_isFree 1 (some .boolean) ∈ TB := tb_5 (List.mem_of_getElem? (i := 73) rfl) rfl
theorem ml_X8_306 : Cond.methodLink RX8 306 yX3_tieOn ∈ TB := tb_5 (List.mem_of_getElem? (i := 74) rfl) rfl
theorem im_X3_tieOn : Cond.instanceMethod yX3_tieOn ∈ TB := tb_5 (List.mem_of_getElem? (i := 75) rfl) rfl
theorem se_X3_X3_tieOn : Cond.selects RX3 yX3_tieOn yX3_tieOn ∈ TB := tb_5 (List.mem_of_getElem? (i := 76) rfl) rfl
theorem co_X3_tieOn : Cond.code yX3_tieOn cX3_tieOn 3 none ∈ TB := tb_5 (List.mem_of_getElem? (i := 77) rfl) rfl
theorem ml_L_135 : Cond.methodLink RL 135 yX8_undo ∈ TB := tb_5 (List.mem_of_getElem? (i := 78) rfl) rfl
theorem im_X8_undo : Cond.instanceMethod yX8_undo ∈ TB := tb_5 (List.mem_of_getElem? (i := 79) rfl) rfl
theorem se_X8_X8_undo : Cond.selects RX8 yX8_undo yX8_undo ∈ TB := tb_5 (List.mem_of_getElem? (i := 80) rfl) rfl
theorem co_X8_undo : Cond.code yX8_undo cX8_undo 4 (some .int) ∈ TB := tb_5 (List.mem_of_getElem? (i := 81) rfl) rfl
theorem ml_X8_310 : Cond.methodLink RX8 310 yX3_lengthOf ∈ TB := tb_5 (List.mem_of_getElem? (i := 82) rfl) rfl
theorem im_X3_lengthOf : Cond.instanceMethod yX3_lengthOf ∈ TB := tb_5 (List.mem_of_getElem? (i := 83) rfl) rfl
theorem se_X3_X3_lengthOf : Cond.selects RX3 yX3_lengthOf yX3_lengthOf ∈ TB := tb_5 (List.mem_of_getElem? (i := 84) rfl) rfl
theorem co_X3_lengthOf : Cond.code yX3_lengthOf cX3_lengthOf 4 (some .int) ∈ TB := tb_5 (List.mem_of_getElem? (i := 85) rfl) rfl
theorem ml_X8_313 : Cond.methodLink RX8 313 yX8_part ∈ TB := tb_5 (List.mem_of_getElem? (i := 86) rfl) rfl
theorem im_X8_part : Cond.instanceMethod yX8_part ∈ TB := tb_5 (List.mem_of_getElem? (i := 88) rfl) rfl
theorem co_X8_part : Cond.code yX8_part cX8_part 4 (some .int) ∈ TB := tb_5 (List.mem_of_getElem? (i := 89) rfl) rfl
theorem ml_X8_317 : Cond.methodLink RX8 317 yX7_freeRope ∈ TB := tb_5 (List.mem_of_getElem? (i := 90) rfl) rfl
theorem ml_X8_320 : Cond.methodLink RX8 320 yX3_splitAt ∈ TB := tb_5 (List.mem_of_getElem? (i := 91) rfl) rfl
theorem ml_L_139 : Cond.methodLink RL 139 yX8_cut ∈ TB := tb_5 (List.mem_of_getElem? (i := 92) rfl) rfl
theorem im_X8_cut : Cond.instanceMethod yX8_cut ∈ TB := tb_5 (List.mem_of_getElem? (i := 93) rfl) rfl
theorem se_X8_X8_cut : Cond.selects RX8 yX8_cut yX8_cut ∈ TB := tb_5 (List.mem_of_getElem? (i := 94) rfl) rfl
theorem co_X8_cut : Cond.code yX8_cut cX8_cut 5 (some .int) ∈ TB := tb_5 (List.mem_of_getElem? (i := 95) rfl) rfl
theorem ml_L_143 : Cond.methodLink RL 143 yX8_sell ∈ TB := tb_5 (List.mem_of_getElem? (i := 96) rfl) rfl
theorem im_X8_sell : Cond.instanceMethod yX8_sell ∈ TB := tb_5 (List.mem_of_getElem? (i := 97) rfl) rfl
theorem se_X8_X8_sell : Cond.selects RX8 yX8_sell yX8_sell ∈ TB := tb_5 (List.mem_of_getElem? (i := 98) rfl) rfl
theorem co_X8_sell : Cond.code yX8_sell cX8_sell 8 (some .int) ∈ TB := tb_5 (List.mem_of_getElem? (i := 99) rfl) rfl
theorem ml_X8_324 : Cond.methodLink RX8 324 yX7_countThirsty ∈ TB := tb_5 (List.mem_of_getElem? (i := 100) rfl) rfl
theorem im_X7_countThirsty : Cond.instanceMethod yX7_countThirsty ∈ TB := tb_5 (List.mem_of_getElem? (i := 101) rfl) rfl
theorem se_X7_X7_countThirsty : Cond.selects RX7 yX7_countThirsty yX7_countThirsty ∈ TB := tb_5 (List.mem_of_getElem? (i := 102) rfl) rfl
theorem co_X7_countThirsty : Cond.code yX7_countThirsty cX7_countThirsty 1 (some .int) ∈ TB := tb_5 (List.mem_of_getElem? (i := 103) rfl) rfl
theorem ml_X7_128 : Cond.methodLink RX7 128 yX7_countAlive ∈ TB := tb_5 (List.mem_of_getElem? (i := 104) rfl) rfl
theorem im_X7_countAlive : Cond.instanceMethod yX7_countAlive ∈ TB := tb_5 (List.mem_of_getElem? (i := 105) rfl) rfl
theorem se_X7_X7_countAlive : Cond.selects RX7 yX7_countAlive yX7_countAlive ∈ TB := tb_5 (List.mem_of_getElem? (i := 106) rfl) rfl
theorem co_X7_countAlive : Cond.code yX7_countAlive cX7_countAlive 3 (some .int) ∈ TB := tb_5 (List.mem_of_getElem? (i := 107) rfl) rfl
theorem ml_L_147 : Cond.methodLink RL 147 yX8_lend ∈ TB := tb_5 (List.mem_of_getElem? (i := 108) rfl) rfl
theorem im_X8_lend : Cond.instanceMethod yX8_lend ∈ TB := tb_5 (List.mem_of_getElem? (i := 109) rfl) rfl
theorem se_X8_X8_lend : Cond.selects RX8 yX8_lend yX8_lend ∈ TB := tb_5 (List.mem_of_getElem? (i := 110) rfl) rfl
theorem co_X8_lend : Cond.code yX8_lend cX8_lend 4 (some .int) ∈ TB := tb_5 (List.mem_of_getElem? (i := 111) rfl) rfl
theorem ml_L_151 : Cond.methodLink RL 151 yX8_takeBack ∈ TB := tb_5 (List.mem_of_getElem? (i := 112) rfl) rfl
theorem im_X8_takeBack : Cond.instanceMethod yX8_takeBack ∈ TB := tb_5 (List.mem_of_getElem? (i := 113) rfl) rfl
theorem se_X8_X8_takeBack : Cond.selects RX8 yX8_takeBack yX8_takeBack ∈ TB := tb_5 (List.mem_of_getElem? (i := 114) rfl) rfl
theorem co_X8_takeBack : Cond.code yX8_takeBack cX8_takeBack 3 (some .int) ∈ TB := tb_5 (List.mem_of_getElem? (i := 115) rfl) rfl
theorem ml_L_155 : Cond.methodLink RL 155 yX8_dig ∈ TB := tb_5 (List.mem_of_getElem? (i := 116) rfl) rfl
theorem im_X8_dig : Cond.instanceMethod yX8_dig ∈ TB := tb_5 (List.mem_of_getElem? (i := 117) rfl) rfl
theorem se_X8_X8_dig : Cond.selects RX8 yX8_dig yX8_dig ∈ TB := tb_5 (List.mem_of_getElem? (i := 118) rfl) rfl
theorem co_X8_dig : Cond.code yX8_dig cX8_dig 2 (some .int) ∈ TB := tb_5 (List.mem_of_getElem? (i := 119) rfl) rfl
theorem ml_X8_327 : Cond.methodLink RX8 327 yJ9_max_7cf53 ∈ TB := tb_5 (List.mem_of_getElem? (i := 120) rfl) rfl
theorem ml_L_159 : Cond.methodLink RL 159 yX8_led ∈ TB := tb_5 (List.mem_of_getElem? (i := 121) rfl) rfl
theorem im_X8_led : Cond.instanceMethod yX8_led ∈ TB := tb_5 (List.mem_of_getElem? (i := 122) rfl) rfl
theorem se_X8_X8_led : Cond.selects RX8 yX8_led yX8_led ∈ TB := tb_5 (List.mem_of_getElem? (i := 123) rfl) rfl
theorem co_X8_led : Cond.code yX8_led cX8_led 5 (some .int) ∈ TB := tb_5 (List.mem_of_getElem? (i := 124) rfl) rfl
theorem ml_X8_330 : Cond.methodLink RX8 330 yX3_pieceAt ∈ TB := tb_5 (List.mem_of_getElem? (i := 125) rfl) rfl
theorem im_X3_pieceAt : Cond.instanceMethod yX3_pieceAt ∈ TB := tb_5 (List.mem_of_getElem? (i := 126) rfl) rfl
theorem se_X3_X3_pieceAt : Cond.selects RX3 yX3_pieceAt yX3_pieceAt ∈ TB := tb_5 (List.mem_of_getElem? (i := 127) rfl) rfl
theorem co_X3_pieceAt : Cond.code yX3_pieceAt cX3_pieceAt 4 (some .int) ∈ TB := tb_5 (List.mem_of_getElem? (i := 128) rfl) rfl
theorem ml_L_163 : Cond.methodLink RL 163 yX8_share ∈ TB := tb_5 (List.mem_of_getElem? (i := 129) rfl) rfl
theorem im_X8_share : Cond.instanceMethod yX8_share ∈ TB := tb_5 (List.mem_of_getElem? (i := 130) rfl) rfl
theorem se_X8_X8_share : Cond.selects RX8 yX8_share yX8_share ∈ TB := tb_5 (List.mem_of_getElem? (i := 131) rfl) rfl
theorem co_X8_share : Cond.code yX8_share cX8_share 3 (some .boolean) ∈ TB := tb_5 (List.mem_of_getElem? (i := 132) rfl) rfl
theorem ml_X8_333 : Cond.methodLink RX8 333 yX7_allYards ∈ TB := tb_5 (List.mem_of_getElem? (i := 133) rfl) rfl
theorem im_X7_allYards : Cond.instanceMethod yX7_allYards ∈ TB := tb_5 (List.mem_of_getElem? (i := 134) rfl) rfl
theorem se_X7_X7_allYards : Cond.selects RX7 yX7_allYards yX7_allYards ∈ TB := tb_5 (List.mem_of_getElem? (i := 135) rfl) rfl
theorem co_X7_allYards : Cond.code yX7_allYards cX7_allYards 3 (some .int) ∈ TB := tb_5 (List.mem_of_getElem? (i := 136) rfl) rfl
theorem ml_L_167 : Cond.methodLink RL 167 yX8_heirloom ∈ TB := tb_5 (List.mem_of_getElem? (i := 137) rfl) rfl
theorem im_X8_heirloom : Cond.instanceMethod yX8_heirloom ∈ TB := tb_5 (List.mem_of_getElem? (i := 138) rfl) rfl
theorem se_X8_X8_heirloom : Cond.selects RX8 yX8_heirloom yX8_heirloom ∈ TB := tb_5 (List.mem_of_getElem? (i := 139) rfl) rfl
theorem co_X8_heirloom : Cond.code yX8_heirloom cX8_heirloom 6 (some .int) ∈ TB := tb_5 (List.mem_of_getElem? (i := 140) rfl) rfl
theorem ml_L_171 : Cond.methodLink RL 171 yX8_yardsOf ∈ TB := tb_5 (List.mem_of_getElem? (i := 141) rfl) rfl
theorem im_X8_yardsOf : Cond.instanceMethod yX8_yardsOf ∈ TB := tb_5 (List.mem_of_getElem? (i := 142) rfl) rfl
theorem se_X8_X8_yardsOf : Cond.selects RX8 yX8_yardsOf yX8_yardsOf ∈ TB := tb_5 (List.mem_of_getElem? (i := 143) rfl) rfl
theorem co_X8_yardsOf : Cond.code yX8_yardsOf cX8_yardsOf 3 (some .int) ∈ TB := tb_5 (List.mem_of_getElem? (i := 144) rfl) rfl
theorem ml_X8_339 : Cond.methodLink RX8 339 yX7_yardsAged ∈ TB := tb_5 (List.mem_of_getElem? (i := 145) rfl) rfl
theorem im_X7_yardsAged : Cond.instanceMethod yX7_yardsAged ∈ TB := tb_5 (List.mem_of_getElem? (i := 146) rfl) rfl
theorem se_X7_X7_yardsAged : Cond.selects RX7 yX7_yardsAged yX7_yardsAged ∈ TB := tb_5 (List.mem_of_getElem? (i := 147) rfl) rfl
theorem co_X7_yardsAged : Cond.code yX7_yardsAged cX7_yardsAged 8 (some .int) ∈ TB := tb_5 (List.mem_of_getElem? (i := 148) rfl) rfl
theorem ml_L_175 : Cond.methodLink RL 175 yX8_needed ∈ TB := tb_5 (List.mem_of_getElem? (i := 149) rfl) rfl
theorem im_X8_needed : Cond.instanceMethod yX8_needed ∈ TB := tb_5 (List.mem_of_getElem? (i := 150) rfl) rfl
theorem se_X8_X8_needed : Cond.selects RX8 yX8_needed yX8_needed ∈ TB := tb_5 (List.mem_of_getElem? (i := 151) rfl) rfl
theorem co_X8_needed : Cond.code yX8_needed cX8_needed 1 (some .int) ∈ TB := tb_5 (List.mem_of_getElem? (i := 152) rfl) rfl
theorem ml_X8_342 : Cond.methodLink RX8 342 yX7_neededRopes ∈ TB := tb_5 (List.mem_of_getElem? (i := 153) rfl) rfl
theorem im_X7_neededRopes : Cond.instanceMethod yX7_neededRopes ∈ TB := tb_5 (List.mem_of_getElem? (i := 154) rfl) rfl
theorem se_X7_X7_neededRopes : Cond.selects RX7 yX7_neededRopes yX7_neededRopes ∈ TB := tb_5 (List.mem_of_getElem? (i := 155) rfl) rfl
theorem co_X7_neededRopes : Cond.code yX7_neededRopes cX7_neededRopes 7 (some .int) ∈ TB := tb_5 (List.mem_of_getElem? (i := 156) rfl) rfl
theorem ml_L_179 : Cond.methodLink RL 179 yX8_plan ∈ TB := tb_5 (List.mem_of_getElem? (i := 157) rfl) rfl
theorem im_X8_plan : Cond.instanceMethod yX8_plan ∈ TB := tb_5 (List.mem_of_getElem? (i := 158) rfl) rfl
theorem se_X8_X8_plan : Cond.selects RX8 yX8_plan yX8_plan ∈ TB := tb_5 (List.mem_of_getElem? (i := 159) rfl) rfl
theorem co_X8_plan : Cond.code yX8_plan cX8_plan 3 (some .int) ∈ TB := tb_5 (List.mem_of_getElem? (i := 160) rfl) rfl
theorem ml_X8_345 : Cond.methodLink RX8 345 yX7_countAlive ∈ TB := tb_5 (List.mem_of_getElem? (i := 161) rfl) rfl
theorem ml_X8_348 : Cond.methodLink RX8 348 yX2_weigh ∈ TB := tb_5 (List.mem_of_getElem? (i := 162) rfl) rfl
theorem im_X2_weigh : Cond.instanceMethod yX2_weigh ∈ TB := tb_5 (List.mem_of_getElem? (i := 163) rfl) rfl
theorem se_X2_X2_weigh : Cond.selects RX2 yX2_weigh yX2_weigh ∈ TB := tb_5 (List.mem_of_getElem? (i := 164) rfl) rfl
theorem co_X2_weigh : Cond.code yX2_weigh cX2_weigh 5 none ∈ TB := tb_5 (List.mem_of_getElem? (i := 165) rfl) rfl
theorem ml_X2_35 : Cond.methodLink RX2 35 yX7_depthNow ∈ TB := tb_5 (List.mem_of_getElem? (i := 166) rfl) rfl
theorem ml_X2_48 : Cond.methodLink RX2 48 yX3_isThere ∈ TB := tb_5 (List.mem_of_getElem? (i := 167) rfl) rfl
theorem ml_X2_54 : Cond.methodLink RX2 54 yX3_reach ∈ TB := tb_5 (List.mem_of_getElem? (i := 168) rfl) rfl
theorem ml_X2_60 : Cond.methodLink RX2 60 yJ7_fill_53178 ∈ TB := tb_5 (List.mem_of_getElem? (i := 169) rfl) rfl
theorem sm_J7_fill_53178 : Cond.static yJ7_fill_53178 ∈ TB := tb_5 (List.mem_of_getElem? (i := 170) rfl) rfl
theorem co_J7_fill_53178 : Cond.code yJ7_fill_53178 cJ7_fill_53178 4 none ∈ TB := tb_5 (List.mem_of_getElem? (i := 171) rfl) rfl
theorem ml_X2_66 : Cond.methodLink RX2 66 yX7_countAlive ∈ TB := tb_5 (List.mem_of_getElem? (i := 172) rfl) rfl
theorem ml_X2_69 : Cond.methodLink RX2 69 yX2_fillSets ∈ TB := tb_5 (List.mem_of_getElem? (i := 173) rfl) rfl
theorem im_X2_fillSets : Cond.instanceMethod yX2_fillSets ∈ TB := tb_5 (List.mem_of_getElem? (i := 175) rfl) rfl
theorem co_X2_fillSets : Cond.code yX2_fillSets cX2_fillSets 6 none ∈ TB := tb_5 (List.mem_of_getElem? (i := 176) rfl) rfl
theorem ml_X2_72 : Cond.methodLink RX2 72 yX2_with ∈ TB := tb_5 (List.mem_of_getElem? (i := 177) rfl) rfl
theorem im_X2_with : Cond.instanceMethod yX2_with ∈ TB := tb_5 (List.mem_of_getElem? (i := 179) rfl) rfl
theorem co_X2_with : Cond.code yX2_with cX2_with 4 (some .int) ∈ TB := tb_5 (List.mem_of_getElem? (i := 180) rfl) rfl
theorem ml_X2_76 : Cond.methodLink RX2 76 yJ9_max_7cf53 ∈ TB := tb_5 (List.mem_of_getElem? (i := 181) rfl) rfl
theorem ml_X2_81 : Cond.methodLink RX2 81 yJ9_min_7cf53 ∈ TB := tb_5 (List.mem_of_getElem? (i := 182) rfl) rfl
theorem ml_X2_84 : Cond.methodLink RX2 84 yJ6_bitCount_0f7a4 ∈ TB := tb_5 (List.mem_of_getElem? (i := 183) rfl) rfl
theorem ml_X8_351 : Cond.methodLink RX8 351 yX2_knotsFor ∈ TB := tb_5 (List.mem_of_getElem? (i := 184) rfl) rfl
theorem im_X2_knotsFor : Cond.instanceMethod yX2_knotsFor ∈ TB := tb_5 (List.mem_of_getElem? (i := 185) rfl) rfl
theorem se_X2_X2_knotsFor : Cond.selects RX2 yX2_knotsFor yX2_knotsFor ∈ TB := tb_5 (List.mem_of_getElem? (i := 186) rfl) rfl
theorem co_X2_knotsFor : Cond.code yX2_knotsFor cX2_knotsFor 3 (some .int) ∈ TB := tb_5 (List.mem_of_getElem? (i := 187) rfl) rfl
theorem ml_L_183 : Cond.methodLink RL 183 yX8_spread ∈ TB := tb_5 (List.mem_of_getElem? (i := 188) rfl) rfl
theorem im_X8_spread : Cond.instanceMethod yX8_spread ∈ TB := tb_5 (List.mem_of_getElem? (i := 189) rfl) rfl
theorem se_X8_X8_spread : Cond.selects RX8 yX8_spread yX8_spread ∈ TB := tb_5 (List.mem_of_getElem? (i := 190) rfl) rfl
theorem co_X8_spread : Cond.code yX8_spread cX8_spread 4 (some .int) ∈ TB := tb_5 (List.mem_of_getElem? (i := 191) rfl) rfl
theorem ml_L_187 : Cond.methodLink RL 187 yX8_holds ∈ TB := tb_5 (List.mem_of_getElem? (i := 192) rfl) rfl
theorem im_X8_holds : Cond.instanceMethod yX8_holds ∈ TB := tb_5 (List.mem_of_getElem? (i := 193) rfl) rfl
theorem se_X8_X8_holds : Cond.selects RX8 yX8_holds yX8_holds ∈ TB := tb_5 (List.mem_of_getElem? (i := 194) rfl) rfl
theorem co_X8_holds : Cond.code yX8_holds cX8_holds 3 (some .boolean) ∈ TB := tb_5 (List.mem_of_getElem? (i := 195) rfl) rfl
theorem ml_X8_354 : Cond.methodLink RX8 354 yX3_holdsTop ∈ TB := tb_5 (List.mem_of_getElem? (i := 196) rfl) rfl
theorem im_X3_holdsTop : Cond.instanceMethod yX3_holdsTop ∈ TB := tb_5 (List.mem_of_getElem? (i := 197) rfl) rfl
theorem se_X3_X3_holdsTop : Cond.selects RX3 yX3_holdsTop yX3_holdsTop ∈ TB := tb_5 (List.mem_of_getElem? (i := 198) rfl) rfl
theorem co_X3_holdsTop : Cond.code yX3_holdsTop cX3_holdsTop 1 (some .long) ∈ TB := tb_5 (List.mem_of_getElem? (i := 199) rfl) rfl
theorem ml_X3_64 : Cond.methodLink RX3 64 yX3_power ∈ TB := tb_5 (List.mem_of_getElem? (i := 200) rfl) rfl
theorem sm_X3_power : Cond.static yX3_power ∈ TB := tb_5 (List.mem_of_getElem? (i := 201) rfl) rfl
theorem co_X3_power : Cond.code yX3_power cX3_power 5 (some .long) ∈ TB := tb_5 (List.mem_of_getElem? (i := 202) rfl) rfl
theorem ml_X8_358 : Cond.methodLink RX8 358 yX3_holdsBottom ∈ TB := tb_5 (List.mem_of_getElem? (i := 203) rfl) rfl
theorem im_X3_holdsBottom : Cond.instanceMethod yX3_holdsBottom ∈ TB := tb_5 (List.mem_of_getElem? (i := 204) rfl) rfl
theorem se_X3_X3_holdsBottom : Cond.selects RX3 yX3_holdsBottom yX3_holdsBottom ∈ TB := tb_5 (List.mem_of_getElem? (i := 205) rfl) rfl
theorem co_X3_holdsBottom : Cond.code yX3_holdsBottom cX3_holdsBottom 1 (some .long) ∈ TB := tb_5 (List.mem_of_getElem? (i := 206) rfl) rfl
theorem ml_L_191 : Cond.methodLink RL 191 yX8_best ∈ TB := tb_5 (List.mem_of_getElem? (i := 207) rfl) rfl
theorem im_X8_best : Cond.instanceMethod yX8_best ∈ TB := tb_5 (List.mem_of_getElem? (i := 208) rfl) rfl
theorem se_X8_X8_best : Cond.selects RX8 yX8_best yX8_best ∈ TB := tb_5 (List.mem_of_getElem? (i := 209) rfl) rfl
theorem co_X8_best : Cond.code yX8_best cX8_best 5 (some .int) ∈ TB := tb_5 (List.mem_of_getElem? (i := 210) rfl) rfl
theorem ml_X8_361 : Cond.methodLink RX8 361 yX7_servesFrom ∈ TB := tb_5 (List.mem_of_getElem? (i := 211) rfl) rfl
theorem ml_X8_365 : Cond.methodLink RX8 365 yX3_isSaferThan ∈ TB := tb_5 (List.mem_of_getElem? (i := 212) rfl) rfl
theorem im_X3_isSaferThan : Cond.instanceMethod yX3_isSaferThan ∈ TB := tb_5 (List.mem_of_getElem? (i := 213) rfl) rfl
theorem se_X3_X3_isSaferThan : Cond.selects RX3 yX3_isSaferThan yX3_isSaferThan ∈ TB := tb_5 (List.mem_of_getElem? (i := 214) rfl) rfl
theorem co_X3_isSaferThan : Cond.code yX3_isSaferThan cX3_isSaferThan 2 (some .boolean) ∈ TB := tb_5 (List.mem_of_getElem? (i := 215) rfl) rfl
theorem ml_X3_68 : Cond.methodLink RX3 68 yX3_holdsTop ∈ TB := tb_5 (List.mem_of_getElem? (i := 216) rfl) rfl
theorem ml_X3_72 : Cond.methodLink RX3 72 yX3_holdsBottom ∈ TB := tb_5 (List.mem_of_getElem? (i := 217) rfl) rfl
theorem ml_L_195 : Cond.methodLink RL 195 yX8_drawing ∈ TB := tb_5 (List.mem_of_getElem? (i := 218) rfl) rfl
theorem im_X8_drawing : Cond.instanceMethod yX8_drawing ∈ TB := tb_5 (List.mem_of_getElem? (i := 219) rfl) rfl
theorem se_X8_X8_drawing : Cond.selects RX8 yX8_drawing yX8_drawing ∈ TB := tb_5 (List.mem_of_getElem? (i := 220) rfl) rfl
theorem co_X8_drawing : Cond.code yX8_drawing cX8_drawing 3 (some .int) ∈ TB := tb_5 (List.mem_of_getElem? (i := 221) rfl) rfl
theorem ml_X8_369 : Cond.methodLink RX8 369 yX7_minutesOf ∈ TB := tb_5 (List.mem_of_getElem? (i := 222) rfl) rfl
theorem im_X7_minutesOf : Cond.instanceMethod yX7_minutesOf ∈ TB := tb_5 (List.mem_of_getElem? (i := 223) rfl) rfl
theorem se_X7_X7_minutesOf : Cond.selects RX7 yX7_minutesOf yX7_minutesOf ∈ TB := tb_5 (List.mem_of_getElem? (i := 224) rfl) rfl
theorem co_X7_minutesOf : Cond.code yX7_minutesOf cX7_minutesOf 5 (some .int) ∈ TB := tb_5 (List.mem_of_getElem? (i := 225) rfl) rfl
theorem ml_X7_137 : Cond.methodLink RX7 137 yX7_isDrinking ∈ TB := tb_5 (List.mem_of_getElem? (i := 226) rfl) rfl
theorem ml_L_199 : Cond.methodLink RL 199 yX8_waiting ∈ TB := tb_5 (List.mem_of_getElem? (i := 227) rfl) rfl
theorem im_X8_waiting : Cond.instanceMethod yX8_waiting ∈ TB := tb_5 (List.mem_of_getElem? (i := 228) rfl) rfl
theorem se_X8_X8_waiting : Cond.selects RX8 yX8_waiting yX8_waiting ∈ TB := tb_5 (List.mem_of_getElem? (i := 229) rfl) rfl
theorem co_X8_waiting : Cond.code yX8_waiting cX8_waiting 4 (some .int) ∈ TB := tb_5 (List.mem_of_getElem? (i := 230) rfl) rfl
theorem ml_X8_372 : Cond.methodLink RX8 372 yX8_queueStatus ∈ TB := tb_5 (List.mem_of_getElem? (i := 231) rfl) rfl
theorem im_X8_queueStatus : Cond.instanceMethod yX8_queueStatus ∈ TB := tb_5 (List.mem_of_getElem? (i := 233) rfl) rfl
theorem co_X8_queueStatus : Cond.code yX8_queueStatus cX8_queueStatus 5 (some .int) ∈ TB := tb_5 (List.mem_of_getElem? (i := 234) rfl) rfl
theorem ml_X8_381 : Cond.methodLink RX8 381 yX8_rowStatus ∈ TB := tb_5 (List.mem_of_getElem? (i := 235) rfl) rfl
theorem im_X8_rowStatus : Cond.instanceMethod yX8_rowStatus ∈ TB := tb_5 (List.mem_of_getElem? (i := 237) rfl) rfl
theorem co_X8_rowStatus : Cond.code yX8_rowStatus cX8_rowStatus 8 (some .int) ∈ TB := tb_5 (List.mem_of_getElem? (i := 238) rfl) rfl
theorem ml_X8_375 : Cond.methodLink RX8 375 yX8_waitTogether ∈ TB := tb_5 (List.mem_of_getElem? (i := 239) rfl) rfl
theorem im_X8_waitTogether : Cond.instanceMethod yX8_waitTogether ∈ TB := tb_6 (List.mem_of_getElem? (i := 1) rfl) rfl
theorem co_X8_waitTogether : Cond.code yX8_waitTogether cX8_waitTogether 5 (some .int) ∈ TB := tb_6 (List.mem_of_getElem? (i := 2) rfl) rfl
theorem ml_L_203 : Cond.methodLink RL 203 yX8_leastWaiting ∈ TB := tb_6 (List.mem_of_getElem? (i := 3) rfl) rfl
theorem im_X8_leastWaiting : Cond.instanceMethod yX8_leastWaiting ∈ TB := tb_6 (List.mem_of_getElem? (i := 4) rfl) rfl
theorem se_X8_X8_leastWaiting : Cond.selects RX8 yX8_leastWaiting yX8_leastWaiting ∈ TB := tb_6 (List.mem_of_getElem? (i := 5) rfl) rfl
theorem co_X8_leastWaiting : Cond.code yX8_leastWaiting cX8_leastWaiting 4 (some .int) ∈ TB := tb_6 (List.mem_of_getElem? (i := 6) rfl) rfl
theorem ml_X8_378 : Cond.methodLink RX8 378 yX8_sortMinutes ∈ TB := tb_6 (List.mem_of_getElem? (i := 7) rfl) rfl
theorem im_X8_sortMinutes : Cond.instanceMethod yX8_sortMinutes ∈ TB := tb_6 (List.mem_of_getElem? (i := 9) rfl) rfl
theorem co_X8_sortMinutes : Cond.code yX8_sortMinutes cX8_sortMinutes 5 none ∈ TB := tb_6 (List.mem_of_getElem? (i := 10) rfl) rfl
theorem ml_L_207 : Cond.methodLink RL 207 yX8_mark ∈ TB := tb_6 (List.mem_of_getElem? (i := 11) rfl) rfl
theorem im_X8_mark : Cond.instanceMethod yX8_mark ∈ TB := tb_6 (List.mem_of_getElem? (i := 12) rfl) rfl
theorem se_X8_X8_mark : Cond.selects RX8 yX8_mark yX8_mark ∈ TB := tb_6 (List.mem_of_getElem? (i := 13) rfl) rfl
theorem co_X8_mark : Cond.code yX8_mark cX8_mark 1 (some .int) ∈ TB := tb_6 (List.mem_of_getElem? (i := 14) rfl) rfl
theorem ml_L_211 : Cond.methodLink RL 211 yX8_back ∈ TB := tb_6 (List.mem_of_getElem? (i := 15) rfl) rfl
theorem im_X8_back : Cond.instanceMethod yX8_back ∈ TB := tb_6 (List.mem_of_getElem? (i := 16) rfl) rfl
theorem se_X8_X8_back : Cond.selects RX8 yX8_back yX8_back ∈ TB := tb_6 (List.mem_of_getElem? (i := 17) rfl) rfl
theorem co_X8_back : Cond.code yX8_back cX8_back 1 (some .int) ∈ TB := tb_6 (List.mem_of_getElem? (i := 18) rfl) rfl
theorem cl_L_10 : Cond.classLink RL 10 RX9 ∈ TB := tb_6 (List.mem_of_getElem? (i := 19) rfl) rfl
theorem it_X9 : Cond.instantiable RX9 33 ∈ TB := tb_6 (List.mem_of_getElem? (i := 20) rfl) rfl
theorem ml_L_12 : Cond.methodLink RL 12 yX9_init ∈ TB := tb_6 (List.mem_of_getElem? (i := 21) rfl) rfl
theorem im_X9_init : Cond.instanceMethod yX9_init ∈ TB := tb_6 (List.mem_of_getElem? (i := 22) rfl) rfl
theorem co_X9_init : Cond.code yX9_init cX9_init 2 none ∈ TB := tb_6 (List.mem_of_getElem? (i := 23) rfl) rfl
theorem ml_X9_1 : Cond.methodLink RX9 1 ⟨"java/lang/Object", "<init>", "()V"⟩ ∈ TB := tb_6 (List.mem_of_getElem? (i := 24) rfl) rfl
theorem ct_X9_51 : Cond.constant RX9 51 (36864) ∈ TB := tb_6 (List.mem_of_getElem? (i := 25) rfl) rfl
theorem ml_X9_58 : Cond.methodLink RX9 58 yX9_clear ∈ TB := tb_6 (List.mem_of_getElem? (i := 26) rfl) rfl
theorem im_X9_clear : Cond.instanceMethod yX9_clear ∈ TB := tb_6 (List.mem_of_getElem? (i := 28) rfl) rfl
theorem co_X9_clear : Cond.code yX9_clear cX9_clear 3 none ∈ TB := tb_6 (List.mem_of_getElem? (i := 29) rfl) rfl
theorem fl_X9_65 : Cond.fieldLink RX9 65 "WellHeirsModel" "status" "I" ∈ TB := tb_6 (List.mem_of_getElem? (i := 30) rfl) rfl
theorem fl_X9_62 : Cond.fieldLink RX9 62 "WellHeirsModel" "thrown" "I" ∈ TB := tb_6 (List.mem_of_getElem? (i := 31) rfl) rfl
theorem fl_X9_68 : Cond.fieldLink RX9 68 "WellHeirsModel" "above" "J" ∈ TB := tb_6 (List.mem_of_getElem? (i := 32) rfl) rfl
theorem fl_X9_7 : Cond.fieldLink RX9 7 "WellHeirsModel" "under" "J" ∈ TB := tb_6 (List.mem_of_getElem? (i := 33) rfl) rfl
theorem fl_X9_13 : Cond.fieldLink RX9 13 "WellHeirsModel" "traySort" "[I" ∈ TB := tb_6 (List.mem_of_getElem? (i := 34) rfl) rfl
theorem fl_X9_17 : Cond.fieldLink RX9 17 "WellHeirsModel" "trayMany" "[I" ∈ TB := tb_6 (List.mem_of_getElem? (i := 35) rfl) rfl
theorem fl_X9_20 : Cond.fieldLink RX9 20 "WellHeirsModel" "numbers" "[J" ∈ TB := tb_6 (List.mem_of_getElem? (i := 36) rfl) rfl
theorem fl_X9_24 : Cond.fieldLink RX9 24 "WellHeirsModel" "tape" "[B" ∈ TB := tb_6 (List.mem_of_getElem? (i := 37) rfl) rfl
theorem fl_X9_237 : Cond.fieldLink RX9 237 "WellHeirsModel" "taped" "I" ∈ TB := tb_6 (List.mem_of_getElem? (i := 38) rfl) rfl
theorem fl_X9_101 : Cond.fieldLink RX9 101 "WellHeirsModel" "textEnd" "I" ∈ TB := tb_6 (List.mem_of_getElem? (i := 39) rfl) rfl
theorem fl_X9_28 : Cond.fieldLink RX9 28 "WellHeirsModel" "faultKind" "I" ∈ TB := tb_6 (List.mem_of_getElem? (i := 40) rfl) rfl
theorem fl_X9_32 : Cond.fieldLink RX9 32 "WellHeirsModel" "faultAt" "I" ∈ TB := tb_6 (List.mem_of_getElem? (i := 41) rfl) rfl
theorem fl_X9_221 : Cond.fieldLink RX9 221 "WellHeirsModel" "bad" "I" ∈ TB := tb_6 (List.mem_of_getElem? (i := 42) rfl) rfl
theorem fl_X9_224 : Cond.fieldLink RX9 224 "WellHeirsModel" "badAt" "I" ∈ TB := tb_6 (List.mem_of_getElem? (i := 43) rfl) rfl
theorem fl_X9_113 : Cond.fieldLink RX9 113 "WellHeirsModel" "token" "I" ∈ TB := tb_6 (List.mem_of_getElem? (i := 44) rfl) rfl
theorem fl_X9_107 : Cond.fieldLink RX9 107 "WellHeirsModel" "at" "I" ∈ TB := tb_6 (List.mem_of_getElem? (i := 45) rfl) rfl
theorem fl_X9_104 : Cond.fieldLink RX9 104 "WellHeirsModel" "behind" "I" ∈ TB := tb_6 (List.mem_of_getElem? (i := 46) rfl) rfl
theorem fl_X9_132 : Cond.fieldLink RX9 132 "WellHeirsModel" "number" "I" ∈ TB := tb_6 (List.mem_of_getElem? (i := 47) rfl) rfl
theorem fl_X9_126 : Cond.fieldLink RX9 126 "WellHeirsModel" "letters" "I" ∈ TB := tb_6 (List.mem_of_getElem? (i := 48) rfl) rfl
theorem fl_X9_291 : Cond.fieldLink RX9 291 "WellHeirsModel" "ruleEnd" "I" ∈ TB := tb_6 (List.mem_of_getElem? (i := 49) rfl) rfl
theorem fl_X9_294 : Cond.fieldLink RX9 294 "WellHeirsModel" "cases" "I" ∈ TB := tb_6 (List.mem_of_getElem? (i := 50) rfl) rfl
theorem fl_X9_249 : Cond.fieldLink RX9 249 "WellHeirsModel" "ropesRead" "I" ∈ TB := tb_6 (List.mem_of_getElem? (i := 51) rfl) rfl
theorem fl_X9_119 : Cond.fieldLink RX9 119 "WellHeirsModel" "word" "J" ∈ TB := tb_6 (List.mem_of_getElem? (i := 52) rfl) rfl
theorem fl_X9_256 : Cond.fieldLink RX9 256 "WellHeirsModel" "hasWater" "Z" ∈ TB := tb_6 (List.mem_of_getElem? (i := 53) rfl) rfl
theorem fl_X9_35 : Cond.fieldLink RX9 35 "WellHeirsModel" "c" "[I" ∈ TB := tb_6 (List.mem_of_getElem? (i := 54) rfl) rfl
theorem fl_X9_38 : Cond.fieldLink RX9 38 "WellHeirsModel" "kept" "[I" ∈ TB := tb_6 (List.mem_of_getElem? (i := 55) rfl) rfl
theorem fl_X9_41 : Cond.fieldLink RX9 41 "WellHeirsModel" "words" "[J" ∈ TB := tb_6 (List.mem_of_getElem? (i := 56) rfl) rfl
theorem fl_X9_44 : Cond.fieldLink RX9 44 "WellHeirsModel" "stack" "[Z" ∈ TB := tb_6 (List.mem_of_getElem? (i := 57) rfl) rfl
theorem fl_X9_485 : Cond.fieldLink RX9 485 "WellHeirsModel" "markMany" "I" ∈ TB := tb_6 (List.mem_of_getElem? (i := 58) rfl) rfl
theorem fl_X9_48 : Cond.fieldLink RX9 48 "WellHeirsModel" "knotsOf" "[I" ∈ TB := tb_6 (List.mem_of_getElem? (i := 59) rfl) rfl
theorem fl_X9_52 : Cond.fieldLink RX9 52 "WellHeirsModel" "served" "[I" ∈ TB := tb_6 (List.mem_of_getElem? (i := 60) rfl) rfl
theorem fl_X9_310 : Cond.fieldLink RX9 310 "WellHeirsModel" "rulesRead" "I" ∈ TB := tb_6 (List.mem_of_getElem? (i := 61) rfl) rfl
theorem fl_X9_55 : Cond.fieldLink RX9 55 "WellHeirsModel" "queue" "[I" ∈ TB := tb_6 (List.mem_of_getElem? (i := 62) rfl) rfl
theorem ly_X9_status : Cond.lays RX9 "WellHeirsModel" "status" "I" ∈ TB := tb_6 (List.mem_of_getElem? (i := 63) rfl) rfl
theorem ly_X9_thrown : Cond.lays RX9 "WellHeirsModel" "thrown" "I" ∈ TB := tb_6 (List.mem_of_getElem? (i := 65) rfl) rfl
theorem ly_X9_above : Cond.lays RX9 "WellHeirsModel" "above" "J" ∈ TB := tb_6 (List.mem_of_getElem? (i := 67) rfl) rfl
theorem ly_X9_under : Cond.lays RX9 "WellHeirsModel" "under" "J" ∈ TB := tb_6 (List.mem_of_getElem? (i := 69) rfl) rfl
theorem ly_X9_traySort : Cond.laysFinal RX9 "WellHeirsModel" "traySort" "[I" ∈ TB := tb_6 (List.mem_of_getElem? (i := 71) rfl) rfl
theorem ly_X9_trayMany : Cond.laysFinal RX9 "WellHeirsModel" "trayMany" "[I" ∈ TB := tb_6 (List.mem_of_getElem? (i := 73) rfl) rfl
theorem ly_X9_numbers : Cond.laysFinal RX9 "WellHeirsModel" "numbers" "[J" ∈ TB := tb_6 (List.mem_of_getElem? (i := 75) rfl) rfl
theorem ly_X9_tape : Cond.laysFinal RX9 "WellHeirsModel" "tape" "[B" ∈ TB := tb_6 (List.mem_of_getElem? (i := 77) rfl) rfl
theorem ly_X9_taped : Cond.lays RX9 "WellHeirsModel" "taped" "I" ∈ TB := tb_6 (List.mem_of_getElem? (i := 79) rfl) rfl
theorem ly_X9_textEnd : Cond.lays RX9 "WellHeirsModel" "textEnd" "I" ∈ TB := tb_6 (List.mem_of_getElem? (i := 81) rfl) rfl
theorem ly_X9_faultKind : Cond.lays RX9 "WellHeirsModel" "faultKind" "I" ∈ TB := tb_6 (List.mem_of_getElem? (i := 83) rfl) rfl
theorem ly_X9_faultAt : Cond.lays RX9 "WellHeirsModel" "faultAt" "I" ∈ TB := tb_6 (List.mem_of_getElem? (i := 85) rfl) rfl
theorem ly_X9_bad : Cond.lays RX9 "WellHeirsModel" "bad" "I" ∈ TB := tb_6 (List.mem_of_getElem? (i := 87) rfl) rfl
theorem ly_X9_badAt : Cond.lays RX9 "WellHeirsModel" "badAt" "I" ∈ TB := tb_6 (List.mem_of_getElem? (i := 89) rfl) rfl
theorem ly_X9_token : Cond.lays RX9 "WellHeirsModel" "token" "I" ∈ TB := tb_6 (List.mem_of_getElem? (i := 91) rfl) rfl
theorem ly_X9_at : Cond.lays RX9 "WellHeirsModel" "at" "I" ∈ TB := tb_6 (List.mem_of_getElem? (i := 93) rfl) rfl
theorem ly_X9_behind : Cond.lays RX9 "WellHeirsModel" "behind" "I" ∈ TB := tb_6 (List.mem_of_getElem? (i := 95) rfl) rfl
theorem ly_X9_number : Cond.lays RX9 "WellHeirsModel" "number" "I" ∈ TB := tb_6 (List.mem_of_getElem? (i := 97) rfl) rfl
theorem ly_X9_letters : Cond.lays RX9 "WellHeirsModel" "letters" "I" ∈ TB := tb_6 (List.mem_of_getElem? (i := 99) rfl) rfl
theorem ly_X9_ruleEnd : Cond.lays RX9 "WellHeirsModel" "ruleEnd" "I" ∈ TB := tb_6 (List.mem_of_getElem? (i := 101) rfl) rfl
theorem ly_X9_cases : Cond.lays RX9 "WellHeirsModel" "cases" "I" ∈ TB := tb_6 (List.mem_of_getElem? (i := 103) rfl) rfl
theorem ly_X9_ropesRead : Cond.lays RX9 "WellHeirsModel" "ropesRead" "I" ∈ TB := tb_6 (List.mem_of_getElem? (i := 105) rfl) rfl
theorem ly_X9_word : Cond.lays RX9 "WellHeirsModel" "word" "J" ∈ TB := tb_6 (List.mem_of_getElem? (i := 107) rfl) rfl
theorem ly_X9_hasWater : Cond.lays RX9 "WellHeirsModel" "hasWater" "Z" ∈ TB := tb_6 (List.mem_of_getElem? (i := 109) rfl) rfl
theorem ly_X9_c : Cond.laysFinal RX9 "WellHeirsModel" "c" "[I" ∈ TB := tb_6 (List.mem_of_getElem? (i := 111) rfl) rfl
theorem ly_X9_kept : Cond.laysFinal RX9 "WellHeirsModel" "kept" "[I" ∈ TB := tb_6 (List.mem_of_getElem? (i := 113) rfl) rfl
theorem ly_X9_words : Cond.laysFinal RX9 "WellHeirsModel" "words" "[J" ∈ TB := tb_6 (List.mem_of_getElem? (i := 115) rfl) rfl
theorem ly_X9_stack : Cond.laysFinal RX9 "WellHeirsModel" "stack" "[Z" ∈ TB := tb_6 (List.mem_of_getElem? (i := 117) rfl) rfl
theorem ly_X9_markMany : Cond.lays RX9 "WellHeirsModel" "markMany" "I" ∈ TB := tb_6 (List.mem_of_getElem? (i := 119) rfl) rfl
theorem ly_X9_knotsOf : Cond.laysFinal RX9 "WellHeirsModel" "knotsOf" "[I" ∈ TB := tb_6 (List.mem_of_getElem? (i := 121) rfl) rfl
theorem ly_X9_served : Cond.laysFinal RX9 "WellHeirsModel" "served" "[I" ∈ TB := tb_6 (List.mem_of_getElem? (i := 123) rfl) rfl
theorem ly_X9_rulesRead : Cond.lays RX9 "WellHeirsModel" "rulesRead" "I" ∈ TB := tb_6 (List.mem_of_getElem? (i := 125) rfl) rfl
theorem ly_X9_queue : Cond.laysFinal RX9 "WellHeirsModel" "queue" "[I" ∈ TB := tb_6 (List.mem_of_getElem? (i := 127) rfl) rfl
theorem ac_boolean : Cond.arrayClass .boolean ∈ TB := tb_6 (List.mem_of_getElem? (i := 130) rfl) rfl
theorem ml_L_17 : Cond.methodLink RL 17 yX9_status ∈ TB := tb_6 (List.mem_of_getElem? (i := 131) rfl) rfl
theorem im_X9_status : Cond.instanceMethod yX9_status ∈ TB := tb_6 (List.mem_of_getElem? (i := 132) rfl) rfl
theorem se_X9_X9_status : Cond.selects RX9 yX9_status yX9_status ∈ TB := tb_6 (List.mem_of_getElem? (i := 133) rfl) rfl
theorem co_X9_status : Cond.code yX9_status cX9_status 1 (some .int) ∈ TB := tb_6 (List.mem_of_getElem? (i := 134) rfl) rfl
theorem ml_L_22 : Cond.methodLink RL 22 yX9_top ∈ TB := tb_6 (List.mem_of_getElem? (i := 135) rfl) rfl
theorem im_X9_top : Cond.instanceMethod yX9_top ∈ TB := tb_6 (List.mem_of_getElem? (i := 136) rfl) rfl
theorem se_X9_X9_top : Cond.selects RX9 yX9_top yX9_top ∈ TB := tb_6 (List.mem_of_getElem? (i := 137) rfl) rfl
theorem co_X9_top : Cond.code yX9_top cX9_top 1 (some .long) ∈ TB := tb_6 (List.mem_of_getElem? (i := 138) rfl) rfl
theorem ml_L_26 : Cond.methodLink RL 26 yX9_bottom ∈ TB := tb_6 (List.mem_of_getElem? (i := 139) rfl) rfl
theorem im_X9_bottom : Cond.instanceMethod yX9_bottom ∈ TB := tb_6 (List.mem_of_getElem? (i := 140) rfl) rfl
theorem se_X9_X9_bottom : Cond.selects RX9 yX9_bottom yX9_bottom ∈ TB := tb_6 (List.mem_of_getElem? (i := 141) rfl) rfl
theorem co_X9_bottom : Cond.code yX9_bottom cX9_bottom 1 (some .long) ∈ TB := tb_6 (List.mem_of_getElem? (i := 142) rfl) rfl
theorem ml_L_31 : Cond.methodLink RL 31 yX9_tray ∈ TB := tb_6 (List.mem_of_getElem? (i := 143) rfl) rfl
theorem im_X9_tray : Cond.instanceMethod yX9_tray ∈ TB := tb_6 (List.mem_of_getElem? (i := 144) rfl) rfl
theorem se_X9_X9_tray : Cond.selects RX9 yX9_tray yX9_tray ∈ TB := tb_6 (List.mem_of_getElem? (i := 145) rfl) rfl
theorem co_X9_tray : Cond.code yX9_tray cX9_tray 5 (some .boolean) ∈ TB := tb_6 (List.mem_of_getElem? (i := 146) rfl) rfl
theorem ml_X9_77 : Cond.methodLink RX9 77 yX9_no ∈ TB := tb_6 (List.mem_of_getElem? (i := 147) rfl) rfl
theorem im_X9_no : Cond.instanceMethod yX9_no ∈ TB := tb_6 (List.mem_of_getElem? (i := 149) rfl) rfl
theorem co_X9_no : Cond.code yX9_no cX9_no 2 (some .boolean) ∈ TB := tb_6 (List.mem_of_getElem? (i := 150) rfl) rfl
theorem ml_L_38 : Cond.methodLink RL 38 yX9_write ∈ TB := tb_6 (List.mem_of_getElem? (i := 151) rfl) rfl
theorem im_X9_write : Cond.instanceMethod yX9_write ∈ TB := tb_6 (List.mem_of_getElem? (i := 152) rfl) rfl
theorem se_X9_X9_write : Cond.selects RX9 yX9_write yX9_write ∈ TB := tb_6 (List.mem_of_getElem? (i := 153) rfl) rfl
theorem co_X9_write : Cond.code yX9_write cX9_write 5 (some .boolean) ∈ TB := tb_6 (List.mem_of_getElem? (i := 154) rfl) rfl
theorem ml_X9_85 : Cond.methodLink RX9 85 yX9_placed ∈ TB := tb_6 (List.mem_of_getElem? (i := 155) rfl) rfl
theorem im_X9_placed : Cond.instanceMethod yX9_placed ∈ TB := tb_6 (List.mem_of_getElem? (i := 157) rfl) rfl
theorem co_X9_placed : Cond.code yX9_placed cX9_placed 4 (some .int) ∈ TB := tb_6 (List.mem_of_getElem? (i := 158) rfl) rfl
theorem ml_X9_81 : Cond.methodLink RX9 81 yX9_trayed ∈ TB := tb_6 (List.mem_of_getElem? (i := 159) rfl) rfl
theorem im_X9_trayed : Cond.instanceMethod yX9_trayed ∈ TB := tb_6 (List.mem_of_getElem? (i := 161) rfl) rfl
theorem co_X9_trayed : Cond.code yX9_trayed cX9_trayed 2 (some .int) ∈ TB := tb_6 (List.mem_of_getElem? (i := 162) rfl) rfl
theorem ml_X9_89 : Cond.methodLink RX9 89 yX9_cut ∈ TB := tb_6 (List.mem_of_getElem? (i := 163) rfl) rfl
theorem sm_X9_cut : Cond.static yX9_cut ∈ TB := tb_6 (List.mem_of_getElem? (i := 164) rfl) rfl
theorem co_X9_cut : Cond.code yX9_cut cX9_cut 3 (some .long) ∈ TB := tb_6 (List.mem_of_getElem? (i := 165) rfl) rfl
theorem ml_L_43 : Cond.methodLink RL 43 yX9_read ∈ TB := tb_6 (List.mem_of_getElem? (i := 166) rfl) rfl
theorem im_X9_read : Cond.instanceMethod yX9_read ∈ TB := tb_6 (List.mem_of_getElem? (i := 167) rfl) rfl
theorem se_X9_X9_read : Cond.selects RX9 yX9_read yX9_read ∈ TB := tb_6 (List.mem_of_getElem? (i := 168) rfl) rfl
theorem co_X9_read : Cond.code yX9_read cX9_read 3 (some .long) ∈ TB := tb_6 (List.mem_of_getElem? (i := 169) rfl) rfl
theorem cu_X9_93 : Cond.constantLong RX9 93 (-1) ∈ TB := tb_6 (List.mem_of_getElem? (i := 170) rfl) rfl
theorem ml_L_48 : Cond.methodLink RL 48 yX9_pour ∈ TB := tb_6 (List.mem_of_getElem? (i := 171) rfl) rfl
theorem im_X9_pour : Cond.instanceMethod yX9_pour ∈ TB := tb_6 (List.mem_of_getElem? (i := 172) rfl) rfl
theorem se_X9_X9_pour : Cond.selects RX9 yX9_pour yX9_pour ∈ TB := tb_6 (List.mem_of_getElem? (i := 173) rfl) rfl
theorem co_X9_pour : Cond.code yX9_pour cX9_pour 9 (some .boolean) ∈ TB := tb_6 (List.mem_of_getElem? (i := 174) rfl) rfl
theorem ml_L_53 : Cond.methodLink RL 53 yX9_feed ∈ TB := tb_6 (List.mem_of_getElem? (i := 175) rfl) rfl
theorem im_X9_feed : Cond.instanceMethod yX9_feed ∈ TB := tb_6 (List.mem_of_getElem? (i := 176) rfl) rfl
theorem se_X9_X9_feed : Cond.selects RX9 yX9_feed yX9_feed ∈ TB := tb_6 (List.mem_of_getElem? (i := 177) rfl) rfl
theorem co_X9_feed : Cond.code yX9_feed cX9_feed 6 (some .int) ∈ TB := tb_6 (List.mem_of_getElem? (i := 178) rfl) rfl
theorem ml_X9_240 : Cond.methodLink RX9 240 yX9_lay ∈ TB := tb_6 (List.mem_of_getElem? (i := 179) rfl) rfl
theorem im_X9_lay : Cond.instanceMethod yX9_lay ∈ TB := tb_6 (List.mem_of_getElem? (i := 181) rfl) rfl
theorem co_X9_lay : Cond.code yX9_lay cX9_lay 3 none ∈ TB := tb_6 (List.mem_of_getElem? (i := 182) rfl) rfl
theorem ml_L_66 : Cond.methodLink RL 66 yX9_fault ∈ TB := tb_6 (List.mem_of_getElem? (i := 183) rfl) rfl
theorem im_X9_fault : Cond.instanceMethod yX9_fault ∈ TB := tb_6 (List.mem_of_getElem? (i := 184) rfl) rfl
theorem se_X9_X9_fault : Cond.selects RX9 yX9_fault yX9_fault ∈ TB := tb_6 (List.mem_of_getElem? (i := 185) rfl) rfl
theorem co_X9_fault : Cond.code yX9_fault cX9_fault 2 (some .int) ∈ TB := tb_6 (List.mem_of_getElem? (i := 186) rfl) rfl
theorem ml_L_58 : Cond.methodLink RL 58 yX9_well ∈ TB := tb_6 (List.mem_of_getElem? (i := 187) rfl) rfl
theorem im_X9_well : Cond.instanceMethod yX9_well ∈ TB := tb_6 (List.mem_of_getElem? (i := 188) rfl) rfl
theorem se_X9_X9_well : Cond.selects RX9 yX9_well yX9_well ∈ TB := tb_6 (List.mem_of_getElem? (i := 189) rfl) rfl
theorem co_X9_well : Cond.code yX9_well cX9_well 3 (some .int) ∈ TB := tb_6 (List.mem_of_getElem? (i := 190) rfl) rfl
theorem ml_X9_269 : Cond.methodLink RX9 269 yX9_opens ∈ TB := tb_6 (List.mem_of_getElem? (i := 191) rfl) rfl
theorem im_X9_opens : Cond.instanceMethod yX9_opens ∈ TB := tb_6 (List.mem_of_getElem? (i := 193) rfl) rfl
theorem co_X9_opens : Cond.code yX9_opens cX9_opens 3 (some .boolean) ∈ TB := tb_6 (List.mem_of_getElem? (i := 194) rfl) rfl
theorem ml_X9_231 : Cond.methodLink RX9 231 yX9_next ∈ TB := tb_6 (List.mem_of_getElem? (i := 195) rfl) rfl
theorem im_X9_next : Cond.instanceMethod yX9_next ∈ TB := tb_6 (List.mem_of_getElem? (i := 197) rfl) rfl
theorem co_X9_next : Cond.code yX9_next cX9_next 2 none ∈ TB := tb_6 (List.mem_of_getElem? (i := 198) rfl) rfl
theorem ml_X9_110 : Cond.methodLink RX9 110 yX9_look2 ∈ TB := tb_6 (List.mem_of_getElem? (i := 199) rfl) rfl
theorem im_X9_look2 : Cond.instanceMethod yX9_look2 ∈ TB := tb_6 (List.mem_of_getElem? (i := 201) rfl) rfl
theorem co_X9_look2 : Cond.code yX9_look2 cX9_look2 2 (some .int) ∈ TB := tb_6 (List.mem_of_getElem? (i := 202) rfl) rfl
theorem ml_X9_116 : Cond.methodLink RX9 116 yX9_isLetter ∈ TB := tb_6 (List.mem_of_getElem? (i := 203) rfl) rfl
theorem sm_X9_isLetter : Cond.static yX9_isLetter ∈ TB := tb_6 (List.mem_of_getElem? (i := 204) rfl) rfl
theorem co_X9_isLetter : Cond.code yX9_isLetter cX9_isLetter 1 (some .boolean) ∈ TB := tb_6 (List.mem_of_getElem? (i := 205) rfl) rfl
theorem cu_X9_122 : Cond.constantLong RX9 122 (32) ∈ TB := tb_6 (List.mem_of_getElem? (i := 206) rfl) rfl
theorem cu_X9_124 : Cond.constantLong RX9 124 (96) ∈ TB := tb_6 (List.mem_of_getElem? (i := 207) rfl) rfl
theorem ml_X9_129 : Cond.methodLink RX9 129 yX9_isDigit ∈ TB := tb_6 (List.mem_of_getElem? (i := 208) rfl) rfl
theorem sm_X9_isDigit : Cond.static yX9_isDigit ∈ TB := tb_6 (List.mem_of_getElem? (i := 209) rfl) rfl
theorem co_X9_isDigit : Cond.code yX9_isDigit cX9_isDigit 1 (some .boolean) ∈ TB := tb_6 (List.mem_of_getElem? (i := 210) rfl) rfl
theorem ml_X9_135 : Cond.methodLink RX9 135 yX9_isSignByte ∈ TB := tb_6 (List.mem_of_getElem? (i := 211) rfl) rfl
theorem im_X9_isSignByte : Cond.instanceMethod yX9_isSignByte ∈ TB := tb_6 (List.mem_of_getElem? (i := 213) rfl) rfl
theorem co_X9_isSignByte : Cond.code yX9_isSignByte cX9_isSignByte 2 (some .boolean) ∈ TB := tb_6 (List.mem_of_getElem? (i := 214) rfl) rfl
theorem ml_X9_160 : Cond.methodLink RX9 160 yX9_isWater ∈ TB := tb_6 (List.mem_of_getElem? (i := 215) rfl) rfl
theorem im_X9_isWater : Cond.instanceMethod yX9_isWater ∈ TB := tb_6 (List.mem_of_getElem? (i := 217) rfl) rfl
theorem co_X9_isWater : Cond.code yX9_isWater cX9_isWater 1 (some .boolean) ∈ TB := tb_6 (List.mem_of_getElem? (i := 218) rfl) rfl
theorem ml_X9_138 : Cond.methodLink RX9 138 yX9_spelled ∈ TB := tb_6 (List.mem_of_getElem? (i := 219) rfl) rfl
theorem sm_X9_spelled : Cond.static yX9_spelled ∈ TB := tb_6 (List.mem_of_getElem? (i := 220) rfl) rfl
theorem co_X9_spelled : Cond.code yX9_spelled cX9_spelled 8 (some .long) ∈ TB := tb_6 (List.mem_of_getElem? (i := 221) rfl) rfl
theorem ml_X9_142 : Cond.methodLink RX9 142 yX9_isWord ∈ TB := tb_6 (List.mem_of_getElem? (i := 222) rfl) rfl
theorem im_X9_isWord : Cond.instanceMethod yX9_isWord ∈ TB := tb_6 (List.mem_of_getElem? (i := 224) rfl) rfl
theorem co_X9_isWord : Cond.code yX9_isWord cX9_isWord 3 (some .boolean) ∈ TB := tb_6 (List.mem_of_getElem? (i := 225) rfl) rfl
theorem ml_X9_273 : Cond.methodLink RX9 273 yX9_readWater ∈ TB := tb_6 (List.mem_of_getElem? (i := 226) rfl) rfl
theorem im_X9_readWater : Cond.instanceMethod yX9_readWater ∈ TB := tb_6 (List.mem_of_getElem? (i := 228) rfl) rfl
theorem co_X9_readWater : Cond.code yX9_readWater cX9_readWater 1 none ∈ TB := tb_6 (List.mem_of_getElem? (i := 229) rfl) rfl
theorem ml_X9_227 : Cond.methodLink RX9 227 yX9_fail ∈ TB := tb_6 (List.mem_of_getElem? (i := 230) rfl) rfl
theorem im_X9_fail : Cond.instanceMethod yX9_fail ∈ TB := tb_6 (List.mem_of_getElem? (i := 232) rfl) rfl
theorem co_X9_fail : Cond.code yX9_fail cX9_fail 3 none ∈ TB := tb_6 (List.mem_of_getElem? (i := 233) rfl) rfl
theorem ml_X9_260 : Cond.methodLink RX9 260 yX9_count ∈ TB := tb_6 (List.mem_of_getElem? (i := 234) rfl) rfl
theorem im_X9_count : Cond.instanceMethod yX9_count ∈ TB := tb_6 (List.mem_of_getElem? (i := 236) rfl) rfl
theorem co_X9_count : Cond.code yX9_count cX9_count 4 (some .int) ∈ TB := tb_6 (List.mem_of_getElem? (i := 237) rfl) rfl
theorem ml_X9_234 : Cond.methodLink RX9 234 yX9_wrong ∈ TB := tb_6 (List.mem_of_getElem? (i := 238) rfl) rfl
theorem im_X9_wrong : Cond.instanceMethod yX9_wrong ∈ TB := tb_7 (List.mem_of_getElem? (i := 0) rfl) rfl
theorem co_X9_wrong : Cond.code yX9_wrong cX9_wrong 1 none ∈ TB := tb_7 (List.mem_of_getElem? (i := 1) rfl) rfl
theorem ml_X9_97 : Cond.methodLink RX9 97 yX9_isIn ∈ TB := tb_7 (List.mem_of_getElem? (i := 2) rfl) rfl
theorem sm_X9_isIn : Cond.static yX9_isIn ∈ TB := tb_7 (List.mem_of_getElem? (i := 3) rfl) rfl
theorem co_X9_isIn : Cond.code yX9_isIn cX9_isIn 6 (some .boolean) ∈ TB := tb_7 (List.mem_of_getElem? (i := 4) rfl) rfl
theorem ml_X9_163 : Cond.methodLink RX9 163 yX9_isBottom ∈ TB := tb_7 (List.mem_of_getElem? (i := 5) rfl) rfl
theorem im_X9_isBottom : Cond.instanceMethod yX9_isBottom ∈ TB := tb_7 (List.mem_of_getElem? (i := 7) rfl) rfl
theorem co_X9_isBottom : Cond.code yX9_isBottom cX9_isBottom 1 (some .boolean) ∈ TB := tb_7 (List.mem_of_getElem? (i := 8) rfl) rfl
theorem ml_X9_252 : Cond.methodLink RX9 252 yX9_must ∈ TB := tb_7 (List.mem_of_getElem? (i := 9) rfl) rfl
theorem im_X9_must : Cond.instanceMethod yX9_must ∈ TB := tb_7 (List.mem_of_getElem? (i := 11) rfl) rfl
theorem co_X9_must : Cond.code yX9_must cX9_must 2 none ∈ TB := tb_7 (List.mem_of_getElem? (i := 12) rfl) rfl
theorem ml_X9_166 : Cond.methodLink RX9 166 yX9_isSinks ∈ TB := tb_7 (List.mem_of_getElem? (i := 13) rfl) rfl
theorem im_X9_isSinks : Cond.instanceMethod yX9_isSinks ∈ TB := tb_7 (List.mem_of_getElem? (i := 15) rfl) rfl
theorem co_X9_isSinks : Cond.code yX9_isSinks cX9_isSinks 1 (some .boolean) ∈ TB := tb_7 (List.mem_of_getElem? (i := 16) rfl) rfl
theorem ml_X9_169 : Cond.methodLink RX9 169 yX9_isRain ∈ TB := tb_7 (List.mem_of_getElem? (i := 17) rfl) rfl
theorem im_X9_isRain : Cond.instanceMethod yX9_isRain ∈ TB := tb_7 (List.mem_of_getElem? (i := 19) rfl) rfl
theorem co_X9_isRain : Cond.code yX9_isRain cX9_isRain 1 (some .boolean) ∈ TB := tb_7 (List.mem_of_getElem? (i := 20) rfl) rfl
theorem ml_X9_172 : Cond.methodLink RX9 172 yX9_isBy ∈ TB := tb_7 (List.mem_of_getElem? (i := 21) rfl) rfl
theorem im_X9_isBy : Cond.instanceMethod yX9_isBy ∈ TB := tb_7 (List.mem_of_getElem? (i := 23) rfl) rfl
theorem co_X9_isBy : Cond.code yX9_isBy cX9_isBy 1 (some .boolean) ∈ TB := tb_7 (List.mem_of_getElem? (i := 24) rfl) rfl
theorem ml_X9_175 : Cond.methodLink RX9 175 yX9_isPersonWord ∈ TB := tb_7 (List.mem_of_getElem? (i := 25) rfl) rfl
theorem im_X9_isPersonWord : Cond.instanceMethod yX9_isPersonWord ∈ TB := tb_7 (List.mem_of_getElem? (i := 27) rfl) rfl
theorem co_X9_isPersonWord : Cond.code yX9_isPersonWord cX9_isPersonWord 1 (some .boolean) ∈ TB := tb_7 (List.mem_of_getElem? (i := 28) rfl) rfl
theorem ml_X9_276 : Cond.methodLink RX9 276 yX9_readPerson ∈ TB := tb_7 (List.mem_of_getElem? (i := 29) rfl) rfl
theorem im_X9_readPerson : Cond.instanceMethod yX9_readPerson ∈ TB := tb_7 (List.mem_of_getElem? (i := 31) rfl) rfl
theorem co_X9_readPerson : Cond.code yX9_readPerson cX9_readPerson 2 none ∈ TB := tb_7 (List.mem_of_getElem? (i := 32) rfl) rfl
theorem ml_X9_263 : Cond.methodLink RX9 263 yX9_readNew ∈ TB := tb_7 (List.mem_of_getElem? (i := 33) rfl) rfl
theorem im_X9_readNew : Cond.instanceMethod yX9_readNew ∈ TB := tb_7 (List.mem_of_getElem? (i := 35) rfl) rfl
theorem co_X9_readNew : Cond.code yX9_readNew cX9_readNew 3 none ∈ TB := tb_7 (List.mem_of_getElem? (i := 36) rfl) rfl
theorem ml_X9_243 : Cond.methodLink RX9 243 yX9_isName ∈ TB := tb_7 (List.mem_of_getElem? (i := 37) rfl) rfl
theorem im_X9_isName : Cond.instanceMethod yX9_isName ∈ TB := tb_7 (List.mem_of_getElem? (i := 39) rfl) rfl
theorem co_X9_isName : Cond.code yX9_isName cX9_isName 1 (some .boolean) ∈ TB := tb_7 (List.mem_of_getElem? (i := 40) rfl) rfl
theorem ml_X9_218 : Cond.methodLink RX9 218 yX9_isKept ∈ TB := tb_7 (List.mem_of_getElem? (i := 41) rfl) rfl
theorem im_X9_isKept : Cond.instanceMethod yX9_isKept ∈ TB := tb_7 (List.mem_of_getElem? (i := 43) rfl) rfl
theorem co_X9_isKept : Cond.code yX9_isKept cX9_isKept 1 (some .boolean) ∈ TB := tb_7 (List.mem_of_getElem? (i := 44) rfl) rfl
theorem ml_X9_178 : Cond.methodLink RX9 178 yX9_isOf ∈ TB := tb_7 (List.mem_of_getElem? (i := 45) rfl) rfl
theorem im_X9_isOf : Cond.instanceMethod yX9_isOf ∈ TB := tb_7 (List.mem_of_getElem? (i := 47) rfl) rfl
theorem co_X9_isOf : Cond.code yX9_isOf cX9_isOf 1 (some .boolean) ∈ TB := tb_7 (List.mem_of_getElem? (i := 48) rfl) rfl
theorem ml_X9_181 : Cond.methodLink RX9 181 yX9_isDies ∈ TB := tb_7 (List.mem_of_getElem? (i := 49) rfl) rfl
theorem im_X9_isDies : Cond.instanceMethod yX9_isDies ∈ TB := tb_7 (List.mem_of_getElem? (i := 51) rfl) rfl
theorem co_X9_isDies : Cond.code yX9_isDies cX9_isDies 1 (some .boolean) ∈ TB := tb_7 (List.mem_of_getElem? (i := 52) rfl) rfl
theorem ml_X9_184 : Cond.methodLink RX9 184 yX9_isRopeWord ∈ TB := tb_7 (List.mem_of_getElem? (i := 53) rfl) rfl
theorem im_X9_isRopeWord : Cond.instanceMethod yX9_isRopeWord ∈ TB := tb_7 (List.mem_of_getElem? (i := 55) rfl) rfl
theorem co_X9_isRopeWord : Cond.code yX9_isRopeWord cX9_isRopeWord 1 (some .boolean) ∈ TB := tb_7 (List.mem_of_getElem? (i := 56) rfl) rfl
theorem ml_X9_187 : Cond.methodLink RX9 187 yX9_isSlips ∈ TB := tb_7 (List.mem_of_getElem? (i := 57) rfl) rfl
theorem im_X9_isSlips : Cond.instanceMethod yX9_isSlips ∈ TB := tb_7 (List.mem_of_getElem? (i := 59) rfl) rfl
theorem co_X9_isSlips : Cond.code yX9_isSlips cX9_isSlips 1 (some .boolean) ∈ TB := tb_7 (List.mem_of_getElem? (i := 60) rfl) rfl
theorem ml_X9_190 : Cond.methodLink RX9 190 yX9_isFlood ∈ TB := tb_7 (List.mem_of_getElem? (i := 61) rfl) rfl
theorem im_X9_isFlood : Cond.instanceMethod yX9_isFlood ∈ TB := tb_7 (List.mem_of_getElem? (i := 63) rfl) rfl
theorem co_X9_isFlood : Cond.code yX9_isFlood cX9_isFlood 1 (some .boolean) ∈ TB := tb_7 (List.mem_of_getElem? (i := 64) rfl) rfl
theorem ml_X9_193 : Cond.methodLink RX9 193 yX9_isTo ∈ TB := tb_7 (List.mem_of_getElem? (i := 65) rfl) rfl
theorem im_X9_isTo : Cond.instanceMethod yX9_isTo ∈ TB := tb_7 (List.mem_of_getElem? (i := 67) rfl) rfl
theorem co_X9_isTo : Cond.code yX9_isTo cX9_isTo 1 (some .boolean) ∈ TB := tb_7 (List.mem_of_getElem? (i := 68) rfl) rfl
theorem ml_X9_196 : Cond.methodLink RX9 196 yX9_isIf ∈ TB := tb_7 (List.mem_of_getElem? (i := 69) rfl) rfl
theorem im_X9_isIf : Cond.instanceMethod yX9_isIf ∈ TB := tb_7 (List.mem_of_getElem? (i := 71) rfl) rfl
theorem co_X9_isIf : Cond.code yX9_isIf cX9_isIf 1 (some .boolean) ∈ TB := tb_7 (List.mem_of_getElem? (i := 72) rfl) rfl
theorem ml_X9_199 : Cond.methodLink RX9 199 yX9_isGive ∈ TB := tb_7 (List.mem_of_getElem? (i := 73) rfl) rfl
theorem im_X9_isGive : Cond.instanceMethod yX9_isGive ∈ TB := tb_7 (List.mem_of_getElem? (i := 75) rfl) rfl
theorem co_X9_isGive : Cond.code yX9_isGive cX9_isGive 1 (some .boolean) ∈ TB := tb_7 (List.mem_of_getElem? (i := 76) rfl) rfl
theorem ml_X9_202 : Cond.methodLink RX9 202 yX9_isOr ∈ TB := tb_7 (List.mem_of_getElem? (i := 77) rfl) rfl
theorem im_X9_isOr : Cond.instanceMethod yX9_isOr ∈ TB := tb_7 (List.mem_of_getElem? (i := 79) rfl) rfl
theorem co_X9_isOr : Cond.code yX9_isOr cX9_isOr 1 (some .boolean) ∈ TB := tb_7 (List.mem_of_getElem? (i := 80) rfl) rfl
theorem ml_X9_205 : Cond.methodLink RX9 205 yX9_isAnd ∈ TB := tb_7 (List.mem_of_getElem? (i := 81) rfl) rfl
theorem im_X9_isAnd : Cond.instanceMethod yX9_isAnd ∈ TB := tb_7 (List.mem_of_getElem? (i := 83) rfl) rfl
theorem co_X9_isAnd : Cond.code yX9_isAnd cX9_isAnd 1 (some .boolean) ∈ TB := tb_7 (List.mem_of_getElem? (i := 84) rfl) rfl
theorem ml_X9_208 : Cond.methodLink RX9 208 yX9_isNot ∈ TB := tb_7 (List.mem_of_getElem? (i := 85) rfl) rfl
theorem im_X9_isNot : Cond.instanceMethod yX9_isNot ∈ TB := tb_7 (List.mem_of_getElem? (i := 87) rfl) rfl
theorem co_X9_isNot : Cond.code yX9_isNot cX9_isNot 1 (some .boolean) ∈ TB := tb_7 (List.mem_of_getElem? (i := 88) rfl) rfl
theorem ml_X9_211 : Cond.methodLink RX9 211 yX9_caseWord ∈ TB := tb_7 (List.mem_of_getElem? (i := 89) rfl) rfl
theorem im_X9_caseWord : Cond.instanceMethod yX9_caseWord ∈ TB := tb_7 (List.mem_of_getElem? (i := 91) rfl) rfl
theorem co_X9_caseWord : Cond.code yX9_caseWord cX9_caseWord 1 (some .int) ∈ TB := tb_7 (List.mem_of_getElem? (i := 92) rfl) rfl
theorem ml_X9_146 : Cond.methodLink RX9 146 yX9_isHoly ∈ TB := tb_7 (List.mem_of_getElem? (i := 93) rfl) rfl
theorem im_X9_isHoly : Cond.instanceMethod yX9_isHoly ∈ TB := tb_7 (List.mem_of_getElem? (i := 95) rfl) rfl
theorem co_X9_isHoly : Cond.code yX9_isHoly cX9_isHoly 1 (some .boolean) ∈ TB := tb_7 (List.mem_of_getElem? (i := 96) rfl) rfl
theorem ml_X9_150 : Cond.methodLink RX9 150 yX9_longer ∈ TB := tb_7 (List.mem_of_getElem? (i := 97) rfl) rfl
theorem sm_X9_longer : Cond.static yX9_longer ∈ TB := tb_7 (List.mem_of_getElem? (i := 98) rfl) rfl
theorem co_X9_longer : Cond.code yX9_longer cX9_longer 6 (some .long) ∈ TB := tb_7 (List.mem_of_getElem? (i := 99) rfl) rfl
theorem ml_X9_154 : Cond.methodLink RX9 154 yX9_isYards ∈ TB := tb_7 (List.mem_of_getElem? (i := 100) rfl) rfl
theorem im_X9_isYards : Cond.instanceMethod yX9_isYards ∈ TB := tb_7 (List.mem_of_getElem? (i := 102) rfl) rfl
theorem co_X9_isYards : Cond.code yX9_isYards cX9_isYards 1 (some .boolean) ∈ TB := tb_7 (List.mem_of_getElem? (i := 103) rfl) rfl
theorem ml_X9_157 : Cond.methodLink RX9 157 yX9_isAge ∈ TB := tb_7 (List.mem_of_getElem? (i := 104) rfl) rfl
theorem im_X9_isAge : Cond.instanceMethod yX9_isAge ∈ TB := tb_7 (List.mem_of_getElem? (i := 106) rfl) rfl
theorem co_X9_isAge : Cond.code yX9_isAge cX9_isAge 1 (some .boolean) ∈ TB := tb_7 (List.mem_of_getElem? (i := 107) rfl) rfl
theorem ml_X9_215 : Cond.methodLink RX9 215 yX9_whomWord ∈ TB := tb_7 (List.mem_of_getElem? (i := 108) rfl) rfl
theorem im_X9_whomWord : Cond.instanceMethod yX9_whomWord ∈ TB := tb_7 (List.mem_of_getElem? (i := 110) rfl) rfl
theorem co_X9_whomWord : Cond.code yX9_whomWord cX9_whomWord 1 (some .int) ∈ TB := tb_7 (List.mem_of_getElem? (i := 111) rfl) rfl
theorem ml_X9_246 : Cond.methodLink RX9 246 yX9_named ∈ TB := tb_7 (List.mem_of_getElem? (i := 112) rfl) rfl
theorem im_X9_named : Cond.instanceMethod yX9_named ∈ TB := tb_7 (List.mem_of_getElem? (i := 114) rfl) rfl
theorem co_X9_named : Cond.code yX9_named cX9_named 4 (some .int) ∈ TB := tb_7 (List.mem_of_getElem? (i := 115) rfl) rfl
theorem ml_X9_266 : Cond.methodLink RX9 266 yX9_readPersonName ∈ TB := tb_7 (List.mem_of_getElem? (i := 116) rfl) rfl
theorem im_X9_readPersonName : Cond.instanceMethod yX9_readPersonName ∈ TB := tb_7 (List.mem_of_getElem? (i := 118) rfl) rfl
theorem co_X9_readPersonName : Cond.code yX9_readPersonName cX9_readPersonName 2 (some .int) ∈ TB := tb_7 (List.mem_of_getElem? (i := 119) rfl) rfl
theorem ml_X9_279 : Cond.methodLink RX9 279 yX9_readRope ∈ TB := tb_7 (List.mem_of_getElem? (i := 120) rfl) rfl
theorem im_X9_readRope : Cond.instanceMethod yX9_readRope ∈ TB := tb_7 (List.mem_of_getElem? (i := 122) rfl) rfl
theorem co_X9_readRope : Cond.code yX9_readRope cX9_readRope 7 none ∈ TB := tb_7 (List.mem_of_getElem? (i := 123) rfl) rfl
theorem ml_X9_282 : Cond.methodLink RX9 282 yX9_readFlood ∈ TB := tb_7 (List.mem_of_getElem? (i := 124) rfl) rfl
theorem im_X9_readFlood : Cond.instanceMethod yX9_readFlood ∈ TB := tb_7 (List.mem_of_getElem? (i := 126) rfl) rfl
theorem co_X9_readFlood : Cond.code yX9_readFlood cX9_readFlood 5 none ∈ TB := tb_7 (List.mem_of_getElem? (i := 127) rfl) rfl
theorem ml_X9_285 : Cond.methodLink RX9 285 yX9_isSign ∈ TB := tb_7 (List.mem_of_getElem? (i := 128) rfl) rfl
theorem im_X9_isSign : Cond.instanceMethod yX9_isSign ∈ TB := tb_7 (List.mem_of_getElem? (i := 130) rfl) rfl
theorem co_X9_isSign : Cond.code yX9_isSign cX9_isSign 2 (some .boolean) ∈ TB := tb_7 (List.mem_of_getElem? (i := 131) rfl) rfl
theorem ml_X9_288 : Cond.methodLink RX9 288 yX9_isWell ∈ TB := tb_7 (List.mem_of_getElem? (i := 132) rfl) rfl
theorem im_X9_isWell : Cond.instanceMethod yX9_isWell ∈ TB := tb_7 (List.mem_of_getElem? (i := 134) rfl) rfl
theorem co_X9_isWell : Cond.code yX9_isWell cX9_isWell 1 (some .boolean) ∈ TB := tb_7 (List.mem_of_getElem? (i := 135) rfl) rfl
theorem ml_L_62 : Cond.methodLink RL 62 yX9_law ∈ TB := tb_7 (List.mem_of_getElem? (i := 136) rfl) rfl
theorem im_X9_law : Cond.instanceMethod yX9_law ∈ TB := tb_7 (List.mem_of_getElem? (i := 137) rfl) rfl
theorem se_X9_X9_law : Cond.selects RX9 yX9_law yX9_law ∈ TB := tb_7 (List.mem_of_getElem? (i := 138) rfl) rfl
theorem co_X9_law : Cond.code yX9_law cX9_law 3 (some .int) ∈ TB := tb_7 (List.mem_of_getElem? (i := 139) rfl) rfl
theorem ml_X9_313 : Cond.methodLink RX9 313 yX9_readRule ∈ TB := tb_7 (List.mem_of_getElem? (i := 140) rfl) rfl
theorem im_X9_readRule : Cond.instanceMethod yX9_readRule ∈ TB := tb_7 (List.mem_of_getElem? (i := 142) rfl) rfl
theorem co_X9_readRule : Cond.code yX9_readRule cX9_readRule 2 none ∈ TB := tb_7 (List.mem_of_getElem? (i := 143) rfl) rfl
theorem ml_X9_304 : Cond.methodLink RX9 304 yX9_readEither ∈ TB := tb_7 (List.mem_of_getElem? (i := 144) rfl) rfl
theorem im_X9_readEither : Cond.instanceMethod yX9_readEither ∈ TB := tb_7 (List.mem_of_getElem? (i := 146) rfl) rfl
theorem co_X9_readEither : Cond.code yX9_readEither cX9_readEither 2 none ∈ TB := tb_7 (List.mem_of_getElem? (i := 147) rfl) rfl
theorem ml_X9_307 : Cond.methodLink RX9 307 yX9_readBoth ∈ TB := tb_7 (List.mem_of_getElem? (i := 148) rfl) rfl
theorem im_X9_readBoth : Cond.instanceMethod yX9_readBoth ∈ TB := tb_7 (List.mem_of_getElem? (i := 150) rfl) rfl
theorem co_X9_readBoth : Cond.code yX9_readBoth cX9_readBoth 2 none ∈ TB := tb_7 (List.mem_of_getElem? (i := 151) rfl) rfl
theorem ml_X9_297 : Cond.methodLink RX9 297 yX9_readOne ∈ TB := tb_7 (List.mem_of_getElem? (i := 152) rfl) rfl
theorem im_X9_readOne : Cond.instanceMethod yX9_readOne ∈ TB := tb_7 (List.mem_of_getElem? (i := 154) rfl) rfl
theorem co_X9_readOne : Cond.code yX9_readOne cX9_readOne 7 none ∈ TB := tb_7 (List.mem_of_getElem? (i := 155) rfl) rfl
theorem ml_X9_300 : Cond.methodLink RX9 300 yX9_ruleStep ∈ TB := tb_7 (List.mem_of_getElem? (i := 156) rfl) rfl
theorem im_X9_ruleStep : Cond.instanceMethod yX9_ruleStep ∈ TB := tb_7 (List.mem_of_getElem? (i := 158) rfl) rfl
theorem co_X9_ruleStep : Cond.code yX9_ruleStep cX9_ruleStep 5 none ∈ TB := tb_7 (List.mem_of_getElem? (i := 159) rfl) rfl
theorem ml_L_70 : Cond.methodLink RL 70 yX9_many ∈ TB := tb_7 (List.mem_of_getElem? (i := 160) rfl) rfl
theorem im_X9_many : Cond.instanceMethod yX9_many ∈ TB := tb_7 (List.mem_of_getElem? (i := 161) rfl) rfl
theorem se_X9_X9_many : Cond.selects RX9 yX9_many yX9_many ∈ TB := tb_7 (List.mem_of_getElem? (i := 162) rfl) rfl
theorem co_X9_many : Cond.code yX9_many cX9_many 2 (some .int) ∈ TB := tb_7 (List.mem_of_getElem? (i := 163) rfl) rfl
theorem ml_X9_354 : Cond.methodLink RX9 354 yX9_ropes ∈ TB := tb_7 (List.mem_of_getElem? (i := 164) rfl) rfl
theorem im_X9_ropes : Cond.instanceMethod yX9_ropes ∈ TB := tb_7 (List.mem_of_getElem? (i := 166) rfl) rfl
theorem co_X9_ropes : Cond.code yX9_ropes cX9_ropes 3 (some .int) ∈ TB := tb_7 (List.mem_of_getElem? (i := 167) rfl) rfl
theorem ml_X9_318 : Cond.methodLink RX9 318 yX9_isRope ∈ TB := tb_7 (List.mem_of_getElem? (i := 168) rfl) rfl
theorem im_X9_isRope : Cond.instanceMethod yX9_isRope ∈ TB := tb_7 (List.mem_of_getElem? (i := 170) rfl) rfl
theorem co_X9_isRope : Cond.code yX9_isRope cX9_isRope 2 (some .boolean) ∈ TB := tb_7 (List.mem_of_getElem? (i := 171) rfl) rfl
theorem cu_X9_316 : Cond.constantLong RX9 316 (11) ∈ TB := tb_7 (List.mem_of_getElem? (i := 172) rfl) rfl
theorem ml_X9_324 : Cond.methodLink RX9 324 yX9_depthNow ∈ TB := tb_7 (List.mem_of_getElem? (i := 173) rfl) rfl
theorem im_X9_depthNow : Cond.instanceMethod yX9_depthNow ∈ TB := tb_7 (List.mem_of_getElem? (i := 175) rfl) rfl
theorem co_X9_depthNow : Cond.code yX9_depthNow cX9_depthNow 3 (some .int) ∈ TB := tb_7 (List.mem_of_getElem? (i := 176) rfl) rfl
theorem ml_X9_321 : Cond.methodLink RX9 321 yJ9_max_7cf53 ∈ TB := tb_7 (List.mem_of_getElem? (i := 177) rfl) rfl
theorem ml_X9_357 : Cond.methodLink RX9 357 yX9_refuse ∈ TB := tb_7 (List.mem_of_getElem? (i := 178) rfl) rfl
theorem im_X9_refuse : Cond.instanceMethod yX9_refuse ∈ TB := tb_7 (List.mem_of_getElem? (i := 180) rfl) rfl
theorem co_X9_refuse : Cond.code yX9_refuse cX9_refuse 2 (some .int) ∈ TB := tb_7 (List.mem_of_getElem? (i := 181) rfl) rfl
theorem ml_L_75 : Cond.methodLink RL 75 yX9_person ∈ TB := tb_7 (List.mem_of_getElem? (i := 182) rfl) rfl
theorem im_X9_person : Cond.instanceMethod yX9_person ∈ TB := tb_7 (List.mem_of_getElem? (i := 183) rfl) rfl
theorem se_X9_X9_person : Cond.selects RX9 yX9_person yX9_person ∈ TB := tb_7 (List.mem_of_getElem? (i := 184) rfl) rfl
theorem co_X9_person : Cond.code yX9_person cX9_person 3 (some .int) ∈ TB := tb_7 (List.mem_of_getElem? (i := 185) rfl) rfl
theorem ml_X9_360 : Cond.methodLink RX9 360 yX9_isPerson ∈ TB := tb_7 (List.mem_of_getElem? (i := 186) rfl) rfl
theorem im_X9_isPerson : Cond.instanceMethod yX9_isPerson ∈ TB := tb_7 (List.mem_of_getElem? (i := 188) rfl) rfl
theorem co_X9_isPerson : Cond.code yX9_isPerson cX9_isPerson 2 (some .boolean) ∈ TB := tb_7 (List.mem_of_getElem? (i := 189) rfl) rfl
theorem ml_X9_342 : Cond.methodLink RX9 342 yX9_isAlive ∈ TB := tb_7 (List.mem_of_getElem? (i := 190) rfl) rfl
theorem im_X9_isAlive : Cond.instanceMethod yX9_isAlive ∈ TB := tb_7 (List.mem_of_getElem? (i := 192) rfl) rfl
theorem co_X9_isAlive : Cond.code yX9_isAlive cX9_isAlive 2 (some .boolean) ∈ TB := tb_7 (List.mem_of_getElem? (i := 193) rfl) rfl
theorem ml_X9_363 : Cond.methodLink RX9 363 yX9_yardsOwn ∈ TB := tb_7 (List.mem_of_getElem? (i := 194) rfl) rfl
theorem im_X9_yardsOwn : Cond.instanceMethod yX9_yardsOwn ∈ TB := tb_7 (List.mem_of_getElem? (i := 196) rfl) rfl
theorem co_X9_yardsOwn : Cond.code yX9_yardsOwn cX9_yardsOwn 4 (some .int) ∈ TB := tb_7 (List.mem_of_getElem? (i := 197) rfl) rfl
theorem ml_X9_327 : Cond.methodLink RX9 327 yX9_yardsOfRope ∈ TB := tb_7 (List.mem_of_getElem? (i := 198) rfl) rfl
theorem im_X9_yardsOfRope : Cond.instanceMethod yX9_yardsOfRope ∈ TB := tb_7 (List.mem_of_getElem? (i := 200) rfl) rfl
theorem co_X9_yardsOfRope : Cond.code yX9_yardsOfRope cX9_yardsOfRope 4 (some .int) ∈ TB := tb_7 (List.mem_of_getElem? (i := 201) rfl) rfl
theorem ml_X9_366 : Cond.methodLink RX9 366 yX9_yardsHeld ∈ TB := tb_7 (List.mem_of_getElem? (i := 202) rfl) rfl
theorem im_X9_yardsHeld : Cond.instanceMethod yX9_yardsHeld ∈ TB := tb_7 (List.mem_of_getElem? (i := 204) rfl) rfl
theorem co_X9_yardsHeld : Cond.code yX9_yardsHeld cX9_yardsHeld 4 (some .int) ∈ TB := tb_7 (List.mem_of_getElem? (i := 205) rfl) rfl
theorem ml_X9_336 : Cond.methodLink RX9 336 yX9_isHeld ∈ TB := tb_7 (List.mem_of_getElem? (i := 206) rfl) rfl
theorem im_X9_isHeld : Cond.instanceMethod yX9_isHeld ∈ TB := tb_7 (List.mem_of_getElem? (i := 208) rfl) rfl
theorem co_X9_isHeld : Cond.code yX9_isHeld cX9_isHeld 3 (some .boolean) ∈ TB := tb_7 (List.mem_of_getElem? (i := 209) rfl) rfl
theorem ml_L_79 : Cond.methodLink RL 79 yX9_heirs ∈ TB := tb_7 (List.mem_of_getElem? (i := 210) rfl) rfl
theorem im_X9_heirs : Cond.instanceMethod yX9_heirs ∈ TB := tb_7 (List.mem_of_getElem? (i := 211) rfl) rfl
theorem se_X9_X9_heirs : Cond.selects RX9 yX9_heirs yX9_heirs ∈ TB := tb_7 (List.mem_of_getElem? (i := 212) rfl) rfl
theorem co_X9_heirs : Cond.code yX9_heirs cX9_heirs 2 (some .int) ∈ TB := tb_7 (List.mem_of_getElem? (i := 213) rfl) rfl
theorem ml_X9_369 : Cond.methodLink RX9 369 yX9_childrenOf ∈ TB := tb_7 (List.mem_of_getElem? (i := 214) rfl) rfl
theorem im_X9_childrenOf : Cond.instanceMethod yX9_childrenOf ∈ TB := tb_7 (List.mem_of_getElem? (i := 216) rfl) rfl
theorem co_X9_childrenOf : Cond.code yX9_childrenOf cX9_childrenOf 4 (some .int) ∈ TB := tb_7 (List.mem_of_getElem? (i := 217) rfl) rfl
theorem ml_L_83 : Cond.methodLink RL 83 yX9_rope ∈ TB := tb_7 (List.mem_of_getElem? (i := 218) rfl) rfl
theorem im_X9_rope : Cond.instanceMethod yX9_rope ∈ TB := tb_7 (List.mem_of_getElem? (i := 219) rfl) rfl
theorem se_X9_X9_rope : Cond.selects RX9 yX9_rope yX9_rope ∈ TB := tb_7 (List.mem_of_getElem? (i := 220) rfl) rfl
theorem co_X9_rope : Cond.code yX9_rope cX9_rope 3 (some .int) ∈ TB := tb_7 (List.mem_of_getElem? (i := 221) rfl) rfl
theorem ml_X9_339 : Cond.methodLink RX9 339 yX9_reachOf ∈ TB := tb_7 (List.mem_of_getElem? (i := 222) rfl) rfl
theorem im_X9_reachOf : Cond.instanceMethod yX9_reachOf ∈ TB := tb_7 (List.mem_of_getElem? (i := 224) rfl) rfl
theorem co_X9_reachOf : Cond.code yX9_reachOf cX9_reachOf 2 (some .int) ∈ TB := tb_7 (List.mem_of_getElem? (i := 225) rfl) rfl
theorem ml_X9_330 : Cond.methodLink RX9 330 yX9_knotsOfRope ∈ TB := tb_7 (List.mem_of_getElem? (i := 226) rfl) rfl
theorem im_X9_knotsOfRope : Cond.instanceMethod yX9_knotsOfRope ∈ TB := tb_7 (List.mem_of_getElem? (i := 228) rfl) rfl
theorem co_X9_knotsOfRope : Cond.code yX9_knotsOfRope cX9_knotsOfRope 2 (some .int) ∈ TB := tb_7 (List.mem_of_getElem? (i := 229) rfl) rfl
theorem ml_X9_372 : Cond.methodLink RX9 372 yX9_oldest ∈ TB := tb_7 (List.mem_of_getElem? (i := 230) rfl) rfl
theorem im_X9_oldest : Cond.instanceMethod yX9_oldest ∈ TB := tb_7 (List.mem_of_getElem? (i := 232) rfl) rfl
theorem co_X9_oldest : Cond.code yX9_oldest cX9_oldest 4 (some .int) ∈ TB := tb_7 (List.mem_of_getElem? (i := 233) rfl) rfl
theorem ml_X9_333 : Cond.methodLink RX9 333 yX9_ageOf ∈ TB := tb_7 (List.mem_of_getElem? (i := 234) rfl) rfl
theorem im_X9_ageOf : Cond.instanceMethod yX9_ageOf ∈ TB := tb_7 (List.mem_of_getElem? (i := 236) rfl) rfl
theorem co_X9_ageOf : Cond.code yX9_ageOf cX9_ageOf 3 (some .int) ∈ TB := tb_7 (List.mem_of_getElem? (i := 237) rfl) rfl
theorem ml_L_88 : Cond.methodLink RL 88 yX9_piece ∈ TB := tb_7 (List.mem_of_getElem? (i := 238) rfl) rfl
theorem im_X9_piece : Cond.instanceMethod yX9_piece ∈ TB := tb_7 (List.mem_of_getElem? (i := 239) rfl) rfl
theorem se_X9_X9_piece : Cond.selects RX9 yX9_piece yX9_piece ∈ TB := tb_8 (List.mem_of_getElem? (i := 0) rfl) rfl
theorem co_X9_piece : Cond.code yX9_piece cX9_piece 4 (some .int) ∈ TB := tb_8 (List.mem_of_getElem? (i := 1) rfl) rfl
theorem ml_L_93 : Cond.methodLink RL 93 yX9_seed ∈ TB := tb_8 (List.mem_of_getElem? (i := 2) rfl) rfl
theorem im_X9_seed : Cond.instanceMethod yX9_seed ∈ TB := tb_8 (List.mem_of_getElem? (i := 3) rfl) rfl
theorem se_X9_X9_seed : Cond.selects RX9 yX9_seed yX9_seed ∈ TB := tb_8 (List.mem_of_getElem? (i := 4) rfl) rfl
theorem co_X9_seed : Cond.code yX9_seed cX9_seed 2 (some .boolean) ∈ TB := tb_8 (List.mem_of_getElem? (i := 5) rfl) rfl
theorem cu_X9_375 : Cond.constantLong RX9 375 (9999) ∈ TB := tb_8 (List.mem_of_getElem? (i := 6) rfl) rfl
theorem ml_L_97 : Cond.methodLink RL 97 yX9_pass ∈ TB := tb_8 (List.mem_of_getElem? (i := 7) rfl) rfl
theorem im_X9_pass : Cond.instanceMethod yX9_pass ∈ TB := tb_8 (List.mem_of_getElem? (i := 8) rfl) rfl
theorem se_X9_X9_pass : Cond.selects RX9 yX9_pass yX9_pass ∈ TB := tb_8 (List.mem_of_getElem? (i := 9) rfl) rfl
theorem co_X9_pass : Cond.code yX9_pass cX9_pass 3 (some .int) ∈ TB := tb_8 (List.mem_of_getElem? (i := 10) rfl) rfl
theorem cu_X9_415 : Cond.constantLong RX9 415 (50) ∈ TB := tb_8 (List.mem_of_getElem? (i := 11) rfl) rfl
theorem ml_X9_417 : Cond.methodLink RX9 417 yX9_oneYear ∈ TB := tb_8 (List.mem_of_getElem? (i := 12) rfl) rfl
theorem im_X9_oneYear : Cond.instanceMethod yX9_oneYear ∈ TB := tb_8 (List.mem_of_getElem? (i := 14) rfl) rfl
theorem co_X9_oneYear : Cond.code yX9_oneYear cX9_oneYear 3 none ∈ TB := tb_8 (List.mem_of_getElem? (i := 15) rfl) rfl
theorem ml_X9_390 : Cond.methodLink RX9 390 yJ9_min_7cf53 ∈ TB := tb_8 (List.mem_of_getElem? (i := 16) rfl) rfl
theorem ct_X9_411 : Cond.constant RX9 411 (65536) ∈ TB := tb_8 (List.mem_of_getElem? (i := 17) rfl) rfl
theorem ml_X9_412 : Cond.methodLink RX9 412 yX9_inherit ∈ TB := tb_8 (List.mem_of_getElem? (i := 18) rfl) rfl
theorem im_X9_inherit : Cond.instanceMethod yX9_inherit ∈ TB := tb_8 (List.mem_of_getElem? (i := 20) rfl) rfl
theorem co_X9_inherit : Cond.code yX9_inherit cX9_inherit 6 none ∈ TB := tb_8 (List.mem_of_getElem? (i := 21) rfl) rfl
theorem ml_X9_396 : Cond.methodLink RX9 396 yX9_whomFor ∈ TB := tb_8 (List.mem_of_getElem? (i := 22) rfl) rfl
theorem im_X9_whomFor : Cond.instanceMethod yX9_whomFor ∈ TB := tb_8 (List.mem_of_getElem? (i := 24) rfl) rfl
theorem co_X9_whomFor : Cond.code yX9_whomFor cX9_whomFor 4 (some .int) ∈ TB := tb_8 (List.mem_of_getElem? (i := 25) rfl) rfl
theorem ml_X9_384 : Cond.methodLink RX9 384 yX9_holdsRule ∈ TB := tb_8 (List.mem_of_getElem? (i := 26) rfl) rfl
theorem im_X9_holdsRule : Cond.instanceMethod yX9_holdsRule ∈ TB := tb_8 (List.mem_of_getElem? (i := 28) rfl) rfl
theorem co_X9_holdsRule : Cond.code yX9_holdsRule cX9_holdsRule 7 (some .boolean) ∈ TB := tb_8 (List.mem_of_getElem? (i := 29) rfl) rfl
theorem ml_X9_380 : Cond.methodLink RX9 380 yX9_isCase ∈ TB := tb_8 (List.mem_of_getElem? (i := 30) rfl) rfl
theorem im_X9_isCase : Cond.instanceMethod yX9_isCase ∈ TB := tb_8 (List.mem_of_getElem? (i := 32) rfl) rfl
theorem co_X9_isCase : Cond.code yX9_isCase cX9_isCase 6 (some .boolean) ∈ TB := tb_8 (List.mem_of_getElem? (i := 33) rfl) rfl
theorem ml_X9_348 : Cond.methodLink RX9 348 yX9_reaches ∈ TB := tb_8 (List.mem_of_getElem? (i := 34) rfl) rfl
theorem im_X9_reaches : Cond.instanceMethod yX9_reaches ∈ TB := tb_8 (List.mem_of_getElem? (i := 36) rfl) rfl
theorem co_X9_reaches : Cond.code yX9_reaches cX9_reaches 2 (some .boolean) ∈ TB := tb_8 (List.mem_of_getElem? (i := 37) rfl) rfl
theorem ml_X9_377 : Cond.methodLink RX9 377 yX9_bits ∈ TB := tb_8 (List.mem_of_getElem? (i := 38) rfl) rfl
theorem sm_X9_bits : Cond.static yX9_bits ∈ TB := tb_8 (List.mem_of_getElem? (i := 39) rfl) rfl
theorem co_X9_bits : Cond.code yX9_bits cX9_bits 3 (some .int) ∈ TB := tb_8 (List.mem_of_getElem? (i := 40) rfl) rfl
theorem ml_X9_399 : Cond.methodLink RX9 399 yX9_greatestOf ∈ TB := tb_8 (List.mem_of_getElem? (i := 41) rfl) rfl
theorem im_X9_greatestOf : Cond.instanceMethod yX9_greatestOf ∈ TB := tb_8 (List.mem_of_getElem? (i := 43) rfl) rfl
theorem co_X9_greatestOf : Cond.code yX9_greatestOf cX9_greatestOf 3 (some .int) ∈ TB := tb_8 (List.mem_of_getElem? (i := 44) rfl) rfl
theorem ml_X9_402 : Cond.methodLink RX9 402 yX9_poorestOf ∈ TB := tb_8 (List.mem_of_getElem? (i := 45) rfl) rfl
theorem im_X9_poorestOf : Cond.instanceMethod yX9_poorestOf ∈ TB := tb_8 (List.mem_of_getElem? (i := 47) rfl) rfl
theorem co_X9_poorestOf : Cond.code yX9_poorestOf cX9_poorestOf 4 (some .int) ∈ TB := tb_8 (List.mem_of_getElem? (i := 48) rfl) rfl
theorem ml_X9_405 : Cond.methodLink RX9 405 yX9_share2 ∈ TB := tb_8 (List.mem_of_getElem? (i := 49) rfl) rfl
theorem im_X9_share2 : Cond.instanceMethod yX9_share2 ∈ TB := tb_8 (List.mem_of_getElem? (i := 51) rfl) rfl
theorem co_X9_share2 : Cond.code yX9_share2 cX9_share2 12 none ∈ TB := tb_8 (List.mem_of_getElem? (i := 52) rfl) rfl
theorem ml_X9_393 : Cond.methodLink RX9 393 yX9_partFrom ∈ TB := tb_8 (List.mem_of_getElem? (i := 53) rfl) rfl
theorem im_X9_partFrom : Cond.instanceMethod yX9_partFrom ∈ TB := tb_8 (List.mem_of_getElem? (i := 55) rfl) rfl
theorem co_X9_partFrom : Cond.code yX9_partFrom cX9_partFrom 10 (some .int) ∈ TB := tb_8 (List.mem_of_getElem? (i := 56) rfl) rfl
theorem ml_X9_387 : Cond.methodLink RX9 387 yX9_freeRope ∈ TB := tb_8 (List.mem_of_getElem? (i := 57) rfl) rfl
theorem im_X9_freeRope : Cond.instanceMethod yX9_freeRope ∈ TB := tb_8 (List.mem_of_getElem? (i := 59) rfl) rfl
theorem co_X9_freeRope : Cond.code yX9_freeRope cX9_freeRope 2 (some .int) ∈ TB := tb_8 (List.mem_of_getElem? (i := 60) rfl) rfl
theorem ml_X9_408 : Cond.methodLink RX9 408 yX9_leastOf ∈ TB := tb_8 (List.mem_of_getElem? (i := 61) rfl) rfl
theorem im_X9_leastOf : Cond.instanceMethod yX9_leastOf ∈ TB := tb_8 (List.mem_of_getElem? (i := 63) rfl) rfl
theorem co_X9_leastOf : Cond.code yX9_leastOf cX9_leastOf 3 (some .int) ∈ TB := tb_8 (List.mem_of_getElem? (i := 64) rfl) rfl
theorem ml_L_101 : Cond.methodLink RL 101 yX9_drinks ∈ TB := tb_8 (List.mem_of_getElem? (i := 65) rfl) rfl
theorem im_X9_drinks : Cond.instanceMethod yX9_drinks ∈ TB := tb_8 (List.mem_of_getElem? (i := 66) rfl) rfl
theorem se_X9_X9_drinks : Cond.selects RX9 yX9_drinks yX9_drinks ∈ TB := tb_8 (List.mem_of_getElem? (i := 67) rfl) rfl
theorem co_X9_drinks : Cond.code yX9_drinks cX9_drinks 2 (some .int) ∈ TB := tb_8 (List.mem_of_getElem? (i := 68) rfl) rfl
theorem ml_X9_351 : Cond.methodLink RX9 351 yX9_isDrinking ∈ TB := tb_8 (List.mem_of_getElem? (i := 69) rfl) rfl
theorem im_X9_isDrinking : Cond.instanceMethod yX9_isDrinking ∈ TB := tb_8 (List.mem_of_getElem? (i := 71) rfl) rfl
theorem co_X9_isDrinking : Cond.code yX9_isDrinking cX9_isDrinking 3 (some .boolean) ∈ TB := tb_8 (List.mem_of_getElem? (i := 72) rfl) rfl
theorem ml_X9_345 : Cond.methodLink RX9 345 yX9_isDry ∈ TB := tb_8 (List.mem_of_getElem? (i := 73) rfl) rfl
theorem im_X9_isDry : Cond.instanceMethod yX9_isDry ∈ TB := tb_8 (List.mem_of_getElem? (i := 75) rfl) rfl
theorem co_X9_isDry : Cond.code yX9_isDry cX9_isDry 1 (some .boolean) ∈ TB := tb_8 (List.mem_of_getElem? (i := 76) rfl) rfl
theorem ml_L_105 : Cond.methodLink RL 105 yX9_who ∈ TB := tb_8 (List.mem_of_getElem? (i := 77) rfl) rfl
theorem im_X9_who : Cond.instanceMethod yX9_who ∈ TB := tb_8 (List.mem_of_getElem? (i := 78) rfl) rfl
theorem se_X9_X9_who : Cond.selects RX9 yX9_who yX9_who ∈ TB := tb_8 (List.mem_of_getElem? (i := 79) rfl) rfl
theorem co_X9_who : Cond.code yX9_who cX9_who 1 (some .int) ∈ TB := tb_8 (List.mem_of_getElem? (i := 80) rfl) rfl
theorem ml_X9_420 : Cond.methodLink RX9 420 yX9_drinkers ∈ TB := tb_8 (List.mem_of_getElem? (i := 81) rfl) rfl
theorem im_X9_drinkers : Cond.instanceMethod yX9_drinkers ∈ TB := tb_8 (List.mem_of_getElem? (i := 83) rfl) rfl
theorem co_X9_drinkers : Cond.code yX9_drinkers cX9_drinkers 3 (some .int) ∈ TB := tb_8 (List.mem_of_getElem? (i := 84) rfl) rfl
theorem ml_L_109 : Cond.methodLink RL 109 yX9_depth ∈ TB := tb_8 (List.mem_of_getElem? (i := 85) rfl) rfl
theorem im_X9_depth : Cond.instanceMethod yX9_depth ∈ TB := tb_8 (List.mem_of_getElem? (i := 86) rfl) rfl
theorem se_X9_X9_depth : Cond.selects RX9 yX9_depth yX9_depth ∈ TB := tb_8 (List.mem_of_getElem? (i := 87) rfl) rfl
theorem co_X9_depth : Cond.code yX9_depth cX9_depth 3 (some .int) ∈ TB := tb_8 (List.mem_of_getElem? (i := 88) rfl) rfl
theorem ml_X9_428 : Cond.methodLink RX9 428 yX9_isAhead ∈ TB := tb_8 (List.mem_of_getElem? (i := 89) rfl) rfl
theorem im_X9_isAhead : Cond.instanceMethod yX9_isAhead ∈ TB := tb_8 (List.mem_of_getElem? (i := 91) rfl) rfl
theorem co_X9_isAhead : Cond.code yX9_isAhead cX9_isAhead 2 (some .boolean) ∈ TB := tb_8 (List.mem_of_getElem? (i := 92) rfl) rfl
theorem cu_X9_423 : Cond.constantLong RX9 423 (100) ∈ TB := tb_8 (List.mem_of_getElem? (i := 93) rfl) rfl
theorem ml_X9_431 : Cond.methodLink RX9 431 yX9_goAhead ∈ TB := tb_8 (List.mem_of_getElem? (i := 94) rfl) rfl
theorem im_X9_goAhead : Cond.instanceMethod yX9_goAhead ∈ TB := tb_8 (List.mem_of_getElem? (i := 96) rfl) rfl
theorem co_X9_goAhead : Cond.code yX9_goAhead cX9_goAhead 3 none ∈ TB := tb_8 (List.mem_of_getElem? (i := 97) rfl) rfl
theorem ml_X9_425 : Cond.methodLink RX9 425 yX9_keep ∈ TB := tb_8 (List.mem_of_getElem? (i := 98) rfl) rfl
theorem im_X9_keep : Cond.instanceMethod yX9_keep ∈ TB := tb_8 (List.mem_of_getElem? (i := 100) rfl) rfl
theorem co_X9_keep : Cond.code yX9_keep cX9_keep 2 none ∈ TB := tb_8 (List.mem_of_getElem? (i := 101) rfl) rfl
theorem ml_X9_434 : Cond.methodLink RX9 434 yX9_takeAgain ∈ TB := tb_8 (List.mem_of_getElem? (i := 102) rfl) rfl
theorem im_X9_takeAgain : Cond.instanceMethod yX9_takeAgain ∈ TB := tb_8 (List.mem_of_getElem? (i := 104) rfl) rfl
theorem co_X9_takeAgain : Cond.code yX9_takeAgain cX9_takeAgain 2 none ∈ TB := tb_8 (List.mem_of_getElem? (i := 105) rfl) rfl
theorem ml_L_113 : Cond.methodLink RL 113 yX9_whoThen ∈ TB := tb_8 (List.mem_of_getElem? (i := 106) rfl) rfl
theorem im_X9_whoThen : Cond.instanceMethod yX9_whoThen ∈ TB := tb_8 (List.mem_of_getElem? (i := 107) rfl) rfl
theorem se_X9_X9_whoThen : Cond.selects RX9 yX9_whoThen yX9_whoThen ∈ TB := tb_8 (List.mem_of_getElem? (i := 108) rfl) rfl
theorem co_X9_whoThen : Cond.code yX9_whoThen cX9_whoThen 3 (some .int) ∈ TB := tb_8 (List.mem_of_getElem? (i := 109) rfl) rfl
theorem ml_L_117 : Cond.methodLink RL 117 yX9_owner ∈ TB := tb_8 (List.mem_of_getElem? (i := 110) rfl) rfl
theorem im_X9_owner : Cond.instanceMethod yX9_owner ∈ TB := tb_8 (List.mem_of_getElem? (i := 111) rfl) rfl
theorem se_X9_X9_owner : Cond.selects RX9 yX9_owner yX9_owner ∈ TB := tb_8 (List.mem_of_getElem? (i := 112) rfl) rfl
theorem co_X9_owner : Cond.code yX9_owner cX9_owner 4 (some .int) ∈ TB := tb_8 (List.mem_of_getElem? (i := 113) rfl) rfl
theorem ml_L_121 : Cond.methodLink RL 121 yX9_thirst ∈ TB := tb_8 (List.mem_of_getElem? (i := 114) rfl) rfl
theorem im_X9_thirst : Cond.instanceMethod yX9_thirst ∈ TB := tb_8 (List.mem_of_getElem? (i := 115) rfl) rfl
theorem se_X9_X9_thirst : Cond.selects RX9 yX9_thirst yX9_thirst ∈ TB := tb_8 (List.mem_of_getElem? (i := 116) rfl) rfl
theorem co_X9_thirst : Cond.code yX9_thirst cX9_thirst 5 (some .int) ∈ TB := tb_8 (List.mem_of_getElem? (i := 117) rfl) rfl
theorem ml_L_125 : Cond.methodLink RL 125 yX9_last ∈ TB := tb_8 (List.mem_of_getElem? (i := 118) rfl) rfl
theorem im_X9_last : Cond.instanceMethod yX9_last ∈ TB := tb_8 (List.mem_of_getElem? (i := 119) rfl) rfl
theorem se_X9_X9_last : Cond.selects RX9 yX9_last yX9_last ∈ TB := tb_8 (List.mem_of_getElem? (i := 120) rfl) rfl
theorem co_X9_last : Cond.code yX9_last cX9_last 7 (some .int) ∈ TB := tb_8 (List.mem_of_getElem? (i := 121) rfl) rfl
theorem ml_L_130 : Cond.methodLink RL 130 yX9_odds ∈ TB := tb_8 (List.mem_of_getElem? (i := 122) rfl) rfl
theorem im_X9_odds : Cond.instanceMethod yX9_odds ∈ TB := tb_8 (List.mem_of_getElem? (i := 123) rfl) rfl
theorem se_X9_X9_odds : Cond.selects RX9 yX9_odds yX9_odds ∈ TB := tb_8 (List.mem_of_getElem? (i := 124) rfl) rfl
theorem co_X9_odds : Cond.code yX9_odds cX9_odds 8 (some .boolean) ∈ TB := tb_8 (List.mem_of_getElem? (i := 125) rfl) rfl
theorem cu_X9_437 : Cond.constantLong RX9 437 (20) ∈ TB := tb_8 (List.mem_of_getElem? (i := 126) rfl) rfl
theorem ml_X9_439 : Cond.methodLink RX9 439 yX9_fraction ∈ TB := tb_8 (List.mem_of_getElem? (i := 127) rfl) rfl
theorem im_X9_fraction : Cond.instanceMethod yX9_fraction ∈ TB := tb_8 (List.mem_of_getElem? (i := 129) rfl) rfl
theorem co_X9_fraction : Cond.code yX9_fraction cX9_fraction 11 (some .boolean) ∈ TB := tb_8 (List.mem_of_getElem? (i := 130) rfl) rfl
theorem ml_X9_71 : Cond.methodLink RX9 71 yJ9_abs_067f4 ∈ TB := tb_8 (List.mem_of_getElem? (i := 131) rfl) rfl
theorem sm_J9_abs_067f4 : Cond.static yJ9_abs_067f4 ∈ TB := tb_8 (List.mem_of_getElem? (i := 132) rfl) rfl
theorem co_J9_abs_067f4 : Cond.code yJ9_abs_067f4 cJ9_abs_067f4 2 (some .long) ∈ TB := tb_8 (List.mem_of_getElem? (i := 133) rfl) rfl
theorem ml_L_134 : Cond.methodLink RL 134 yX9_knot ∈ TB := tb_8 (List.mem_of_getElem? (i := 134) rfl) rfl
theorem im_X9_knot : Cond.instanceMethod yX9_knot ∈ TB := tb_8 (List.mem_of_getElem? (i := 135) rfl) rfl
theorem se_X9_X9_knot : Cond.selects RX9 yX9_knot yX9_knot ∈ TB := tb_8 (List.mem_of_getElem? (i := 136) rfl) rfl
theorem co_X9_knot : Cond.code yX9_knot cX9_knot 4 (some .int) ∈ TB := tb_8 (List.mem_of_getElem? (i := 137) rfl) rfl
theorem ml_X9_443 : Cond.methodLink RX9 443 yX9_isFree ∈ TB := tb_8 (List.mem_of_getElem? (i := 138) rfl) rfl
theorem im_X9_isFree : Cond.instanceMethod yX9_isFree ∈ TB := tb_8 (List.mem_of_getElem? (i := 140) rfl) rfl
theorem co_X9_isFree : Cond.code yX9_isFree cX9_isFree 2 (some .boolean) ∈ TB := tb_8 (List.mem_of_getElem? (i := 141) rfl) rfl
theorem ml_L_138 : Cond.methodLink RL 138 yX9_undo ∈ TB := tb_8 (List.mem_of_getElem? (i := 142) rfl) rfl
theorem im_X9_undo : Cond.instanceMethod yX9_undo ∈ TB := tb_8 (List.mem_of_getElem? (i := 143) rfl) rfl
theorem se_X9_X9_undo : Cond.selects RX9 yX9_undo yX9_undo ∈ TB := tb_8 (List.mem_of_getElem? (i := 144) rfl) rfl
theorem co_X9_undo : Cond.code yX9_undo cX9_undo 5 (some .int) ∈ TB := tb_8 (List.mem_of_getElem? (i := 145) rfl) rfl
theorem ml_L_142 : Cond.methodLink RL 142 yX9_cut_ ∈ TB := tb_8 (List.mem_of_getElem? (i := 146) rfl) rfl
theorem im_X9_cut_ : Cond.instanceMethod yX9_cut_ ∈ TB := tb_8 (List.mem_of_getElem? (i := 147) rfl) rfl
theorem se_X9_X9_cut_ : Cond.selects RX9 yX9_cut_ yX9_cut_ ∈ TB := tb_8 (List.mem_of_getElem? (i := 148) rfl) rfl
theorem co_X9_cut_ : Cond.code yX9_cut_ cX9_cut_ 3 (some .int) ∈ TB := tb_8 (List.mem_of_getElem? (i := 149) rfl) rfl
theorem ml_L_146 : Cond.methodLink RL 146 yX9_sell ∈ TB := tb_8 (List.mem_of_getElem? (i := 150) rfl) rfl
theorem im_X9_sell : Cond.instanceMethod yX9_sell ∈ TB := tb_8 (List.mem_of_getElem? (i := 151) rfl) rfl
theorem se_X9_X9_sell : Cond.selects RX9 yX9_sell yX9_sell ∈ TB := tb_8 (List.mem_of_getElem? (i := 152) rfl) rfl
theorem co_X9_sell : Cond.code yX9_sell cX9_sell 7 (some .int) ∈ TB := tb_8 (List.mem_of_getElem? (i := 153) rfl) rfl
theorem ml_L_150 : Cond.methodLink RL 150 yX9_lend ∈ TB := tb_8 (List.mem_of_getElem? (i := 154) rfl) rfl
theorem im_X9_lend : Cond.instanceMethod yX9_lend ∈ TB := tb_8 (List.mem_of_getElem? (i := 155) rfl) rfl
theorem se_X9_X9_lend : Cond.selects RX9 yX9_lend yX9_lend ∈ TB := tb_8 (List.mem_of_getElem? (i := 156) rfl) rfl
theorem co_X9_lend : Cond.code yX9_lend cX9_lend 3 (some .int) ∈ TB := tb_8 (List.mem_of_getElem? (i := 157) rfl) rfl
theorem ml_L_154 : Cond.methodLink RL 154 yX9_takeBack ∈ TB := tb_8 (List.mem_of_getElem? (i := 158) rfl) rfl
theorem im_X9_takeBack : Cond.instanceMethod yX9_takeBack ∈ TB := tb_8 (List.mem_of_getElem? (i := 159) rfl) rfl
theorem se_X9_X9_takeBack : Cond.selects RX9 yX9_takeBack yX9_takeBack ∈ TB := tb_8 (List.mem_of_getElem? (i := 160) rfl) rfl
theorem co_X9_takeBack : Cond.code yX9_takeBack cX9_takeBack 3 (some .int) ∈ TB := tb_8 (List.mem_of_getElem? (i := 161) rfl) rfl
theorem ml_L_158 : Cond.methodLink RL 158 yX9_dig ∈ TB := tb_8 (List.mem_of_getElem? (i := 162) rfl) rfl
theorem im_X9_dig : Cond.instanceMethod yX9_dig ∈ TB := tb_8 (List.mem_of_getElem? (i := 163) rfl) rfl
theorem se_X9_X9_dig : Cond.selects RX9 yX9_dig yX9_dig ∈ TB := tb_8 (List.mem_of_getElem? (i := 164) rfl) rfl
theorem co_X9_dig : Cond.code yX9_dig cX9_dig 2 (some .int) ∈ TB := tb_8 (List.mem_of_getElem? (i := 165) rfl) rfl
theorem cu_X9_446 : Cond.constantLong RX9 446 (-99) ∈ TB := tb_8 (List.mem_of_getElem? (i := 166) rfl) rfl
theorem cu_X9_448 : Cond.constantLong RX9 448 (99) ∈ TB := tb_8 (List.mem_of_getElem? (i := 167) rfl) rfl
theorem ml_L_162 : Cond.methodLink RL 162 yX9_led ∈ TB := tb_8 (List.mem_of_getElem? (i := 168) rfl) rfl
theorem im_X9_led : Cond.instanceMethod yX9_led ∈ TB := tb_8 (List.mem_of_getElem? (i := 169) rfl) rfl
theorem se_X9_X9_led : Cond.selects RX9 yX9_led yX9_led ∈ TB := tb_8 (List.mem_of_getElem? (i := 170) rfl) rfl
theorem co_X9_led : Cond.code yX9_led cX9_led 5 (some .int) ∈ TB := tb_8 (List.mem_of_getElem? (i := 171) rfl) rfl
theorem ml_L_166 : Cond.methodLink RL 166 yX9_share ∈ TB := tb_8 (List.mem_of_getElem? (i := 172) rfl) rfl
theorem im_X9_share : Cond.instanceMethod yX9_share ∈ TB := tb_8 (List.mem_of_getElem? (i := 173) rfl) rfl
theorem se_X9_X9_share : Cond.selects RX9 yX9_share yX9_share ∈ TB := tb_8 (List.mem_of_getElem? (i := 174) rfl) rfl
theorem co_X9_share : Cond.code yX9_share cX9_share 4 (some .boolean) ∈ TB := tb_8 (List.mem_of_getElem? (i := 175) rfl) rfl
theorem ml_L_170 : Cond.methodLink RL 170 yX9_heirloom ∈ TB := tb_8 (List.mem_of_getElem? (i := 176) rfl) rfl
theorem im_X9_heirloom : Cond.instanceMethod yX9_heirloom ∈ TB := tb_8 (List.mem_of_getElem? (i := 177) rfl) rfl
theorem se_X9_X9_heirloom : Cond.selects RX9 yX9_heirloom yX9_heirloom ∈ TB := tb_8 (List.mem_of_getElem? (i := 178) rfl) rfl
theorem co_X9_heirloom : Cond.code yX9_heirloom cX9_heirloom 4 (some .int) ∈ TB := tb_8 (List.mem_of_getElem? (i := 179) rfl) rfl
theorem ml_L_174 : Cond.methodLink RL 174 yX9_yardsOf ∈ TB := tb_8 (List.mem_of_getElem? (i := 180) rfl) rfl
theorem im_X9_yardsOf : Cond.instanceMethod yX9_yardsOf ∈ TB := tb_8 (List.mem_of_getElem? (i := 181) rfl) rfl
theorem se_X9_X9_yardsOf : Cond.selects RX9 yX9_yardsOf yX9_yardsOf ∈ TB := tb_8 (List.mem_of_getElem? (i := 182) rfl) rfl
theorem co_X9_yardsOf : Cond.code yX9_yardsOf cX9_yardsOf 6 (some .int) ∈ TB := tb_8 (List.mem_of_getElem? (i := 183) rfl) rfl
theorem ml_L_178 : Cond.methodLink RL 178 yX9_needed ∈ TB := tb_8 (List.mem_of_getElem? (i := 184) rfl) rfl
theorem im_X9_needed : Cond.instanceMethod yX9_needed ∈ TB := tb_8 (List.mem_of_getElem? (i := 185) rfl) rfl
theorem se_X9_X9_needed : Cond.selects RX9 yX9_needed yX9_needed ∈ TB := tb_8 (List.mem_of_getElem? (i := 186) rfl) rfl
theorem co_X9_needed : Cond.code yX9_needed cX9_needed 5 (some .int) ∈ TB := tb_8 (List.mem_of_getElem? (i := 187) rfl) rfl
theorem ml_L_182 : Cond.methodLink RL 182 yX9_plan ∈ TB := tb_8 (List.mem_of_getElem? (i := 188) rfl) rfl
theorem im_X9_plan : Cond.instanceMethod yX9_plan ∈ TB := tb_8 (List.mem_of_getElem? (i := 189) rfl) rfl
theorem se_X9_X9_plan : Cond.selects RX9 yX9_plan yX9_plan ∈ TB := tb_8 (List.mem_of_getElem? (i := 190) rfl) rfl
theorem co_X9_plan : Cond.code yX9_plan cX9_plan 3 (some .int) ∈ TB := tb_8 (List.mem_of_getElem? (i := 191) rfl) rfl
theorem ml_X9_454 : Cond.methodLink RX9 454 yX9_serve ∈ TB := tb_8 (List.mem_of_getElem? (i := 192) rfl) rfl
theorem im_X9_serve : Cond.instanceMethod yX9_serve ∈ TB := tb_8 (List.mem_of_getElem? (i := 194) rfl) rfl
theorem co_X9_serve : Cond.code yX9_serve cX9_serve 6 (some .int) ∈ TB := tb_8 (List.mem_of_getElem? (i := 195) rfl) rfl
theorem ct_X9_450 : Cond.constant RX9 450 (1000000) ∈ TB := tb_8 (List.mem_of_getElem? (i := 196) rfl) rfl
theorem ml_X9_451 : Cond.methodLink RX9 451 yX9_knotsFor ∈ TB := tb_8 (List.mem_of_getElem? (i := 197) rfl) rfl
theorem im_X9_knotsFor : Cond.instanceMethod yX9_knotsFor ∈ TB := tb_8 (List.mem_of_getElem? (i := 199) rfl) rfl
theorem co_X9_knotsFor : Cond.code yX9_knotsFor cX9_knotsFor 4 (some .int) ∈ TB := tb_8 (List.mem_of_getElem? (i := 200) rfl) rfl
theorem ml_L_186 : Cond.methodLink RL 186 yX9_spread ∈ TB := tb_8 (List.mem_of_getElem? (i := 201) rfl) rfl
theorem im_X9_spread : Cond.instanceMethod yX9_spread ∈ TB := tb_8 (List.mem_of_getElem? (i := 202) rfl) rfl
theorem se_X9_X9_spread : Cond.selects RX9 yX9_spread yX9_spread ∈ TB := tb_8 (List.mem_of_getElem? (i := 203) rfl) rfl
theorem co_X9_spread : Cond.code yX9_spread cX9_spread 3 (some .int) ∈ TB := tb_8 (List.mem_of_getElem? (i := 204) rfl) rfl
theorem ml_L_190 : Cond.methodLink RL 190 yX9_holds ∈ TB := tb_8 (List.mem_of_getElem? (i := 205) rfl) rfl
theorem im_X9_holds : Cond.instanceMethod yX9_holds ∈ TB := tb_8 (List.mem_of_getElem? (i := 206) rfl) rfl
theorem se_X9_X9_holds : Cond.selects RX9 yX9_holds yX9_holds ∈ TB := tb_8 (List.mem_of_getElem? (i := 207) rfl) rfl
theorem co_X9_holds : Cond.code yX9_holds cX9_holds 2 (some .boolean) ∈ TB := tb_8 (List.mem_of_getElem? (i := 208) rfl) rfl
theorem cu_X9_457 : Cond.constantLong RX9 457 (16) ∈ TB := tb_8 (List.mem_of_getElem? (i := 209) rfl) rfl
theorem ml_X9_459 : Cond.methodLink RX9 459 yX9_power ∈ TB := tb_8 (List.mem_of_getElem? (i := 210) rfl) rfl
theorem sm_X9_power : Cond.static yX9_power ∈ TB := tb_8 (List.mem_of_getElem? (i := 211) rfl) rfl
theorem co_X9_power : Cond.code yX9_power cX9_power 6 (some .long) ∈ TB := tb_8 (List.mem_of_getElem? (i := 212) rfl) rfl
theorem ml_L_194 : Cond.methodLink RL 194 yX9_best ∈ TB := tb_8 (List.mem_of_getElem? (i := 213) rfl) rfl
theorem im_X9_best : Cond.instanceMethod yX9_best ∈ TB := tb_8 (List.mem_of_getElem? (i := 214) rfl) rfl
theorem se_X9_X9_best : Cond.selects RX9 yX9_best yX9_best ∈ TB := tb_8 (List.mem_of_getElem? (i := 215) rfl) rfl
theorem co_X9_best : Cond.code yX9_best cX9_best 4 (some .int) ∈ TB := tb_8 (List.mem_of_getElem? (i := 216) rfl) rfl
theorem ml_X9_463 : Cond.methodLink RX9 463 yX9_holding ∈ TB := tb_8 (List.mem_of_getElem? (i := 217) rfl) rfl
theorem im_X9_holding : Cond.instanceMethod yX9_holding ∈ TB := tb_8 (List.mem_of_getElem? (i := 219) rfl) rfl
theorem co_X9_holding : Cond.code yX9_holding cX9_holding 2 (some .long) ∈ TB := tb_8 (List.mem_of_getElem? (i := 220) rfl) rfl
theorem ml_L_198 : Cond.methodLink RL 198 yX9_drawing ∈ TB := tb_8 (List.mem_of_getElem? (i := 221) rfl) rfl
theorem im_X9_drawing : Cond.instanceMethod yX9_drawing ∈ TB := tb_8 (List.mem_of_getElem? (i := 222) rfl) rfl
theorem se_X9_X9_drawing : Cond.selects RX9 yX9_drawing yX9_drawing ∈ TB := tb_8 (List.mem_of_getElem? (i := 223) rfl) rfl
theorem co_X9_drawing : Cond.code yX9_drawing cX9_drawing 2 (some .int) ∈ TB := tb_8 (List.mem_of_getElem? (i := 224) rfl) rfl
theorem ml_X9_467 : Cond.methodLink RX9 467 yX9_minutes ∈ TB := tb_8 (List.mem_of_getElem? (i := 225) rfl) rfl
theorem im_X9_minutes : Cond.instanceMethod yX9_minutes ∈ TB := tb_8 (List.mem_of_getElem? (i := 227) rfl) rfl
theorem co_X9_minutes : Cond.code yX9_minutes cX9_minutes 4 (some .int) ∈ TB := tb_8 (List.mem_of_getElem? (i := 228) rfl) rfl
theorem ml_L_202 : Cond.methodLink RL 202 yX9_waiting ∈ TB := tb_8 (List.mem_of_getElem? (i := 229) rfl) rfl
theorem im_X9_waiting : Cond.instanceMethod yX9_waiting ∈ TB := tb_8 (List.mem_of_getElem? (i := 230) rfl) rfl
theorem se_X9_X9_waiting : Cond.selects RX9 yX9_waiting yX9_waiting ∈ TB := tb_8 (List.mem_of_getElem? (i := 231) rfl) rfl
theorem co_X9_waiting : Cond.code yX9_waiting cX9_waiting 3 (some .int) ∈ TB := tb_8 (List.mem_of_getElem? (i := 232) rfl) rfl
theorem ml_X9_479 : Cond.methodLink RX9 479 yX9_whyNoQueue ∈ TB := tb_8 (List.mem_of_getElem? (i := 233) rfl) rfl
theorem im_X9_whyNoQueue : Cond.instanceMethod yX9_whyNoQueue ∈ TB := tb_8 (List.mem_of_getElem? (i := 235) rfl) rfl
theorem co_X9_whyNoQueue : Cond.code yX9_whyNoQueue cX9_whyNoQueue 7 (some .int) ∈ TB := tb_8 (List.mem_of_getElem? (i := 236) rfl) rfl
theorem ml_X9_470 : Cond.methodLink RX9 470 yX9_isTray ∈ TB := tb_8 (List.mem_of_getElem? (i := 237) rfl) rfl
theorem im_X9_isTray : Cond.instanceMethod yX9_isTray ∈ TB := tb_8 (List.mem_of_getElem? (i := 239) rfl) rfl
theorem co_X9_isTray : Cond.code yX9_isTray cX9_isTray 2 (some .boolean) ∈ TB := tb_9 (List.mem_of_getElem? (i := 0) rfl) rfl
theorem cu_X9_95 : Cond.constantLong RX9 95 (3) ∈ TB := tb_9 (List.mem_of_getElem? (i := 1) rfl) rfl
theorem cu_X9_473 : Cond.constantLong RX9 473 (8) ∈ TB := tb_9 (List.mem_of_getElem? (i := 2) rfl) rfl
theorem ml_X9_475 : Cond.methodLink RX9 475 yX9_numberOf ∈ TB := tb_9 (List.mem_of_getElem? (i := 3) rfl) rfl
theorem im_X9_numberOf : Cond.instanceMethod yX9_numberOf ∈ TB := tb_9 (List.mem_of_getElem? (i := 5) rfl) rfl
theorem co_X9_numberOf : Cond.code yX9_numberOf cX9_numberOf 3 (some .long) ∈ TB := tb_9 (List.mem_of_getElem? (i := 6) rfl) rfl
theorem ml_X9_482 : Cond.methodLink RX9 482 yX9_waits ∈ TB := tb_9 (List.mem_of_getElem? (i := 7) rfl) rfl
theorem im_X9_waits : Cond.instanceMethod yX9_waits ∈ TB := tb_9 (List.mem_of_getElem? (i := 9) rfl) rfl
theorem co_X9_waits : Cond.code yX9_waits cX9_waits 5 (some .int) ∈ TB := tb_9 (List.mem_of_getElem? (i := 10) rfl) rfl
theorem ml_L_206 : Cond.methodLink RL 206 yX9_leastWaiting ∈ TB := tb_9 (List.mem_of_getElem? (i := 11) rfl) rfl
theorem im_X9_leastWaiting : Cond.instanceMethod yX9_leastWaiting ∈ TB := tb_9 (List.mem_of_getElem? (i := 12) rfl) rfl
theorem se_X9_X9_leastWaiting : Cond.selects RX9 yX9_leastWaiting yX9_leastWaiting ∈ TB := tb_9 (List.mem_of_getElem? (i := 13) rfl) rfl
theorem co_X9_leastWaiting : Cond.code yX9_leastWaiting cX9_leastWaiting 6 (some .int) ∈ TB := tb_9 (List.mem_of_getElem? (i := 14) rfl) rfl
theorem ml_L_210 : Cond.methodLink RL 210 yX9_mark ∈ TB := tb_9 (List.mem_of_getElem? (i := 15) rfl) rfl
theorem im_X9_mark : Cond.instanceMethod yX9_mark ∈ TB := tb_9 (List.mem_of_getElem? (i := 16) rfl) rfl
theorem se_X9_X9_mark : Cond.selects RX9 yX9_mark yX9_mark ∈ TB := tb_9 (List.mem_of_getElem? (i := 17) rfl) rfl
theorem co_X9_mark : Cond.code yX9_mark cX9_mark 1 (some .int) ∈ TB := tb_9 (List.mem_of_getElem? (i := 18) rfl) rfl
theorem ml_X9_488 : Cond.methodLink RX9 488 yX9_copy ∈ TB := tb_9 (List.mem_of_getElem? (i := 19) rfl) rfl
theorem im_X9_copy : Cond.instanceMethod yX9_copy ∈ TB := tb_9 (List.mem_of_getElem? (i := 21) rfl) rfl
theorem co_X9_copy : Cond.code yX9_copy cX9_copy 4 none ∈ TB := tb_9 (List.mem_of_getElem? (i := 22) rfl) rfl
theorem ml_L_214 : Cond.methodLink RL 214 yX9_back ∈ TB := tb_9 (List.mem_of_getElem? (i := 23) rfl) rfl
theorem im_X9_back : Cond.instanceMethod yX9_back ∈ TB := tb_9 (List.mem_of_getElem? (i := 24) rfl) rfl
theorem se_X9_X9_back : Cond.selects RX9 yX9_back yX9_back ∈ TB := tb_9 (List.mem_of_getElem? (i := 25) rfl) rfl
theorem co_X9_back : Cond.code yX9_back cX9_back 1 (some .int) ∈ TB := tb_9 (List.mem_of_getElem? (i := 26) rfl) rfl
theorem cu_L_32 : Cond.constantLong RL 32 (4294967295) ∈ TB := tb_9 (List.mem_of_getElem? (i := 27) rfl) rfl
theorem fl_J0_15 : Cond.fieldLink RJ0 15 "java/lang/String" "coder" "B" ∈ TB := tb_9 (List.mem_of_getElem? (i := 28) rfl) rfl
theorem fl_J0_9 : Cond.fieldLink RJ0 9 "java/lang/String" "value" "[B" ∈ TB := tb_9 (List.mem_of_getElem? (i := 29) rfl) rfl
theorem se_X8_X8_isTray : Cond.selects RX8 yX8_isTray yX8_isTray ∈ TB := tb_s1 (List.mem_of_getElem? (i := 0) rfl)
theorem se_X8_X8_refuse : Cond.selects RX8 yX8_refuse yX8_refuse ∈ TB := tb_s1 (List.mem_of_getElem? (i := 1) rfl)
theorem se_X8_X8_accept : Cond.selects RX8 yX8_accept yX8_accept ∈ TB := tb_s1 (List.mem_of_getElem? (i := 2) rfl)
theorem se_X8_X8_placeStatus : Cond.selects RX8 yX8_placeStatus yX8_placeStatus ∈ TB := tb_s1 (List.mem_of_getElem? (i := 3) rfl)
theorem se_X8_X8_none : Cond.selects RX8 yX8_none yX8_none ∈ TB := tb_s1 (List.mem_of_getElem? (i := 4) rfl)
theorem se_X8_X8_pourStatus : Cond.selects RX8 yX8_pourStatus yX8_pourStatus ∈ TB := tb_s1 (List.mem_of_getElem? (i := 5) rfl)
theorem se_X8_X8_putOnTape : Cond.selects RX8 yX8_putOnTape yX8_putOnTape ∈ TB := tb_s1 (List.mem_of_getElem? (i := 6) rfl)
theorem se_X6_X6_readPart : Cond.selects RX6 yX6_readPart yX6_readPart ∈ TB := tb_s1 (List.mem_of_getElem? (i := 7) rfl)
theorem se_X6_X6_readWater : Cond.selects RX6 yX6_readWater yX6_readWater ∈ TB := tb_s1 (List.mem_of_getElem? (i := 8) rfl)
theorem se_X6_X6_readRain : Cond.selects RX6 yX6_readRain yX6_readRain ∈ TB := tb_s1 (List.mem_of_getElem? (i := 9) rfl)
theorem se_X6_X6_readPerson : Cond.selects RX6 yX6_readPerson yX6_readPerson ∈ TB := tb_s1 (List.mem_of_getElem? (i := 10) rfl)
theorem se_X6_X6_takeNewName : Cond.selects RX6 yX6_takeNewName yX6_takeNewName ∈ TB := tb_s1 (List.mem_of_getElem? (i := 11) rfl)
theorem se_X6_X6_isName : Cond.selects RX6 yX6_isName yX6_isName ∈ TB := tb_s1 (List.mem_of_getElem? (i := 12) rfl)
theorem se_X6_X6_isReserved : Cond.selects RX6 yX6_isReserved yX6_isReserved ∈ TB := tb_s1 (List.mem_of_getElem? (i := 13) rfl)
theorem se_X6_X6_isReservedAt : Cond.selects RX6 yX6_isReservedAt yX6_isReservedAt ∈ TB := tb_s1 (List.mem_of_getElem? (i := 14) rfl)
theorem se_X6_X6_findName : Cond.selects RX6 yX6_findName yX6_findName ∈ TB := tb_s1 (List.mem_of_getElem? (i := 15) rfl)
theorem se_X6_X6_takePerson : Cond.selects RX6 yX6_takePerson yX6_takePerson ∈ TB := tb_s2 (List.mem_of_getElem? (i := 0) rfl)
theorem se_X6_X6_keepName : Cond.selects RX6 yX6_keepName yX6_keepName ∈ TB := tb_s2 (List.mem_of_getElem? (i := 1) rfl)
theorem se_X6_X6_readRope : Cond.selects RX6 yX6_readRope yX6_readRope ∈ TB := tb_s2 (List.mem_of_getElem? (i := 2) rfl)
theorem se_X6_X6_readPieces : Cond.selects RX6 yX6_readPieces yX6_readPieces ∈ TB := tb_s2 (List.mem_of_getElem? (i := 3) rfl)
theorem se_X6_X6_readFlood : Cond.selects RX6 yX6_readFlood yX6_readFlood ∈ TB := tb_s2 (List.mem_of_getElem? (i := 4) rfl)
theorem se_X8_X8_noteFault : Cond.selects RX8 yX8_noteFault yX8_noteFault ∈ TB := tb_s2 (List.mem_of_getElem? (i := 5) rfl)
theorem se_X8_X8_tell : Cond.selects RX8 yX8_tell yX8_tell ∈ TB := tb_s2 (List.mem_of_getElem? (i := 6) rfl)
theorem se_X1_X1_readRule : Cond.selects RX1 yX1_readRule yX1_readRule ∈ TB := tb_s2 (List.mem_of_getElem? (i := 7) rfl)
theorem se_X1_X1_readEither : Cond.selects RX1 yX1_readEither yX1_readEither ∈ TB := tb_s2 (List.mem_of_getElem? (i := 8) rfl)
theorem se_X1_X1_readOne : Cond.selects RX1 yX1_readOne yX1_readOne ∈ TB := tb_s2 (List.mem_of_getElem? (i := 9) rfl)
theorem se_X1_X1_factHere : Cond.selects RX1 yX1_factHere yX1_factHere ∈ TB := tb_s2 (List.mem_of_getElem? (i := 10) rfl)
theorem se_X1_X1_readCase : Cond.selects RX1 yX1_readCase yX1_readCase ∈ TB := tb_s2 (List.mem_of_getElem? (i := 11) rfl)
theorem se_X1_X1_keepStep : Cond.selects RX1 yX1_keepStep yX1_keepStep ∈ TB := tb_s2 (List.mem_of_getElem? (i := 12) rfl)
theorem se_X1_X1_whomHere : Cond.selects RX1 yX1_whomHere yX1_whomHere ∈ TB := tb_s2 (List.mem_of_getElem? (i := 13) rfl)
theorem se_X8_X8_isPerson : Cond.selects RX8 yX8_isPerson yX8_isPerson ∈ TB := tb_s2 (List.mem_of_getElem? (i := 14) rfl)
theorem se_X8_X8_tellIf : Cond.selects RX8 yX8_tellIf yX8_tellIf ∈ TB := tb_s2 (List.mem_of_getElem? (i := 15) rfl)
theorem se_X8_X8_isRope : Cond.selects RX8 yX8_isRope yX8_isRope ∈ TB := tb_s3 (List.mem_of_getElem? (i := 0) rfl)
theorem se_X8_X8_isSeed : Cond.selects RX8 yX8_isSeed yX8_isSeed ∈ TB := tb_s3 (List.mem_of_getElem? (i := 1) rfl)
theorem se_X7_X7_bury : Cond.selects RX7 yX7_bury yX7_bury ∈ TB := tb_s3 (List.mem_of_getElem? (i := 2) rfl)
theorem se_X7_X7_handDown : Cond.selects RX7 yX7_handDown yX7_handDown ∈ TB := tb_s3 (List.mem_of_getElem? (i := 3) rfl)
theorem se_X7_X7_findFacts : Cond.selects RX7 yX7_findFacts yX7_findFacts ∈ TB := tb_s3 (List.mem_of_getElem? (i := 4) rfl)
theorem se_X7_X7_poorestOf : Cond.selects RX7 yX7_poorestOf yX7_poorestOf ∈ TB := tb_s3 (List.mem_of_getElem? (i := 5) rfl)
theorem se_X7_X7_isForEach : Cond.selects RX7 yX7_isForEach yX7_isForEach ∈ TB := tb_s3 (List.mem_of_getElem? (i := 6) rfl)
theorem se_X7_X7_shareOut : Cond.selects RX7 yX7_shareOut yX7_shareOut ∈ TB := tb_s3 (List.mem_of_getElem? (i := 7) rfl)
theorem se_X8_X8_isAhead : Cond.selects RX8 yX8_isAhead yX8_isAhead ∈ TB := tb_s3 (List.mem_of_getElem? (i := 8) rfl)
theorem se_X8_X8_yearsLeft : Cond.selects RX8 yX8_yearsLeft yX8_yearsLeft ∈ TB := tb_s3 (List.mem_of_getElem? (i := 9) rfl)
theorem se_X8_X8_lookAhead : Cond.selects RX8 yX8_lookAhead yX8_lookAhead ∈ TB := tb_s3 (List.mem_of_getElem? (i := 10) rfl)
theorem se_X8_X8_tellFraction : Cond.selects RX8 yX8_tellFraction yX8_tellFraction ∈ TB := tb_s3 (List.mem_of_getElem? (i := 11) rfl)
theorem se_X8_X8_part : Cond.selects RX8 yX8_part yX8_part ∈ TB := tb_s3 (List.mem_of_getElem? (i := 12) rfl)
theorem se_X2_X2_fillSets : Cond.selects RX2 yX2_fillSets yX2_fillSets ∈ TB := tb_s3 (List.mem_of_getElem? (i := 13) rfl)
theorem se_X2_X2_with : Cond.selects RX2 yX2_with yX2_with ∈ TB := tb_s3 (List.mem_of_getElem? (i := 14) rfl)
theorem se_X8_X8_queueStatus : Cond.selects RX8 yX8_queueStatus yX8_queueStatus ∈ TB := tb_s3 (List.mem_of_getElem? (i := 15) rfl)
theorem se_X8_X8_rowStatus : Cond.selects RX8 yX8_rowStatus yX8_rowStatus ∈ TB := tb_s4 (List.mem_of_getElem? (i := 0) rfl)
theorem se_X8_X8_waitTogether : Cond.selects RX8 yX8_waitTogether yX8_waitTogether ∈ TB := tb_s4 (List.mem_of_getElem? (i := 1) rfl)
theorem se_X8_X8_sortMinutes : Cond.selects RX8 yX8_sortMinutes yX8_sortMinutes ∈ TB := tb_s4 (List.mem_of_getElem? (i := 2) rfl)
theorem se_X9_X9_clear : Cond.selects RX9 yX9_clear yX9_clear ∈ TB := tb_s4 (List.mem_of_getElem? (i := 3) rfl)
theorem se_X9_X9_no : Cond.selects RX9 yX9_no yX9_no ∈ TB := tb_s4 (List.mem_of_getElem? (i := 4) rfl)
theorem se_X9_X9_placed : Cond.selects RX9 yX9_placed yX9_placed ∈ TB := tb_s4 (List.mem_of_getElem? (i := 5) rfl)
theorem se_X9_X9_trayed : Cond.selects RX9 yX9_trayed yX9_trayed ∈ TB := tb_s4 (List.mem_of_getElem? (i := 6) rfl)
theorem se_X9_X9_lay : Cond.selects RX9 yX9_lay yX9_lay ∈ TB := tb_s4 (List.mem_of_getElem? (i := 7) rfl)
theorem se_X9_X9_opens : Cond.selects RX9 yX9_opens yX9_opens ∈ TB := tb_s4 (List.mem_of_getElem? (i := 8) rfl)
theorem se_X9_X9_next : Cond.selects RX9 yX9_next yX9_next ∈ TB := tb_s4 (List.mem_of_getElem? (i := 9) rfl)
theorem se_X9_X9_look2 : Cond.selects RX9 yX9_look2 yX9_look2 ∈ TB := tb_s4 (List.mem_of_getElem? (i := 10) rfl)
theorem se_X9_X9_isSignByte : Cond.selects RX9 yX9_isSignByte yX9_isSignByte ∈ TB := tb_s4 (List.mem_of_getElem? (i := 11) rfl)
theorem se_X9_X9_isWater : Cond.selects RX9 yX9_isWater yX9_isWater ∈ TB := tb_s4 (List.mem_of_getElem? (i := 12) rfl)
theorem se_X9_X9_isWord : Cond.selects RX9 yX9_isWord yX9_isWord ∈ TB := tb_s4 (List.mem_of_getElem? (i := 13) rfl)
theorem se_X9_X9_readWater : Cond.selects RX9 yX9_readWater yX9_readWater ∈ TB := tb_s4 (List.mem_of_getElem? (i := 14) rfl)
theorem se_X9_X9_fail : Cond.selects RX9 yX9_fail yX9_fail ∈ TB := tb_s4 (List.mem_of_getElem? (i := 15) rfl)
theorem se_X9_X9_count : Cond.selects RX9 yX9_count yX9_count ∈ TB := tb_s5 (List.mem_of_getElem? (i := 0) rfl)
theorem se_X9_X9_wrong : Cond.selects RX9 yX9_wrong yX9_wrong ∈ TB := tb_s5 (List.mem_of_getElem? (i := 1) rfl)
theorem se_X9_X9_isBottom : Cond.selects RX9 yX9_isBottom yX9_isBottom ∈ TB := tb_s5 (List.mem_of_getElem? (i := 2) rfl)
theorem se_X9_X9_must : Cond.selects RX9 yX9_must yX9_must ∈ TB := tb_s5 (List.mem_of_getElem? (i := 3) rfl)
theorem se_X9_X9_isSinks : Cond.selects RX9 yX9_isSinks yX9_isSinks ∈ TB := tb_s5 (List.mem_of_getElem? (i := 4) rfl)
theorem se_X9_X9_isRain : Cond.selects RX9 yX9_isRain yX9_isRain ∈ TB := tb_s5 (List.mem_of_getElem? (i := 5) rfl)
theorem se_X9_X9_isBy : Cond.selects RX9 yX9_isBy yX9_isBy ∈ TB := tb_s5 (List.mem_of_getElem? (i := 6) rfl)
theorem se_X9_X9_isPersonWord : Cond.selects RX9 yX9_isPersonWord yX9_isPersonWord ∈ TB := tb_s5 (List.mem_of_getElem? (i := 7) rfl)
theorem se_X9_X9_readPerson : Cond.selects RX9 yX9_readPerson yX9_readPerson ∈ TB := tb_s5 (List.mem_of_getElem? (i := 8) rfl)
theorem se_X9_X9_readNew : Cond.selects RX9 yX9_readNew yX9_readNew ∈ TB := tb_s5 (List.mem_of_getElem? (i := 9) rfl)
theorem se_X9_X9_isName : Cond.selects RX9 yX9_isName yX9_isName ∈ TB := tb_s5 (List.mem_of_getElem? (i := 10) rfl)
theorem se_X9_X9_isKept : Cond.selects RX9 yX9_isKept yX9_isKept ∈ TB := tb_s5 (List.mem_of_getElem? (i := 11) rfl)
theorem se_X9_X9_isOf : Cond.selects RX9 yX9_isOf yX9_isOf ∈ TB := tb_s5 (List.mem_of_getElem? (i := 12) rfl)
theorem se_X9_X9_isDies : Cond.selects RX9 yX9_isDies yX9_isDies ∈ TB := tb_s5 (List.mem_of_getElem? (i := 13) rfl)
theorem se_X9_X9_isRopeWord : Cond.selects RX9 yX9_isRopeWord yX9_isRopeWord ∈ TB := tb_s5 (List.mem_of_getElem? (i := 14) rfl)
theorem se_X9_X9_isSlips : Cond.selects RX9 yX9_isSlips yX9_isSlips ∈ TB := tb_s5 (List.mem_of_getElem? (i := 15) rfl)
theorem se_X9_X9_isFlood : Cond.selects RX9 yX9_isFlood yX9_isFlood ∈ TB := tb_s6 (List.mem_of_getElem? (i := 0) rfl)
theorem se_X9_X9_isTo : Cond.selects RX9 yX9_isTo yX9_isTo ∈ TB := tb_s6 (List.mem_of_getElem? (i := 1) rfl)
theorem se_X9_X9_isIf : Cond.selects RX9 yX9_isIf yX9_isIf ∈ TB := tb_s6 (List.mem_of_getElem? (i := 2) rfl)
theorem se_X9_X9_isGive : Cond.selects RX9 yX9_isGive yX9_isGive ∈ TB := tb_s6 (List.mem_of_getElem? (i := 3) rfl)
theorem se_X9_X9_isOr : Cond.selects RX9 yX9_isOr yX9_isOr ∈ TB := tb_s6 (List.mem_of_getElem? (i := 4) rfl)
theorem se_X9_X9_isAnd : Cond.selects RX9 yX9_isAnd yX9_isAnd ∈ TB := tb_s6 (List.mem_of_getElem? (i := 5) rfl)
theorem se_X9_X9_isNot : Cond.selects RX9 yX9_isNot yX9_isNot ∈ TB := tb_s6 (List.mem_of_getElem? (i := 6) rfl)
theorem se_X9_X9_caseWord : Cond.selects RX9 yX9_caseWord yX9_caseWord ∈ TB := tb_s6 (List.mem_of_getElem? (i := 7) rfl)
theorem se_X9_X9_isHoly : Cond.selects RX9 yX9_isHoly yX9_isHoly ∈ TB := tb_s6 (List.mem_of_getElem? (i := 8) rfl)
theorem se_X9_X9_isYards : Cond.selects RX9 yX9_isYards yX9_isYards ∈ TB := tb_s6 (List.mem_of_getElem? (i := 9) rfl)
theorem se_X9_X9_isAge : Cond.selects RX9 yX9_isAge yX9_isAge ∈ TB := tb_s6 (List.mem_of_getElem? (i := 10) rfl)
theorem se_X9_X9_whomWord : Cond.selects RX9 yX9_whomWord yX9_whomWord ∈ TB := tb_s6 (List.mem_of_getElem? (i := 11) rfl)
theorem se_X9_X9_named : Cond.selects RX9 yX9_named yX9_named ∈ TB := tb_s6 (List.mem_of_getElem? (i := 12) rfl)
theorem se_X9_X9_readPersonName : Cond.selects RX9 yX9_readPersonName yX9_readPersonName ∈ TB := tb_s6 (List.mem_of_getElem? (i := 13) rfl)
theorem se_X9_X9_readRope : Cond.selects RX9 yX9_readRope yX9_readRope ∈ TB := tb_s6 (List.mem_of_getElem? (i := 14) rfl)
theorem se_X9_X9_readFlood : Cond.selects RX9 yX9_readFlood yX9_readFlood ∈ TB := tb_s6 (List.mem_of_getElem? (i := 15) rfl)
theorem se_X9_X9_isSign : Cond.selects RX9 yX9_isSign yX9_isSign ∈ TB := tb_s7 (List.mem_of_getElem? (i := 0) rfl)
theorem se_X9_X9_isWell : Cond.selects RX9 yX9_isWell yX9_isWell ∈ TB := tb_s7 (List.mem_of_getElem? (i := 1) rfl)
theorem se_X9_X9_readRule : Cond.selects RX9 yX9_readRule yX9_readRule ∈ TB := tb_s7 (List.mem_of_getElem? (i := 2) rfl)
theorem se_X9_X9_readEither : Cond.selects RX9 yX9_readEither yX9_readEither ∈ TB := tb_s7 (List.mem_of_getElem? (i := 3) rfl)
theorem se_X9_X9_readBoth : Cond.selects RX9 yX9_readBoth yX9_readBoth ∈ TB := tb_s7 (List.mem_of_getElem? (i := 4) rfl)
theorem se_X9_X9_readOne : Cond.selects RX9 yX9_readOne yX9_readOne ∈ TB := tb_s7 (List.mem_of_getElem? (i := 5) rfl)
theorem se_X9_X9_ruleStep : Cond.selects RX9 yX9_ruleStep yX9_ruleStep ∈ TB := tb_s7 (List.mem_of_getElem? (i := 6) rfl)
theorem se_X9_X9_ropes : Cond.selects RX9 yX9_ropes yX9_ropes ∈ TB := tb_s7 (List.mem_of_getElem? (i := 7) rfl)
theorem se_X9_X9_isRope : Cond.selects RX9 yX9_isRope yX9_isRope ∈ TB := tb_s7 (List.mem_of_getElem? (i := 8) rfl)
theorem se_X9_X9_depthNow : Cond.selects RX9 yX9_depthNow yX9_depthNow ∈ TB := tb_s7 (List.mem_of_getElem? (i := 9) rfl)
theorem se_X9_X9_refuse : Cond.selects RX9 yX9_refuse yX9_refuse ∈ TB := tb_s7 (List.mem_of_getElem? (i := 10) rfl)
theorem se_X9_X9_isPerson : Cond.selects RX9 yX9_isPerson yX9_isPerson ∈ TB := tb_s7 (List.mem_of_getElem? (i := 11) rfl)
theorem se_X9_X9_isAlive : Cond.selects RX9 yX9_isAlive yX9_isAlive ∈ TB := tb_s7 (List.mem_of_getElem? (i := 12) rfl)
theorem se_X9_X9_yardsOwn : Cond.selects RX9 yX9_yardsOwn yX9_yardsOwn ∈ TB := tb_s7 (List.mem_of_getElem? (i := 13) rfl)
theorem se_X9_X9_yardsOfRope : Cond.selects RX9 yX9_yardsOfRope yX9_yardsOfRope ∈ TB := tb_s7 (List.mem_of_getElem? (i := 14) rfl)
theorem se_X9_X9_yardsHeld : Cond.selects RX9 yX9_yardsHeld yX9_yardsHeld ∈ TB := tb_s7 (List.mem_of_getElem? (i := 15) rfl)
theorem se_X9_X9_isHeld : Cond.selects RX9 yX9_isHeld yX9_isHeld ∈ TB := tb_s8 (List.mem_of_getElem? (i := 0) rfl)
theorem se_X9_X9_childrenOf : Cond.selects RX9 yX9_childrenOf yX9_childrenOf ∈ TB := tb_s8 (List.mem_of_getElem? (i := 1) rfl)
theorem se_X9_X9_reachOf : Cond.selects RX9 yX9_reachOf yX9_reachOf ∈ TB := tb_s8 (List.mem_of_getElem? (i := 2) rfl)
theorem se_X9_X9_knotsOfRope : Cond.selects RX9 yX9_knotsOfRope yX9_knotsOfRope ∈ TB := tb_s8 (List.mem_of_getElem? (i := 3) rfl)
theorem se_X9_X9_oldest : Cond.selects RX9 yX9_oldest yX9_oldest ∈ TB := tb_s8 (List.mem_of_getElem? (i := 4) rfl)
theorem se_X9_X9_ageOf : Cond.selects RX9 yX9_ageOf yX9_ageOf ∈ TB := tb_s8 (List.mem_of_getElem? (i := 5) rfl)
theorem se_X9_X9_oneYear : Cond.selects RX9 yX9_oneYear yX9_oneYear ∈ TB := tb_s8 (List.mem_of_getElem? (i := 6) rfl)
theorem se_X9_X9_inherit : Cond.selects RX9 yX9_inherit yX9_inherit ∈ TB := tb_s8 (List.mem_of_getElem? (i := 7) rfl)
theorem se_X9_X9_whomFor : Cond.selects RX9 yX9_whomFor yX9_whomFor ∈ TB := tb_s8 (List.mem_of_getElem? (i := 8) rfl)
theorem se_X9_X9_holdsRule : Cond.selects RX9 yX9_holdsRule yX9_holdsRule ∈ TB := tb_s8 (List.mem_of_getElem? (i := 9) rfl)
theorem se_X9_X9_isCase : Cond.selects RX9 yX9_isCase yX9_isCase ∈ TB := tb_s8 (List.mem_of_getElem? (i := 10) rfl)
theorem se_X9_X9_reaches : Cond.selects RX9 yX9_reaches yX9_reaches ∈ TB := tb_s8 (List.mem_of_getElem? (i := 11) rfl)
theorem se_X9_X9_greatestOf : Cond.selects RX9 yX9_greatestOf yX9_greatestOf ∈ TB := tb_s8 (List.mem_of_getElem? (i := 12) rfl)
theorem se_X9_X9_poorestOf : Cond.selects RX9 yX9_poorestOf yX9_poorestOf ∈ TB := tb_s8 (List.mem_of_getElem? (i := 13) rfl)
theorem se_X9_X9_share2 : Cond.selects RX9 yX9_share2 yX9_share2 ∈ TB := tb_s8 (List.mem_of_getElem? (i := 14) rfl)
theorem se_X9_X9_partFrom : Cond.selects RX9 yX9_partFrom yX9_partFrom ∈ TB := tb_s8 (List.mem_of_getElem? (i := 15) rfl)
theorem se_X9_X9_freeRope : Cond.selects RX9 yX9_freeRope yX9_freeRope ∈ TB := tb_s9 (List.mem_of_getElem? (i := 0) rfl)
theorem se_X9_X9_leastOf : Cond.selects RX9 yX9_leastOf yX9_leastOf ∈ TB := tb_s9 (List.mem_of_getElem? (i := 1) rfl)
theorem se_X9_X9_isDrinking : Cond.selects RX9 yX9_isDrinking yX9_isDrinking ∈ TB := tb_s9 (List.mem_of_getElem? (i := 2) rfl)
theorem se_X9_X9_isDry : Cond.selects RX9 yX9_isDry yX9_isDry ∈ TB := tb_s9 (List.mem_of_getElem? (i := 3) rfl)
theorem se_X9_X9_drinkers : Cond.selects RX9 yX9_drinkers yX9_drinkers ∈ TB := tb_s9 (List.mem_of_getElem? (i := 4) rfl)
theorem se_X9_X9_isAhead : Cond.selects RX9 yX9_isAhead yX9_isAhead ∈ TB := tb_s9 (List.mem_of_getElem? (i := 5) rfl)
theorem se_X9_X9_goAhead : Cond.selects RX9 yX9_goAhead yX9_goAhead ∈ TB := tb_s9 (List.mem_of_getElem? (i := 6) rfl)
theorem se_X9_X9_keep : Cond.selects RX9 yX9_keep yX9_keep ∈ TB := tb_s9 (List.mem_of_getElem? (i := 7) rfl)
theorem se_X9_X9_takeAgain : Cond.selects RX9 yX9_takeAgain yX9_takeAgain ∈ TB := tb_s9 (List.mem_of_getElem? (i := 8) rfl)
theorem se_X9_X9_fraction : Cond.selects RX9 yX9_fraction yX9_fraction ∈ TB := tb_s9 (List.mem_of_getElem? (i := 9) rfl)
theorem se_X9_X9_isFree : Cond.selects RX9 yX9_isFree yX9_isFree ∈ TB := tb_s9 (List.mem_of_getElem? (i := 10) rfl)
theorem se_X9_X9_serve : Cond.selects RX9 yX9_serve yX9_serve ∈ TB := tb_s9 (List.mem_of_getElem? (i := 11) rfl)
theorem se_X9_X9_knotsFor : Cond.selects RX9 yX9_knotsFor yX9_knotsFor ∈ TB := tb_s9 (List.mem_of_getElem? (i := 12) rfl)
theorem se_X9_X9_holding : Cond.selects RX9 yX9_holding yX9_holding ∈ TB := tb_s9 (List.mem_of_getElem? (i := 13) rfl)
theorem se_X9_X9_minutes : Cond.selects RX9 yX9_minutes yX9_minutes ∈ TB := tb_s9 (List.mem_of_getElem? (i := 14) rfl)
theorem se_X9_X9_whyNoQueue : Cond.selects RX9 yX9_whyNoQueue yX9_whyNoQueue ∈ TB := tb_s9 (List.mem_of_getElem? (i := 15) rfl)
theorem se_X9_X9_isTray : Cond.selects RX9 yX9_isTray yX9_isTray ∈ TB := tb_s10 (List.mem_of_getElem? (i := 0) rfl)
theorem se_X9_X9_numberOf : Cond.selects RX9 yX9_numberOf yX9_numberOf ∈ TB := tb_s10 (List.mem_of_getElem? (i := 1) rfl)
theorem se_X9_X9_waits : Cond.selects RX9 yX9_waits yX9_waits ∈ TB := tb_s10 (List.mem_of_getElem? (i := 2) rfl)
theorem se_X9_X9_copy : Cond.selects RX9 yX9_copy yX9_copy ∈ TB := tb_s10 (List.mem_of_getElem? (i := 3) rfl)
theorem tb_inX0 : ∀ w ∈ wsX00, w ∈ TB := List.forall_mem_cons.mpr ⟨ly_X0_steps, List.forall_mem_cons.mpr ⟨ly_X0_rules, fun _ h => absurd h List.not_mem_nil⟩⟩
theorem tb_inX1 : ∀ w ∈ wsX10, w ∈ TB := List.forall_mem_cons.mpr ⟨ly_X1_tokens, List.forall_mem_cons.mpr ⟨ly_X1_rules, List.forall_mem_cons.mpr ⟨ly_X1_cases, List.forall_mem_cons.mpr ⟨ly_X1_size, List.forall_mem_cons.mpr ⟨ly_X1_steps, fun _ h => absurd h List.not_mem_nil⟩⟩⟩⟩⟩
theorem tb_inX2 : ∀ w ∈ wsX20, w ∈ TB := List.forall_mem_cons.mpr ⟨ly_X2_dry, List.forall_mem_cons.mpr ⟨ly_X2_alone, List.forall_mem_cons.mpr ⟨ly_X2_count, List.forall_mem_cons.mpr ⟨ly_X2_need, List.forall_mem_cons.mpr ⟨ly_X2_gain, List.forall_mem_cons.mpr ⟨ly_X2_full, List.forall_mem_cons.mpr ⟨ly_X2_fewest, fun _ h => absurd h List.not_mem_nil⟩⟩⟩⟩⟩⟩⟩
theorem tb_inX3 : ∀ w ∈ wsX30, w ∈ TB := List.forall_mem_cons.mpr ⟨ly_X3_owner, List.forall_mem_cons.mpr ⟨ly_X3_borrower, List.forall_mem_cons.mpr ⟨ly_X3_pieces, List.forall_mem_cons.mpr ⟨ly_X3_length, List.forall_mem_cons.mpr ⟨ly_X3_holy, List.forall_mem_cons.mpr ⟨ly_X3_slips, List.forall_mem_cons.mpr ⟨ly_X3_yards, List.forall_mem_cons.mpr ⟨ly_X3_age, fun _ h => absurd h List.not_mem_nil⟩⟩⟩⟩⟩⟩⟩⟩
theorem tb_inX4 : ∀ w ∈ wsX40, w ∈ TB := List.forall_mem_cons.mpr ⟨ly_X4_text, List.forall_mem_cons.mpr ⟨ly_X4_length, List.forall_mem_cons.mpr ⟨ly_X4_kind, List.forall_mem_cons.mpr ⟨ly_X4_start, List.forall_mem_cons.mpr ⟨ly_X4_end, List.forall_mem_cons.mpr ⟨ly_X4_value, List.forall_mem_cons.mpr ⟨ly_X4_taken, List.forall_mem_cons.mpr ⟨ly_X4_fault, List.forall_mem_cons.mpr ⟨ly_X4_faultPlace, fun _ h => absurd h List.not_mem_nil⟩⟩⟩⟩⟩⟩⟩⟩⟩
theorem tb_inX5 : ∀ w ∈ wsX50, w ∈ TB := List.forall_mem_cons.mpr ⟨ly_X5_numbers, List.forall_mem_cons.mpr ⟨ly_X5_sort, List.forall_mem_cons.mpr ⟨ly_X5_length, fun _ h => absurd h List.not_mem_nil⟩⟩⟩
theorem tb_inX6 : ∀ w ∈ wsX60, w ∈ TB := List.forall_mem_cons.mpr ⟨ly_X6_tokens, List.forall_mem_cons.mpr ⟨ly_X6_into, List.forall_mem_cons.mpr ⟨ly_X6_waterTold, List.forall_mem_cons.mpr ⟨ly_X6_ropesTold, List.forall_mem_cons.mpr ⟨ly_X6_names, List.forall_mem_cons.mpr ⟨ly_X6_nameStart, List.forall_mem_cons.mpr ⟨ly_X6_nameEnd, List.forall_mem_cons.mpr ⟨ly_X6_nameOf, List.forall_mem_cons.mpr ⟨ly_X6_newStart, List.forall_mem_cons.mpr ⟨ly_X6_newEnd, fun _ h => absurd h List.not_mem_nil⟩⟩⟩⟩⟩⟩⟩⟩⟩⟩
theorem tb_inX7 : ∀ w ∈ wsX70, w ∈ TB := List.forall_mem_cons.mpr ⟨ly_X7_year, List.forall_mem_cons.mpr ⟨ly_X7_water, List.forall_mem_cons.mpr ⟨ly_X7_deepest, List.forall_mem_cons.mpr ⟨ly_X7_sinks, List.forall_mem_cons.mpr ⟨ly_X7_rain, List.forall_mem_cons.mpr ⟨ly_X7_rainBy, List.forall_mem_cons.mpr ⟨ly_X7_draws, List.forall_mem_cons.mpr ⟨ly_X7_people, List.forall_mem_cons.mpr ⟨ly_X7_parent, List.forall_mem_cons.mpr ⟨ly_X7_dies, List.forall_mem_cons.mpr ⟨ly_X7_ropes, List.forall_mem_cons.mpr ⟨ly_X7_floods, List.forall_mem_cons.mpr ⟨ly_X7_floodFrom, List.forall_mem_cons.mpr ⟨ly_X7_floodTo, List.forall_mem_cons.mpr ⟨ly_X7_floodBy, List.forall_mem_cons.mpr ⟨ly_X7_facts, List.forall_mem_cons.mpr ⟨ly_X7_law, fun _ h => absurd h List.not_mem_nil⟩⟩⟩⟩⟩⟩⟩⟩⟩⟩⟩⟩⟩⟩⟩⟩⟩
theorem tb_inX8 : ∀ w ∈ wsX80, w ∈ TB := List.forall_mem_cons.mpr ⟨ly_X8_trays, List.forall_mem_cons.mpr ⟨ly_X8_tape, List.forall_mem_cons.mpr ⟨ly_X8_taped, List.forall_mem_cons.mpr ⟨ly_X8_now, List.forall_mem_cons.mpr ⟨ly_X8_then, List.forall_mem_cons.mpr ⟨ly_X8_marks, List.forall_mem_cons.mpr ⟨ly_X8_marked, List.forall_mem_cons.mpr ⟨ly_X8_wellReader, List.forall_mem_cons.mpr ⟨ly_X8_lawReader, List.forall_mem_cons.mpr ⟨ly_X8_planner, List.forall_mem_cons.mpr ⟨ly_X8_minutes, List.forall_mem_cons.mpr ⟨ly_X8_state, List.forall_mem_cons.mpr ⟨ly_X8_fractionTop, List.forall_mem_cons.mpr ⟨ly_X8_fractionBottom, List.forall_mem_cons.mpr ⟨ly_X8_faultKind, List.forall_mem_cons.mpr ⟨ly_X8_faultPlace, fun _ h => absurd h List.not_mem_nil⟩⟩⟩⟩⟩⟩⟩⟩⟩⟩⟩⟩⟩⟩⟩⟩
theorem tb_inX9 : ∀ w ∈ wsX90, w ∈ TB := List.forall_mem_cons.mpr ⟨ly_X9_status, List.forall_mem_cons.mpr ⟨ly_X9_thrown, List.forall_mem_cons.mpr ⟨ly_X9_above, List.forall_mem_cons.mpr ⟨ly_X9_under, List.forall_mem_cons.mpr ⟨ly_X9_traySort, List.forall_mem_cons.mpr ⟨ly_X9_trayMany, List.forall_mem_cons.mpr ⟨ly_X9_numbers, List.forall_mem_cons.mpr ⟨ly_X9_tape, List.forall_mem_cons.mpr ⟨ly_X9_taped, List.forall_mem_cons.mpr ⟨ly_X9_textEnd, List.forall_mem_cons.mpr ⟨ly_X9_faultKind, List.forall_mem_cons.mpr ⟨ly_X9_faultAt, List.forall_mem_cons.mpr ⟨ly_X9_bad, List.forall_mem_cons.mpr ⟨ly_X9_badAt, List.forall_mem_cons.mpr ⟨ly_X9_token, List.forall_mem_cons.mpr ⟨ly_X9_at, List.forall_mem_cons.mpr ⟨ly_X9_behind, List.forall_mem_cons.mpr ⟨ly_X9_number, List.forall_mem_cons.mpr ⟨ly_X9_letters, List.forall_mem_cons.mpr ⟨ly_X9_ruleEnd, List.forall_mem_cons.mpr ⟨ly_X9_cases, List.forall_mem_cons.mpr ⟨ly_X9_ropesRead, List.forall_mem_cons.mpr ⟨ly_X9_word, List.forall_mem_cons.mpr ⟨ly_X9_hasWater, List.forall_mem_cons.mpr ⟨ly_X9_c, List.forall_mem_cons.mpr ⟨ly_X9_kept, List.forall_mem_cons.mpr ⟨ly_X9_words, List.forall_mem_cons.mpr ⟨ly_X9_stack, List.forall_mem_cons.mpr ⟨ly_X9_markMany, List.forall_mem_cons.mpr ⟨ly_X9_knotsOf, List.forall_mem_cons.mpr ⟨ly_X9_served, List.forall_mem_cons.mpr ⟨ly_X9_rulesRead, List.forall_mem_cons.mpr ⟨ly_X9_queue, fun _ h => absurd h List.not_mem_nil⟩⟩⟩⟩⟩⟩⟩⟩⟩⟩⟩⟩⟩⟩⟩⟩⟩⟩⟩⟩⟩⟩⟩⟩⟩⟩⟩⟩⟩⟩⟩⟩⟩

theorem cb_16 : (Int8.ofInt 16).toInt32 = (16 : Int32) := by decide +kernel
theorem cb_8 : (Int8.ofInt 8).toInt32 = (8 : Int32) := by decide +kernel
theorem ci_0 : Int32.ofInt 0 = (0 : Int32) := by decide +kernel
theorem ci_1 : Int32.ofInt 1 = (1 : Int32) := by decide +kernel
theorem ci_m1 : Int32.ofInt (-1) = ((-1) : Int32) := by decide +kernel
theorem cl_1 : Int64.ofNat ((1 : Fin 2) : Nat) = (1 : Int64) := by decide +kernel
theorem cn_1 (x : Int32) : x + Int32.ofInt 1 = x + 1 := by rw [show Int32.ofInt 1 = (1 : Int32) by decide +kernel]

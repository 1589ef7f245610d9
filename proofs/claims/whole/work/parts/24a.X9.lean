theorem dX9_clear_0 : decode cX9_clear 0 = .ok (.iconst 0, 1) := by decide +kernel
theorem dX9_clear_1 : decode cX9_clear 1 = .ok (.istore_n 2, 1) := by decide +kernel
theorem dX9_clear_2 : decode cX9_clear 2 = .ok (.iload_n 2, 1) := by decide +kernel
theorem dX9_clear_3 : decode cX9_clear 3 = .ok (.sipush 860, 3) := by decide +kernel
theorem dX9_clear_6 : decode cX9_clear 6 = .ok (.if_icmp .ge 18, 3) := by decide +kernel
theorem dX9_clear_9 : decode cX9_clear 9 = .ok (.aload_n 0, 1) := by decide +kernel
theorem dX9_clear_10 : decode cX9_clear 10 = .ok (.getfield 35, 3) := by decide +kernel
theorem dX9_clear_13 : decode cX9_clear 13 = .ok (.iload_n 1, 1) := by decide +kernel
theorem dX9_clear_14 : decode cX9_clear 14 = .ok (.iload_n 2, 1) := by decide +kernel
theorem dX9_clear_15 : decode cX9_clear 15 = .ok (.iadd, 1) := by decide +kernel
theorem dX9_clear_16 : decode cX9_clear 16 = .ok (.iconst 0, 1) := by decide +kernel
theorem dX9_clear_17 : decode cX9_clear 17 = .ok (.iastore, 1) := by decide +kernel
theorem dX9_clear_18 : decode cX9_clear 18 = .ok (.iinc 2 1, 3) := by decide +kernel
theorem dX9_clear_21 : decode cX9_clear 21 = .ok (.goto (-19), 3) := by decide +kernel
theorem dX9_clear_24 : decode cX9_clear 24 = .ok (.iconst 0, 1) := by decide +kernel
theorem dX9_clear_25 : decode cX9_clear 25 = .ok (.istore_n 2, 1) := by decide +kernel
theorem dX9_clear_26 : decode cX9_clear 26 = .ok (.iload_n 2, 1) := by decide +kernel
theorem dX9_clear_27 : decode cX9_clear 27 = .ok (.bipush 12, 2) := by decide +kernel
theorem dX9_clear_29 : decode cX9_clear 29 = .ok (.if_icmp .ge 33, 3) := by decide +kernel
theorem dX9_clear_32 : decode cX9_clear 32 = .ok (.aload_n 0, 1) := by decide +kernel
theorem dX9_clear_33 : decode cX9_clear 33 = .ok (.getfield 35, 3) := by decide +kernel
theorem dX9_clear_36 : decode cX9_clear 36 = .ok (.iload_n 1, 1) := by decide +kernel
theorem dX9_clear_37 : decode cX9_clear 37 = .ok (.bipush 37, 2) := by decide +kernel
theorem dX9_clear_39 : decode cX9_clear 39 = .ok (.iadd, 1) := by decide +kernel
theorem dX9_clear_40 : decode cX9_clear 40 = .ok (.iload_n 2, 1) := by decide +kernel
theorem dX9_clear_41 : decode cX9_clear 41 = .ok (.iadd, 1) := by decide +kernel
theorem dX9_clear_42 : decode cX9_clear 42 = .ok (.iconst (-1), 1) := by decide +kernel
theorem dX9_clear_43 : decode cX9_clear 43 = .ok (.iastore, 1) := by decide +kernel
theorem dX9_clear_44 : decode cX9_clear 44 = .ok (.aload_n 0, 1) := by decide +kernel
theorem dX9_clear_45 : decode cX9_clear 45 = .ok (.getfield 35, 3) := by decide +kernel
theorem dX9_clear_48 : decode cX9_clear 48 = .ok (.iload_n 1, 1) := by decide +kernel
theorem dX9_clear_49 : decode cX9_clear 49 = .ok (.bipush 49, 2) := by decide +kernel
theorem dX9_clear_51 : decode cX9_clear 51 = .ok (.iadd, 1) := by decide +kernel
theorem dX9_clear_52 : decode cX9_clear 52 = .ok (.iload_n 2, 1) := by decide +kernel
theorem dX9_clear_53 : decode cX9_clear 53 = .ok (.iadd, 1) := by decide +kernel
theorem dX9_clear_54 : decode cX9_clear 54 = .ok (.iconst (-1), 1) := by decide +kernel
theorem dX9_clear_55 : decode cX9_clear 55 = .ok (.iastore, 1) := by decide +kernel
theorem dX9_clear_56 : decode cX9_clear 56 = .ok (.iinc 2 1, 3) := by decide +kernel
theorem dX9_clear_59 : decode cX9_clear 59 = .ok (.goto (-33), 3) := by decide +kernel
theorem dX9_clear_62 : decode cX9_clear 62 = .ok (.iconst 0, 1) := by decide +kernel
theorem dX9_clear_63 : decode cX9_clear 63 = .ok (.istore_n 2, 1) := by decide +kernel
theorem dX9_clear_64 : decode cX9_clear 64 = .ok (.iload_n 2, 1) := by decide +kernel
theorem dX9_clear_65 : decode cX9_clear 65 = .ok (.bipush 8, 2) := by decide +kernel
theorem dX9_clear_67 : decode cX9_clear 67 = .ok (.if_icmp .ge 21, 3) := by decide +kernel
theorem dX9_clear_70 : decode cX9_clear 70 = .ok (.aload_n 0, 1) := by decide +kernel
theorem dX9_clear_71 : decode cX9_clear 71 = .ok (.getfield 35, 3) := by decide +kernel
theorem dX9_clear_74 : decode cX9_clear 74 = .ok (.iload_n 1, 1) := by decide +kernel
theorem dX9_clear_75 : decode cX9_clear 75 = .ok (.bipush 9, 2) := by decide +kernel
theorem dX9_clear_77 : decode cX9_clear 77 = .ok (.iadd, 1) := by decide +kernel
theorem dX9_clear_78 : decode cX9_clear 78 = .ok (.iload_n 2, 1) := by decide +kernel
theorem dX9_clear_79 : decode cX9_clear 79 = .ok (.iadd, 1) := by decide +kernel
theorem dX9_clear_80 : decode cX9_clear 80 = .ok (.iconst (-1), 1) := by decide +kernel
theorem dX9_clear_81 : decode cX9_clear 81 = .ok (.iastore, 1) := by decide +kernel
theorem dX9_clear_82 : decode cX9_clear 82 = .ok (.iinc 2 1, 3) := by decide +kernel
theorem dX9_clear_85 : decode cX9_clear 85 = .ok (.goto (-21), 3) := by decide +kernel
theorem dX9_clear_88 : decode cX9_clear 88 = .ok (.return_, 1) := by decide +kernel
def fX9_clear_64 : Nat → Nat → Int32 → Int32 → mM Unit
  | 0 => fun _ _ _ => fun _ => none
  | n + 1 => fun l0 l1 l2 => let r64 := fX9_clear_64 n; bIf ((8 : Int32) ≤ l2) (bRet ()) (bGR 9 l0 24 (fun x1 => bSI x1 ((l1 + (9 : Int32)) + l2) (-1 : Int32) (r64 l0 l1 (l2 + 1))))
theorem qX9_clear_64  (n : Nat) (l0 : Nat) (l1 : Int32) (l2 : Int32) : fX9_clear_64 (n + 1) l0 l1 l2 = bIf ((8 : Int32) ≤ l2) (bRet ()) (bGR 9 l0 24 (fun x1 => bSI x1 ((l1 + (9 : Int32)) + l2) (-1 : Int32) ((fX9_clear_64 n) l0 l1 (l2 + 1)))) := rfl
set_option maxRecDepth 20000 in
theorem rX9_clear_64 (v : mE) (d : Nat) : ∀ (n : Nat) (l0 : Nat) (l1 : Int32) (l2 : Int32), Rz v RX9 cX9_clear 3 none false emU (d + 0) 64 [(0, vR l0), (1, vI l1), (2, vI l2)] [] (fX9_clear_64 n l0 l1 l2)
  | 0, _, _, _ => fun _ _ _ hm => by cases hm
  | n + 1, l0, l1, l2 => by
    have h64 := rX9_clear_64 v d n
    unfold fX9_clear_64
    generalize fX9_clear_64 n = r64 at h64 ⊢
    refine rz_iload_n 65 2 dX9_clear_64 rfl rfl ?_
    refine rz_bipush 67 dX9_clear_65 rfl cb_8 ?_
    refine rz_icmp_ge 88 70 dX9_clear_67 rfl rfl ?_ ?_
    · exact rz_return rfl rfl dX9_clear_88
    · refine rz_aload_n 71 0 dX9_clear_70 rfl rfl ?_
      refine rz_gR 74 dX9_clear_71 rfl rfl fl_X9_35 (fun x1 => ?_)
      refine rz_iload_n 75 1 dX9_clear_74 rfl rfl ?_
      refine rz_bipush 77 dX9_clear_75 rfl cb_9 ?_
      refine rz_iadd 78 dX9_clear_77 rfl ?_
      refine rz_iload_n 79 2 dX9_clear_78 rfl rfl ?_
      refine rz_iadd 80 dX9_clear_79 rfl ?_
      refine rz_iconst 81 dX9_clear_80 rfl ci_m1 ?_
      refine rz_iast 82 dX9_clear_81 rfl ?_
      refine rz_iinc (lv' := [(2, vI (l2 + 1)), (0, vR l0), (1, vI l1)]) 85 2 dX9_clear_82 rfl rfl (cn_1 _) rfl rfl ?_
      refine rz_goto 64 dX9_clear_85 rfl ?_
      exact rz_sub [1, 2, 0] rfl (h64 l0 l1 (l2 + 1))
def fX9_clear_62 (l0 : Nat) (l1 : Int32) : mM Unit := fX9_clear_64 fu l0 l1 (0 : Int32)
set_option maxRecDepth 20000 in
theorem rX9_clear_62 (v : mE) (d : Nat) (l0 : Nat) (l1 : Int32) : Rz v RX9 cX9_clear 3 none false emU (d + 0) 62 [(0, vR l0), (1, vI l1)] [] (fX9_clear_62 l0 l1) := by
  unfold fX9_clear_62
  refine rz_iconst 63 dX9_clear_62 rfl ci_0 ?_
  refine rz_istore_n (lv' := [(2, vI (0 : Int32)), (0, vR l0), (1, vI l1)]) 64 dX9_clear_63 rfl rfl rfl ?_
  exact rz_sub [1, 2, 0] rfl (rX9_clear_64 v d fu l0 l1 (0 : Int32))
def fX9_clear_26 : Nat → Nat → Int32 → Int32 → mM Unit
  | 0 => fun _ _ _ => fun _ => none
  | n + 1 => fun l0 l1 l2 => let r26 := fX9_clear_26 n; bIf ((12 : Int32) ≤ l2) (fX9_clear_62 l0 l1) (bGR 9 l0 24 (fun x1 => bSI x1 ((l1 + (37 : Int32)) + l2) (-1 : Int32) (bGR 9 l0 24 (fun x2 => bSI x2 ((l1 + (49 : Int32)) + l2) (-1 : Int32) (r26 l0 l1 (l2 + 1))))))
theorem qX9_clear_26  (n : Nat) (l0 : Nat) (l1 : Int32) (l2 : Int32) : fX9_clear_26 (n + 1) l0 l1 l2 = bIf ((12 : Int32) ≤ l2) (fX9_clear_62 l0 l1) (bGR 9 l0 24 (fun x1 => bSI x1 ((l1 + (37 : Int32)) + l2) (-1 : Int32) (bGR 9 l0 24 (fun x2 => bSI x2 ((l1 + (49 : Int32)) + l2) (-1 : Int32) ((fX9_clear_26 n) l0 l1 (l2 + 1)))))) := rfl
set_option maxRecDepth 20000 in
theorem rX9_clear_26 (v : mE) (d : Nat) : ∀ (n : Nat) (l0 : Nat) (l1 : Int32) (l2 : Int32), Rz v RX9 cX9_clear 3 none false emU (d + 0) 26 [(0, vR l0), (1, vI l1), (2, vI l2)] [] (fX9_clear_26 n l0 l1 l2)
  | 0, _, _, _ => fun _ _ _ hm => by cases hm
  | n + 1, l0, l1, l2 => by
    have h26 := rX9_clear_26 v d n
    unfold fX9_clear_26
    generalize fX9_clear_26 n = r26 at h26 ⊢
    refine rz_iload_n 27 2 dX9_clear_26 rfl rfl ?_
    refine rz_bipush 29 dX9_clear_27 rfl cb_12 ?_
    refine rz_icmp_ge 62 32 dX9_clear_29 rfl rfl ?_ ?_
    · exact rz_sub [0, 1] rfl (rX9_clear_62 v d l0 l1)
    · refine rz_aload_n 33 0 dX9_clear_32 rfl rfl ?_
      refine rz_gR 36 dX9_clear_33 rfl rfl fl_X9_35 (fun x1 => ?_)
      refine rz_iload_n 37 1 dX9_clear_36 rfl rfl ?_
      refine rz_bipush 39 dX9_clear_37 rfl cb_37 ?_
      refine rz_iadd 40 dX9_clear_39 rfl ?_
      refine rz_iload_n 41 2 dX9_clear_40 rfl rfl ?_
      refine rz_iadd 42 dX9_clear_41 rfl ?_
      refine rz_iconst 43 dX9_clear_42 rfl ci_m1 ?_
      refine rz_iast 44 dX9_clear_43 rfl ?_
      refine rz_aload_n 45 0 dX9_clear_44 rfl rfl ?_
      refine rz_gR 48 dX9_clear_45 rfl rfl fl_X9_35 (fun x2 => ?_)
      refine rz_iload_n 49 1 dX9_clear_48 rfl rfl ?_
      refine rz_bipush 51 dX9_clear_49 rfl cb_49 ?_
      refine rz_iadd 52 dX9_clear_51 rfl ?_
      refine rz_iload_n 53 2 dX9_clear_52 rfl rfl ?_
      refine rz_iadd 54 dX9_clear_53 rfl ?_
      refine rz_iconst 55 dX9_clear_54 rfl ci_m1 ?_
      refine rz_iast 56 dX9_clear_55 rfl ?_
      refine rz_iinc (lv' := [(2, vI (l2 + 1)), (0, vR l0), (1, vI l1)]) 59 2 dX9_clear_56 rfl rfl (cn_1 _) rfl rfl ?_
      refine rz_goto 26 dX9_clear_59 rfl ?_
      exact rz_sub [1, 2, 0] rfl (h26 l0 l1 (l2 + 1))
def fX9_clear_24 (l0 : Nat) (l1 : Int32) : mM Unit := fX9_clear_26 fu l0 l1 (0 : Int32)
set_option maxRecDepth 20000 in
theorem rX9_clear_24 (v : mE) (d : Nat) (l0 : Nat) (l1 : Int32) : Rz v RX9 cX9_clear 3 none false emU (d + 0) 24 [(0, vR l0), (1, vI l1)] [] (fX9_clear_24 l0 l1) := by
  unfold fX9_clear_24
  refine rz_iconst 25 dX9_clear_24 rfl ci_0 ?_
  refine rz_istore_n (lv' := [(2, vI (0 : Int32)), (0, vR l0), (1, vI l1)]) 26 dX9_clear_25 rfl rfl rfl ?_
  exact rz_sub [1, 2, 0] rfl (rX9_clear_26 v d fu l0 l1 (0 : Int32))
def fX9_clear_2 : Nat → Nat → Int32 → Int32 → mM Unit
  | 0 => fun _ _ _ => fun _ => none
  | n + 1 => fun l0 l1 l2 => let r2 := fX9_clear_2 n; bIf ((860 : Int32) ≤ l2) (fX9_clear_24 l0 l1) (bGR 9 l0 24 (fun x1 => bSI x1 (l1 + l2) (0 : Int32) (r2 l0 l1 (l2 + 1))))
theorem qX9_clear_2  (n : Nat) (l0 : Nat) (l1 : Int32) (l2 : Int32) : fX9_clear_2 (n + 1) l0 l1 l2 = bIf ((860 : Int32) ≤ l2) (fX9_clear_24 l0 l1) (bGR 9 l0 24 (fun x1 => bSI x1 (l1 + l2) (0 : Int32) ((fX9_clear_2 n) l0 l1 (l2 + 1)))) := rfl
set_option maxRecDepth 20000 in
theorem rX9_clear_2 (v : mE) (d : Nat) : ∀ (n : Nat) (l0 : Nat) (l1 : Int32) (l2 : Int32), Rz v RX9 cX9_clear 3 none false emU (d + 0) 2 [(0, vR l0), (1, vI l1), (2, vI l2)] [] (fX9_clear_2 n l0 l1 l2)
  | 0, _, _, _ => fun _ _ _ hm => by cases hm
  | n + 1, l0, l1, l2 => by
    have h2 := rX9_clear_2 v d n
    unfold fX9_clear_2
    generalize fX9_clear_2 n = r2 at h2 ⊢
    refine rz_iload_n 3 2 dX9_clear_2 rfl rfl ?_
    refine rz_sipush 6 dX9_clear_3 rfl cs_860 ?_
    refine rz_icmp_ge 24 9 dX9_clear_6 rfl rfl ?_ ?_
    · exact rz_sub [0, 1] rfl (rX9_clear_24 v d l0 l1)
    · refine rz_aload_n 10 0 dX9_clear_9 rfl rfl ?_
      refine rz_gR 13 dX9_clear_10 rfl rfl fl_X9_35 (fun x1 => ?_)
      refine rz_iload_n 14 1 dX9_clear_13 rfl rfl ?_
      refine rz_iload_n 15 2 dX9_clear_14 rfl rfl ?_
      refine rz_iadd 16 dX9_clear_15 rfl ?_
      refine rz_iconst 17 dX9_clear_16 rfl ci_0 ?_
      refine rz_iast 18 dX9_clear_17 rfl ?_
      refine rz_iinc (lv' := [(2, vI (l2 + 1)), (0, vR l0), (1, vI l1)]) 21 2 dX9_clear_18 rfl rfl (cn_1 _) rfl rfl ?_
      refine rz_goto 2 dX9_clear_21 rfl ?_
      exact rz_sub [1, 2, 0] rfl (h2 l0 l1 (l2 + 1))
def fX9_clear (l0 : Nat) (l1 : Int32) : mM Unit := fX9_clear_2 fu l0 l1 (0 : Int32)
set_option maxRecDepth 20000 in
theorem rX9_clear (v : mE) (d : Nat) (l0 : Nat) (l1 : Int32) : Rz v RX9 cX9_clear 3 none false emU (d + 0) 0 [(0, vR l0), (1, vI l1)] [] (fX9_clear l0 l1) := by
  unfold fX9_clear
  refine rz_iconst 1 dX9_clear_0 rfl ci_0 ?_
  refine rz_istore_n (lv' := [(2, vI (0 : Int32)), (0, vR l0), (1, vI l1)]) 2 dX9_clear_1 rfl rfl rfl ?_
  exact rz_sub [1, 2, 0] rfl (rX9_clear_2 v d fu l0 l1 (0 : Int32))
theorem tX9_clear (v : mE) (d : Nat) (l0 : Nat) (l1 : Int32) : Mt v yX9_clear cX9_clear 3 none emU (d + 0) [vR l0, vI l1] (fX9_clear l0 l1) := mt_of rfl rfl (fun h => by cases h) rfl rfl (rX9_clear v d l0 l1)
theorem dX9_init_0 : decode cX9_init 0 = .ok (.aload_n 0, 1) := by decide +kernel
theorem dX9_init_1 : decode cX9_init 1 = .ok (.invokespecial 1, 3) := by decide +kernel
theorem dX9_init_4 : decode cX9_init 4 = .ok (.aload_n 0, 1) := by decide +kernel
theorem dX9_init_5 : decode cX9_init 5 = .ok (.lconst 1, 1) := by decide +kernel
theorem dX9_init_6 : decode cX9_init 6 = .ok (.putfield 7, 3) := by decide +kernel
theorem dX9_init_9 : decode cX9_init 9 = .ok (.aload_n 0, 1) := by decide +kernel
theorem dX9_init_10 : decode cX9_init 10 = .ok (.iconst 4, 1) := by decide +kernel
theorem dX9_init_11 : decode cX9_init 11 = .ok (.newarray .int, 2) := by decide +kernel
theorem dX9_init_13 : decode cX9_init 13 = .ok (.putfield 13, 3) := by decide +kernel
theorem dX9_init_16 : decode cX9_init 16 = .ok (.aload_n 0, 1) := by decide +kernel
theorem dX9_init_17 : decode cX9_init 17 = .ok (.iconst 4, 1) := by decide +kernel
theorem dX9_init_18 : decode cX9_init 18 = .ok (.newarray .int, 2) := by decide +kernel
theorem dX9_init_20 : decode cX9_init 20 = .ok (.putfield 17, 3) := by decide +kernel
theorem dX9_init_23 : decode cX9_init 23 = .ok (.aload_n 0, 1) := by decide +kernel
theorem dX9_init_24 : decode cX9_init 24 = .ok (.sipush 240, 3) := by decide +kernel
theorem dX9_init_27 : decode cX9_init 27 = .ok (.newarray .long, 2) := by decide +kernel
theorem dX9_init_29 : decode cX9_init 29 = .ok (.putfield 20, 3) := by decide +kernel
theorem dX9_init_32 : decode cX9_init 32 = .ok (.aload_n 0, 1) := by decide +kernel
theorem dX9_init_33 : decode cX9_init 33 = .ok (.sipush 900, 3) := by decide +kernel
theorem dX9_init_36 : decode cX9_init 36 = .ok (.newarray .byte, 2) := by decide +kernel
theorem dX9_init_38 : decode cX9_init 38 = .ok (.putfield 24, 3) := by decide +kernel
theorem dX9_init_41 : decode cX9_init 41 = .ok (.aload_n 0, 1) := by decide +kernel
theorem dX9_init_42 : decode cX9_init 42 = .ok (.iconst (-1), 1) := by decide +kernel
theorem dX9_init_43 : decode cX9_init 43 = .ok (.putfield 28, 3) := by decide +kernel
theorem dX9_init_46 : decode cX9_init 46 = .ok (.aload_n 0, 1) := by decide +kernel
theorem dX9_init_47 : decode cX9_init 47 = .ok (.iconst (-1), 1) := by decide +kernel
theorem dX9_init_48 : decode cX9_init 48 = .ok (.putfield 32, 3) := by decide +kernel
theorem dX9_init_51 : decode cX9_init 51 = .ok (.aload_n 0, 1) := by decide +kernel
theorem dX9_init_52 : decode cX9_init 52 = .ok (.sipush 4300, 3) := by decide +kernel
theorem dX9_init_55 : decode cX9_init 55 = .ok (.newarray .int, 2) := by decide +kernel
theorem dX9_init_57 : decode cX9_init 57 = .ok (.putfield 35, 3) := by decide +kernel
theorem dX9_init_60 : decode cX9_init 60 = .ok (.aload_n 0, 1) := by decide +kernel
theorem dX9_init_61 : decode cX9_init 61 = .ok (.sipush 860, 3) := by decide +kernel
theorem dX9_init_64 : decode cX9_init 64 = .ok (.newarray .int, 2) := by decide +kernel
theorem dX9_init_66 : decode cX9_init 66 = .ok (.putfield 38, 3) := by decide +kernel
theorem dX9_init_69 : decode cX9_init 69 = .ok (.aload_n 0, 1) := by decide +kernel
theorem dX9_init_70 : decode cX9_init 70 = .ok (.bipush 70, 2) := by decide +kernel
theorem dX9_init_72 : decode cX9_init 72 = .ok (.newarray .long, 2) := by decide +kernel
theorem dX9_init_74 : decode cX9_init 74 = .ok (.putfield 41, 3) := by decide +kernel
theorem dX9_init_77 : decode cX9_init 77 = .ok (.aload_n 0, 1) := by decide +kernel
theorem dX9_init_78 : decode cX9_init 78 = .ok (.sipush 140, 3) := by decide +kernel
theorem dX9_init_81 : decode cX9_init 81 = .ok (.newarray .boolean, 2) := by decide +kernel
theorem dX9_init_83 : decode cX9_init 83 = .ok (.putfield 44, 3) := by decide +kernel
theorem dX9_init_86 : decode cX9_init 86 = .ok (.aload_n 0, 1) := by decide +kernel
theorem dX9_init_87 : decode cX9_init 87 = .ok (.sipush 4096, 3) := by decide +kernel
theorem dX9_init_90 : decode cX9_init 90 = .ok (.newarray .int, 2) := by decide +kernel
theorem dX9_init_92 : decode cX9_init 92 = .ok (.putfield 48, 3) := by decide +kernel
theorem dX9_init_95 : decode cX9_init 95 = .ok (.aload_n 0, 1) := by decide +kernel
theorem dX9_init_96 : decode cX9_init 96 = .ok (.ldc 51, 2) := by decide +kernel
theorem dX9_init_98 : decode cX9_init 98 = .ok (.newarray .int, 2) := by decide +kernel
theorem dX9_init_100 : decode cX9_init 100 = .ok (.putfield 52, 3) := by decide +kernel
theorem dX9_init_103 : decode cX9_init 103 = .ok (.aload_n 0, 1) := by decide +kernel
theorem dX9_init_104 : decode cX9_init 104 = .ok (.bipush 8, 2) := by decide +kernel
theorem dX9_init_106 : decode cX9_init 106 = .ok (.newarray .int, 2) := by decide +kernel
theorem dX9_init_108 : decode cX9_init 108 = .ok (.putfield 55, 3) := by decide +kernel
theorem dX9_init_111 : decode cX9_init 111 = .ok (.iconst 0, 1) := by decide +kernel
theorem dX9_init_112 : decode cX9_init 112 = .ok (.istore_n 1, 1) := by decide +kernel
theorem dX9_init_113 : decode cX9_init 113 = .ok (.iload_n 1, 1) := by decide +kernel
theorem dX9_init_114 : decode cX9_init 114 = .ok (.iconst 4, 1) := by decide +kernel
theorem dX9_init_115 : decode cX9_init 115 = .ok (.if_icmp .ge 16, 3) := by decide +kernel
theorem dX9_init_118 : decode cX9_init 118 = .ok (.aload_n 0, 1) := by decide +kernel
theorem dX9_init_119 : decode cX9_init 119 = .ok (.getfield 17, 3) := by decide +kernel
theorem dX9_init_122 : decode cX9_init 122 = .ok (.iload_n 1, 1) := by decide +kernel
theorem dX9_init_123 : decode cX9_init 123 = .ok (.iconst (-1), 1) := by decide +kernel
theorem dX9_init_124 : decode cX9_init 124 = .ok (.iastore, 1) := by decide +kernel
theorem dX9_init_125 : decode cX9_init 125 = .ok (.iinc 1 1, 3) := by decide +kernel
theorem dX9_init_128 : decode cX9_init 128 = .ok (.goto (-15), 3) := by decide +kernel
theorem dX9_init_131 : decode cX9_init 131 = .ok (.aload_n 0, 1) := by decide +kernel
theorem dX9_init_132 : decode cX9_init 132 = .ok (.iconst 0, 1) := by decide +kernel
theorem dX9_init_133 : decode cX9_init 133 = .ok (.invokevirtual 58, 3) := by decide +kernel
theorem dX9_init_136 : decode cX9_init 136 = .ok (.return_, 1) := by decide +kernel
def fX9_init_131 (l0 : Nat) : mM Unit := bCallV 9 l0 (fX9_clear l0 (0 : Int32)) (fun _ => bRet ())
set_option maxRecDepth 20000 in
theorem rX9_init_131 (v : mE) (d : Nat) (l0 : Nat) : Rz v RX9 cX9_init 2 none true emU (d + 1) 131 [(0, vR l0)] [] (fX9_init_131 l0) := by
  unfold fX9_init_131
  refine rz_aload_n 132 0 dX9_init_131 rfl rfl ?_
  refine rz_iconst 133 dX9_init_132 rfl ci_0 ?_
  refine rz_callV 136 dX9_init_133 rfl (tX9_clear v (d + 0) l0 (0 : Int32)) rfl rfl rfl rfl ml_X9_58 im_X9_clear se_X9_X9_clear in_X9 co_X9_clear rfl rfl (fun _ => ?_)
  exact rz_return rfl rfl dX9_init_136
def fX9_init_113 : Nat → Nat → Int32 → mM Unit
  | 0 => fun _ _ => fun _ => none
  | n + 1 => fun l0 l1 => let r113 := fX9_init_113 n; bIf ((4 : Int32) ≤ l1) (fX9_init_131 l0) (bGR 9 l0 5 (fun x1 => bSI x1 l1 (-1 : Int32) (r113 l0 (l1 + 1))))
theorem qX9_init_113  (n : Nat) (l0 : Nat) (l1 : Int32) : fX9_init_113 (n + 1) l0 l1 = bIf ((4 : Int32) ≤ l1) (fX9_init_131 l0) (bGR 9 l0 5 (fun x1 => bSI x1 l1 (-1 : Int32) ((fX9_init_113 n) l0 (l1 + 1)))) := rfl
set_option maxRecDepth 20000 in
theorem rX9_init_113 (v : mE) (d : Nat) : ∀ (n : Nat) (l0 : Nat) (l1 : Int32), Rz v RX9 cX9_init 2 none true emU (d + 1) 113 [(0, vR l0), (1, vI l1)] [] (fX9_init_113 n l0 l1)
  | 0, _, _ => fun _ _ _ hm => by cases hm
  | n + 1, l0, l1 => by
    have h113 := rX9_init_113 v d n
    unfold fX9_init_113
    generalize fX9_init_113 n = r113 at h113 ⊢
    refine rz_iload_n 114 1 dX9_init_113 rfl rfl ?_
    refine rz_iconst 115 dX9_init_114 rfl ci_4 ?_
    refine rz_icmp_ge 131 118 dX9_init_115 rfl rfl ?_ ?_
    · exact rz_sub [0] rfl (rX9_init_131 v d l0)
    · refine rz_aload_n 119 0 dX9_init_118 rfl rfl ?_
      refine rz_gR 122 dX9_init_119 rfl rfl fl_X9_17 (fun x1 => ?_)
      refine rz_iload_n 123 1 dX9_init_122 rfl rfl ?_
      refine rz_iconst 124 dX9_init_123 rfl ci_m1 ?_
      refine rz_iast 125 dX9_init_124 rfl ?_
      refine rz_iinc (lv' := [(1, vI (l1 + 1)), (0, vR l0)]) 128 1 dX9_init_125 rfl rfl (cn_1 _) rfl rfl ?_
      refine rz_goto 113 dX9_init_128 rfl ?_
      exact rz_sub [1, 0] rfl (h113 l0 (l1 + 1))
def fX9_init (l0 : Nat) : mM Unit := bObj l0 (bPL 9 l0 3 (1 : Int64) (bNa 11 (4 : Int32) (fun x1 => bPR 9 l0 4 x1 (bNa 11 (4 : Int32) (fun x2 => bPR 9 l0 5 x2 (bNa 12 (240 : Int32) (fun x3 => bPR 9 l0 6 x3 (bNa 10 (900 : Int32) (fun x4 => bPR 9 l0 7 x4 (bPI 9 l0 10 (-1 : Int32) (bPI 9 l0 11 (-1 : Int32) (bNa 11 (4300 : Int32) (fun x5 => bPR 9 l0 24 x5 (bNa 11 (860 : Int32) (fun x6 => bPR 9 l0 25 x6 (bNa 12 (70 : Int32) (fun x7 => bPR 9 l0 26 x7 (bNa 13 (140 : Int32) (fun x8 => bPR 9 l0 27 x8 (bNa 11 (4096 : Int32) (fun x9 => bPR 9 l0 29 x9 (bNa 11 (36864 : Int32) (fun x10 => bPR 9 l0 30 x10 (bNa 11 (8 : Int32) (fun x11 => bPR 9 l0 32 x11 (fX9_init_113 fu l0 (0 : Int32)))))))))))))))))))))))))))
set_option maxRecDepth 20000 in
theorem rX9_init (v : mE) (d : Nat) (l0 : Nat) : Rz v RX9 cX9_init 2 none true emU (d + 1) 0 [(0, vR l0)] [] (fX9_init l0) := by
  unfold fX9_init
  refine rz_aload_n 1 0 dX9_init_0 rfl rfl ?_
  refine rz_obj 4 dX9_init_1 rfl ml_X9_1 im_java_lang_Object__init____V co_java_lang_Object__init____V rfl rfl ?_
  refine rz_aload_n 5 0 dX9_init_4 rfl rfl ?_
  refine rz_lconst 6 dX9_init_5 rfl cl_1 ?_
  refine rz_pL 9 dX9_init_6 rfl rfl rfl fl_X9_7 ?_
  refine rz_aload_n 10 0 dX9_init_9 rfl rfl ?_
  refine rz_iconst 11 dX9_init_10 rfl ci_4 ?_
  refine rz_newa 13 dX9_init_11 rfl (by decide) ac_int (fun x1 => ?_)
  refine rz_pR 16 dX9_init_13 rfl rfl rfl fl_X9_13 ?_
  refine rz_aload_n 17 0 dX9_init_16 rfl rfl ?_
  refine rz_iconst 18 dX9_init_17 rfl ci_4 ?_
  refine rz_newa 20 dX9_init_18 rfl (by decide) ac_int (fun x2 => ?_)
  refine rz_pR 23 dX9_init_20 rfl rfl rfl fl_X9_17 ?_
  refine rz_aload_n 24 0 dX9_init_23 rfl rfl ?_
  refine rz_sipush 27 dX9_init_24 rfl cs_240 ?_
  refine rz_newa 29 dX9_init_27 rfl (by decide) ac_long (fun x3 => ?_)
  refine rz_pR 32 dX9_init_29 rfl rfl rfl fl_X9_20 ?_
  refine rz_aload_n 33 0 dX9_init_32 rfl rfl ?_
  refine rz_sipush 36 dX9_init_33 rfl cs_900 ?_
  refine rz_newa 38 dX9_init_36 rfl (by decide) ac_byte (fun x4 => ?_)
  refine rz_pR 41 dX9_init_38 rfl rfl rfl fl_X9_24 ?_
  refine rz_aload_n 42 0 dX9_init_41 rfl rfl ?_
  refine rz_iconst 43 dX9_init_42 rfl ci_m1 ?_
  refine rz_pI 46 dX9_init_43 rfl rfl rfl rfl fl_X9_28 ?_
  refine rz_aload_n 47 0 dX9_init_46 rfl rfl ?_
  refine rz_iconst 48 dX9_init_47 rfl ci_m1 ?_
  refine rz_pI 51 dX9_init_48 rfl rfl rfl rfl fl_X9_32 ?_
  refine rz_aload_n 52 0 dX9_init_51 rfl rfl ?_
  refine rz_sipush 55 dX9_init_52 rfl cs_4300 ?_
  refine rz_newa 57 dX9_init_55 rfl (by decide) ac_int (fun x5 => ?_)
  refine rz_pR 60 dX9_init_57 rfl rfl rfl fl_X9_35 ?_
  refine rz_aload_n 61 0 dX9_init_60 rfl rfl ?_
  refine rz_sipush 64 dX9_init_61 rfl cs_860 ?_
  refine rz_newa 66 dX9_init_64 rfl (by decide) ac_int (fun x6 => ?_)
  refine rz_pR 69 dX9_init_66 rfl rfl rfl fl_X9_38 ?_
  refine rz_aload_n 70 0 dX9_init_69 rfl rfl ?_
  refine rz_bipush 72 dX9_init_70 rfl cb_70 ?_
  refine rz_newa 74 dX9_init_72 rfl (by decide) ac_long (fun x7 => ?_)
  refine rz_pR 77 dX9_init_74 rfl rfl rfl fl_X9_41 ?_
  refine rz_aload_n 78 0 dX9_init_77 rfl rfl ?_
  refine rz_sipush 81 dX9_init_78 rfl cs_140 ?_
  refine rz_newa 83 dX9_init_81 rfl (by decide) ac_boolean (fun x8 => ?_)
  refine rz_pR 86 dX9_init_83 rfl rfl rfl fl_X9_44 ?_
  refine rz_aload_n 87 0 dX9_init_86 rfl rfl ?_
  refine rz_sipush 90 dX9_init_87 rfl cs_4096 ?_
  refine rz_newa 92 dX9_init_90 rfl (by decide) ac_int (fun x9 => ?_)
  refine rz_pR 95 dX9_init_92 rfl rfl rfl fl_X9_48 ?_
  refine rz_aload_n 96 0 dX9_init_95 rfl rfl ?_
  refine rz_ldc 98 dX9_init_96 rfl ct_X9_51 ?_
  refine rz_newa 100 dX9_init_98 rfl (by decide) ac_int (fun x10 => ?_)
  refine rz_pR 103 dX9_init_100 rfl rfl rfl fl_X9_52 ?_
  refine rz_aload_n 104 0 dX9_init_103 rfl rfl ?_
  refine rz_bipush 106 dX9_init_104 rfl cb_8 ?_
  refine rz_newa 108 dX9_init_106 rfl (by decide) ac_int (fun x11 => ?_)
  refine rz_pR 111 dX9_init_108 rfl rfl rfl fl_X9_55 ?_
  refine rz_iconst 112 dX9_init_111 rfl ci_0 ?_
  refine rz_istore_n (lv' := [(1, vI (0 : Int32)), (0, vR l0)]) 113 dX9_init_112 rfl rfl rfl ?_
  exact rz_sub [1, 0] rfl (rX9_init_113 v d fu l0 (0 : Int32))
theorem tX9_init (v : mE) (d : Nat) (l0 : Nat) : Mt v yX9_init cX9_init 2 none emU (d + 1) [vR l0] (fX9_init l0) := mt_of rfl rfl (fun _ => rfl) rfl rfl (rX9_init v d l0)
theorem dX9_status_0 : decode cX9_status 0 = .ok (.aload_n 0, 1) := by decide +kernel
theorem dX9_status_1 : decode cX9_status 1 = .ok (.iconst 0, 1) := by decide +kernel
theorem dX9_status_2 : decode cX9_status 2 = .ok (.putfield 62, 3) := by decide +kernel
theorem dX9_status_5 : decode cX9_status 5 = .ok (.aload_n 0, 1) := by decide +kernel
theorem dX9_status_6 : decode cX9_status 6 = .ok (.getfield 65, 3) := by decide +kernel
theorem dX9_status_9 : decode cX9_status 9 = .ok (.ireturn, 1) := by decide +kernel
def fX9_status (l0 : Nat) : mM Int32 := bPI 9 l0 1 (0 : Int32) (bGI 9 l0 0 (fun x1 => bRet x1))
set_option maxRecDepth 20000 in
theorem rX9_status (v : mE) (d : Nat) (l0 : Nat) : Rz v RX9 cX9_status 1 (some .int) false emI (d + 0) 0 [(0, vR l0)] [] (fX9_status l0) := by
  unfold fX9_status
  refine rz_aload_n 1 0 dX9_status_0 rfl rfl ?_
  refine rz_iconst 2 dX9_status_1 rfl ci_0 ?_
  refine rz_pI 5 dX9_status_2 rfl rfl rfl rfl fl_X9_62 ?_
  refine rz_aload_n 6 0 dX9_status_5 rfl rfl ?_
  refine rz_gI 9 dX9_status_6 rfl rfl fl_X9_65 (fun x1 => ?_)
  exact rz_ireturn rfl rfl dX9_status_9
theorem tX9_status (v : mE) (d : Nat) (l0 : Nat) : Mt v yX9_status cX9_status 1 (some .int) emI (d + 0) [vR l0] (fX9_status l0) := mt_of rfl rfl (fun h => by cases h) rfl rfl (rX9_status v d l0)
theorem dX9_top_0 : decode cX9_top 0 = .ok (.aload_n 0, 1) := by decide +kernel
theorem dX9_top_1 : decode cX9_top 1 = .ok (.iconst 0, 1) := by decide +kernel
theorem dX9_top_2 : decode cX9_top 2 = .ok (.putfield 62, 3) := by decide +kernel
theorem dX9_top_5 : decode cX9_top 5 = .ok (.aload_n 0, 1) := by decide +kernel
theorem dX9_top_6 : decode cX9_top 6 = .ok (.getfield 68, 3) := by decide +kernel
theorem dX9_top_9 : decode cX9_top 9 = .ok (.lreturn, 1) := by decide +kernel
def fX9_top (l0 : Nat) : mM Int64 := bPI 9 l0 1 (0 : Int32) (bGL 9 l0 2 (fun x1 => bRet x1))
set_option maxRecDepth 20000 in
theorem rX9_top (v : mE) (d : Nat) (l0 : Nat) : Rz v RX9 cX9_top 1 (some .long) false emL (d + 0) 0 [(0, vR l0)] [] (fX9_top l0) := by
  unfold fX9_top
  refine rz_aload_n 1 0 dX9_top_0 rfl rfl ?_
  refine rz_iconst 2 dX9_top_1 rfl ci_0 ?_
  refine rz_pI 5 dX9_top_2 rfl rfl rfl rfl fl_X9_62 ?_
  refine rz_aload_n 6 0 dX9_top_5 rfl rfl ?_
  refine rz_gL 9 dX9_top_6 rfl rfl fl_X9_68 (fun x1 => ?_)
  exact rz_lreturn rfl rfl dX9_top_9
theorem tX9_top (v : mE) (d : Nat) (l0 : Nat) : Mt v yX9_top cX9_top 1 (some .long) emL (d + 0) [vR l0] (fX9_top l0) := mt_of rfl rfl (fun h => by cases h) rfl rfl (rX9_top v d l0)
theorem dX9_bottom_0 : decode cX9_bottom 0 = .ok (.aload_n 0, 1) := by decide +kernel
theorem dX9_bottom_1 : decode cX9_bottom 1 = .ok (.iconst 0, 1) := by decide +kernel
theorem dX9_bottom_2 : decode cX9_bottom 2 = .ok (.putfield 62, 3) := by decide +kernel
theorem dX9_bottom_5 : decode cX9_bottom 5 = .ok (.aload_n 0, 1) := by decide +kernel
theorem dX9_bottom_6 : decode cX9_bottom 6 = .ok (.getfield 7, 3) := by decide +kernel
theorem dX9_bottom_9 : decode cX9_bottom 9 = .ok (.lreturn, 1) := by decide +kernel
def fX9_bottom (l0 : Nat) : mM Int64 := bPI 9 l0 1 (0 : Int32) (bGL 9 l0 3 (fun x1 => bRet x1))
set_option maxRecDepth 20000 in
theorem rX9_bottom (v : mE) (d : Nat) (l0 : Nat) : Rz v RX9 cX9_bottom 1 (some .long) false emL (d + 0) 0 [(0, vR l0)] [] (fX9_bottom l0) := by
  unfold fX9_bottom
  refine rz_aload_n 1 0 dX9_bottom_0 rfl rfl ?_
  refine rz_iconst 2 dX9_bottom_1 rfl ci_0 ?_
  refine rz_pI 5 dX9_bottom_2 rfl rfl rfl rfl fl_X9_62 ?_
  refine rz_aload_n 6 0 dX9_bottom_5 rfl rfl ?_
  refine rz_gL 9 dX9_bottom_6 rfl rfl fl_X9_7 (fun x1 => ?_)
  exact rz_lreturn rfl rfl dX9_bottom_9
theorem tX9_bottom (v : mE) (d : Nat) (l0 : Nat) : Mt v yX9_bottom cX9_bottom 1 (some .long) emL (d + 0) [vR l0] (fX9_bottom l0) := mt_of rfl rfl (fun h => by cases h) rfl rfl (rX9_bottom v d l0)
theorem dX9_refuse_0 : decode cX9_refuse 0 = .ok (.aload_n 0, 1) := by decide +kernel
theorem dX9_refuse_1 : decode cX9_refuse 1 = .ok (.iload_n 1, 1) := by decide +kernel
theorem dX9_refuse_2 : decode cX9_refuse 2 = .ok (.putfield 65, 3) := by decide +kernel
theorem dX9_refuse_5 : decode cX9_refuse 5 = .ok (.iconst (-1), 1) := by decide +kernel
theorem dX9_refuse_6 : decode cX9_refuse 6 = .ok (.ireturn, 1) := by decide +kernel
def fX9_refuse (l0 : Nat) (l1 : Int32) : mM Int32 := bPI 9 l0 0 l1 (bRet (-1 : Int32))
set_option maxRecDepth 20000 in
theorem rX9_refuse (v : mE) (d : Nat) (l0 : Nat) (l1 : Int32) : Rz v RX9 cX9_refuse 2 (some .int) false emI (d + 0) 0 [(0, vR l0), (1, vI l1)] [] (fX9_refuse l0 l1) := by
  unfold fX9_refuse
  refine rz_aload_n 1 0 dX9_refuse_0 rfl rfl ?_
  refine rz_iload_n 2 1 dX9_refuse_1 rfl rfl ?_
  refine rz_pI 5 dX9_refuse_2 rfl rfl rfl rfl fl_X9_65 ?_
  refine rz_iconst 6 dX9_refuse_5 rfl ci_m1 ?_
  exact rz_ireturn rfl rfl dX9_refuse_6
theorem tX9_refuse (v : mE) (d : Nat) (l0 : Nat) (l1 : Int32) : Mt v yX9_refuse cX9_refuse 2 (some .int) emI (d + 0) [vR l0, vI l1] (fX9_refuse l0 l1) := mt_of rfl rfl (fun h => by cases h) rfl rfl (rX9_refuse v d l0 l1)
theorem dX9_no_0 : decode cX9_no 0 = .ok (.aload_n 0, 1) := by decide +kernel
theorem dX9_no_1 : decode cX9_no 1 = .ok (.iload_n 1, 1) := by decide +kernel
theorem dX9_no_2 : decode cX9_no 2 = .ok (.putfield 65, 3) := by decide +kernel
theorem dX9_no_5 : decode cX9_no 5 = .ok (.iconst 0, 1) := by decide +kernel
theorem dX9_no_6 : decode cX9_no 6 = .ok (.ireturn, 1) := by decide +kernel
def fX9_no (l0 : Nat) (l1 : Int32) : mM Int32 := bPI 9 l0 0 l1 (bRetZ (0 : Int32))
set_option maxRecDepth 20000 in
theorem rX9_no (v : mE) (d : Nat) (l0 : Nat) (l1 : Int32) : Rz v RX9 cX9_no 2 (some .boolean) false emI (d + 0) 0 [(0, vR l0), (1, vI l1)] [] (fX9_no l0 l1) := by
  unfold fX9_no
  refine rz_aload_n 1 0 dX9_no_0 rfl rfl ?_
  refine rz_iload_n 2 1 dX9_no_1 rfl rfl ?_
  refine rz_pI 5 dX9_no_2 rfl rfl rfl rfl fl_X9_65 ?_
  refine rz_iconst 6 dX9_no_5 rfl ci_0 ?_
  exact rz_zreturn rfl rfl dX9_no_6
theorem tX9_no (v : mE) (d : Nat) (l0 : Nat) (l1 : Int32) : Mt v yX9_no cX9_no 2 (some .boolean) emI (d + 0) [vR l0, vI l1] (fX9_no l0 l1) := mt_of rfl rfl (fun h => by cases h) rfl rfl (rX9_no v d l0 l1)
theorem dX9_isIn_0 : decode cX9_isIn 0 = .ok (.lload_n 0, 1) := by decide +kernel
theorem dX9_isIn_1 : decode cX9_isIn 1 = .ok (.lload_n 2, 1) := by decide +kernel
theorem dX9_isIn_2 : decode cX9_isIn 2 = .ok (.lcmp, 1) := by decide +kernel
theorem dX9_isIn_3 : decode cX9_isIn 3 = .ok (.ifCond .lt 14, 3) := by decide +kernel
theorem dX9_isIn_6 : decode cX9_isIn 6 = .ok (.lload_n 0, 1) := by decide +kernel
theorem dX9_isIn_7 : decode cX9_isIn 7 = .ok (.lload 4, 2) := by decide +kernel
theorem dX9_isIn_9 : decode cX9_isIn 9 = .ok (.lcmp, 1) := by decide +kernel
theorem dX9_isIn_10 : decode cX9_isIn 10 = .ok (.ifCond .gt 7, 3) := by decide +kernel
theorem dX9_isIn_13 : decode cX9_isIn 13 = .ok (.iconst 1, 1) := by decide +kernel
theorem dX9_isIn_14 : decode cX9_isIn 14 = .ok (.goto 4, 3) := by decide +kernel
theorem dX9_isIn_17 : decode cX9_isIn 17 = .ok (.iconst 0, 1) := by decide +kernel
theorem dX9_isIn_18 : decode cX9_isIn 18 = .ok (.ireturn, 1) := by decide +kernel
def fX9_isIn (l0 : Int64) (l2 : Int64) (l4 : Int64) : mM Int32 := bIf ((lg_cmp l0 l2) < 0) (bRetZ (0 : Int32)) (bIf (0 < (lg_cmp l0 l4)) (bRetZ (0 : Int32)) (bRetZ (1 : Int32)))
set_option maxRecDepth 20000 in
theorem rX9_isIn (v : mE) (d : Nat) (l0 : Int64) (l2 : Int64) (l4 : Int64) : Rz v RX9 cX9_isIn 6 (some .boolean) false emI (d + 0) 0 [(0, vL l0), (2, vL l2), (4, vL l4)] [] (fX9_isIn l0 l2 l4) := by
  unfold fX9_isIn
  refine rz_lload_n 1 0 dX9_isIn_0 rfl rfl ?_
  refine rz_lload_n 2 1 dX9_isIn_1 rfl rfl ?_
  refine rz_lcmp 3 dX9_isIn_2 rfl ?_
  refine rz_if_lt 17 6 dX9_isIn_3 rfl rfl ?_ ?_
  · refine rz_iconst 18 dX9_isIn_17 rfl ci_0 ?_
    exact rz_zreturn rfl rfl dX9_isIn_18
  · refine rz_lload_n 7 0 dX9_isIn_6 rfl rfl ?_
    refine rz_lload 9 2 dX9_isIn_7 rfl rfl ?_
    refine rz_lcmp 10 dX9_isIn_9 rfl ?_
    refine rz_if_gt 17 13 dX9_isIn_10 rfl rfl ?_ ?_
    · refine rz_iconst 18 dX9_isIn_17 rfl ci_0 ?_
      exact rz_zreturn rfl rfl dX9_isIn_18
    · refine rz_iconst 14 dX9_isIn_13 rfl ci_1 ?_
      refine rz_goto 18 dX9_isIn_14 rfl ?_
      exact rz_zreturn rfl rfl dX9_isIn_18
theorem tX9_isIn (v : mE) (d : Nat) (l0 : Int64) (l2 : Int64) (l4 : Int64) : Mt v yX9_isIn cX9_isIn 6 (some .boolean) emI (d + 0) [vL l0, vL l2, vL l4] (fX9_isIn l0 l2 l4) := mt_of rfl rfl (fun h => by cases h) rfl rfl (rX9_isIn v d l0 l2 l4)
theorem dX9_fraction_0 : decode cX9_fraction 0 = .ok (.lload_n 1, 1) := by decide +kernel
theorem dX9_fraction_1 : decode cX9_fraction 1 = .ok (.invokestatic 71, 3) := by decide +kernel
theorem dX9_fraction_4 : decode cX9_fraction 4 = .ok (.lstore 5, 2) := by decide +kernel
theorem dX9_fraction_6 : decode cX9_fraction 6 = .ok (.lload_n 3, 1) := by decide +kernel
theorem dX9_fraction_7 : decode cX9_fraction 7 = .ok (.lstore 7, 2) := by decide +kernel
theorem dX9_fraction_9 : decode cX9_fraction 9 = .ok (.lload 7, 2) := by decide +kernel
theorem dX9_fraction_11 : decode cX9_fraction 11 = .ok (.lconst 0, 1) := by decide +kernel
theorem dX9_fraction_12 : decode cX9_fraction 12 = .ok (.lcmp, 1) := by decide +kernel
theorem dX9_fraction_13 : decode cX9_fraction 13 = .ok (.ifCond .eq 21, 3) := by decide +kernel
theorem dX9_fraction_16 : decode cX9_fraction 16 = .ok (.lload 5, 2) := by decide +kernel
theorem dX9_fraction_18 : decode cX9_fraction 18 = .ok (.lload 7, 2) := by decide +kernel
theorem dX9_fraction_20 : decode cX9_fraction 20 = .ok (.lrem, 1) := by decide +kernel
theorem dX9_fraction_21 : decode cX9_fraction 21 = .ok (.lstore 9, 2) := by decide +kernel
theorem dX9_fraction_23 : decode cX9_fraction 23 = .ok (.lload 7, 2) := by decide +kernel
theorem dX9_fraction_25 : decode cX9_fraction 25 = .ok (.lstore 5, 2) := by decide +kernel
theorem dX9_fraction_27 : decode cX9_fraction 27 = .ok (.lload 9, 2) := by decide +kernel
theorem dX9_fraction_29 : decode cX9_fraction 29 = .ok (.lstore 7, 2) := by decide +kernel
theorem dX9_fraction_31 : decode cX9_fraction 31 = .ok (.goto (-22), 3) := by decide +kernel
theorem dX9_fraction_34 : decode cX9_fraction 34 = .ok (.aload_n 0, 1) := by decide +kernel
theorem dX9_fraction_35 : decode cX9_fraction 35 = .ok (.lload_n 1, 1) := by decide +kernel
theorem dX9_fraction_36 : decode cX9_fraction 36 = .ok (.lload 5, 2) := by decide +kernel
theorem dX9_fraction_38 : decode cX9_fraction 38 = .ok (.ldiv, 1) := by decide +kernel
theorem dX9_fraction_39 : decode cX9_fraction 39 = .ok (.putfield 68, 3) := by decide +kernel
theorem dX9_fraction_42 : decode cX9_fraction 42 = .ok (.aload_n 0, 1) := by decide +kernel
theorem dX9_fraction_43 : decode cX9_fraction 43 = .ok (.lload_n 3, 1) := by decide +kernel
theorem dX9_fraction_44 : decode cX9_fraction 44 = .ok (.lload 5, 2) := by decide +kernel
theorem dX9_fraction_46 : decode cX9_fraction 46 = .ok (.ldiv, 1) := by decide +kernel
theorem dX9_fraction_47 : decode cX9_fraction 47 = .ok (.putfield 7, 3) := by decide +kernel
theorem dX9_fraction_50 : decode cX9_fraction 50 = .ok (.iconst 1, 1) := by decide +kernel
theorem dX9_fraction_51 : decode cX9_fraction 51 = .ok (.ireturn, 1) := by decide +kernel
def fX9_fraction_34 (l0 : Nat) (l1 : Int64) (l3 : Int64) (l5 : Int64) : mM Int32 := bNl l5 (bPL 9 l0 2 (l1 / l5) (bNl l5 (bPL 9 l0 3 (l3 / l5) (bRetZ (1 : Int32)))))
set_option maxRecDepth 20000 in
theorem rX9_fraction_34 (v : mE) (d : Nat) (l0 : Nat) (l1 : Int64) (l3 : Int64) (l5 : Int64) : Rz v RX9 cX9_fraction 11 (some .boolean) false emI (d + 1) 34 [(0, vR l0), (1, vL l1), (3, vL l3), (5, vL l5)] [] (fX9_fraction_34 l0 l1 l3 l5) := by
  unfold fX9_fraction_34
  refine rz_aload_n 35 0 dX9_fraction_34 rfl rfl ?_
  refine rz_lload_n 36 1 dX9_fraction_35 rfl rfl ?_
  refine rz_lload 38 3 dX9_fraction_36 rfl rfl ?_
  refine rz_ldiv 39 dX9_fraction_38 rfl ?_
  refine rz_pL 42 dX9_fraction_39 rfl rfl rfl fl_X9_68 ?_
  refine rz_aload_n 43 0 dX9_fraction_42 rfl rfl ?_
  refine rz_lload_n 44 2 dX9_fraction_43 rfl rfl ?_
  refine rz_lload 46 3 dX9_fraction_44 rfl rfl ?_
  refine rz_ldiv 47 dX9_fraction_46 rfl ?_
  refine rz_pL 50 dX9_fraction_47 rfl rfl rfl fl_X9_7 ?_
  refine rz_iconst 51 dX9_fraction_50 rfl ci_1 ?_
  exact rz_zreturn rfl rfl dX9_fraction_51
def fX9_fraction_9 : Nat → Nat → Int64 → Int64 → Int64 → Int64 → mM Int32
  | 0 => fun _ _ _ _ _ => fun _ => none
  | n + 1 => fun l0 l1 l3 l5 l7 => let r9 := fX9_fraction_9 n; bIf ((lg_cmp l7 (0 : Int64)) = 0) (fX9_fraction_34 l0 l1 l3 l5) (bNl l7 (r9 l0 l1 l3 l7 (l5 - l5 / l7 * l7)))
theorem qX9_fraction_9  (n : Nat) (l0 : Nat) (l1 : Int64) (l3 : Int64) (l5 : Int64) (l7 : Int64) : fX9_fraction_9 (n + 1) l0 l1 l3 l5 l7 = bIf ((lg_cmp l7 (0 : Int64)) = 0) (fX9_fraction_34 l0 l1 l3 l5) (bNl l7 ((fX9_fraction_9 n) l0 l1 l3 l7 (l5 - l5 / l7 * l7))) := rfl
set_option maxRecDepth 20000 in
theorem rX9_fraction_9 (v : mE) (d : Nat) : ∀ (n : Nat) (l0 : Nat) (l1 : Int64) (l3 : Int64) (l5 : Int64) (l7 : Int64), Rz v RX9 cX9_fraction 11 (some .boolean) false emI (d + 1) 9 [(0, vR l0), (1, vL l1), (3, vL l3), (5, vL l5), (7, vL l7)] [] (fX9_fraction_9 n l0 l1 l3 l5 l7)
  | 0, _, _, _, _, _ => fun _ _ _ hm => by cases hm
  | n + 1, l0, l1, l3, l5, l7 => by
    have h9 := rX9_fraction_9 v d n
    unfold fX9_fraction_9
    generalize fX9_fraction_9 n = r9 at h9 ⊢
    refine rz_lload 11 4 dX9_fraction_9 rfl rfl ?_
    refine rz_lconst 12 dX9_fraction_11 rfl cl_0 ?_
    refine rz_lcmp 13 dX9_fraction_12 rfl ?_
    refine rz_if_eq 34 16 dX9_fraction_13 rfl rfl ?_ ?_
    · exact rz_sub [0, 1, 2, 3] rfl (rX9_fraction_34 v d l0 l1 l3 l5)
    · refine rz_lload 18 3 dX9_fraction_16 rfl rfl ?_
      refine rz_lload 20 4 dX9_fraction_18 rfl rfl ?_
      refine rz_lrem 21 dX9_fraction_20 rfl ?_
      refine rz_lstore (lv' := [(9, vL (l5 - l5 / l7 * l7)), (0, vR l0), (1, vL l1), (3, vL l3), (5, vL l5), (7, vL l7)]) 23 dX9_fraction_21 rfl rfl rfl ?_
      refine rz_lload 25 5 dX9_fraction_23 rfl rfl ?_
      refine rz_lstore (lv' := [(5, vL l7), (9, vL (l5 - l5 / l7 * l7)), (0, vR l0), (1, vL l1), (3, vL l3), (7, vL l7)]) 27 dX9_fraction_25 rfl rfl rfl ?_
      refine rz_lload 29 1 dX9_fraction_27 rfl rfl ?_
      refine rz_lstore (lv' := [(7, vL (l5 - l5 / l7 * l7)), (5, vL l7), (9, vL (l5 - l5 / l7 * l7)), (0, vR l0), (1, vL l1), (3, vL l3)]) 31 dX9_fraction_29 rfl rfl rfl ?_
      refine rz_goto 9 dX9_fraction_31 rfl ?_
      exact rz_sub [3, 4, 5, 1, 0] rfl (h9 l0 l1 l3 l7 (l5 - l5 / l7 * l7))
def fX9_fraction (l0 : Nat) (l1 : Int64) (l3 : Int64) : mM Int32 := fX9_fraction_9 fu l0 l1 l3 (jAbs l1) l3
set_option maxRecDepth 20000 in
theorem rX9_fraction (v : mE) (d : Nat) (l0 : Nat) (l1 : Int64) (l3 : Int64) : Rz v RX9 cX9_fraction 11 (some .boolean) false emI (d + 1) 0 [(0, vR l0), (1, vL l1), (3, vL l3)] [] (fX9_fraction l0 l1 l3) := by
  unfold fX9_fraction
  refine rz_lload_n 1 1 dX9_fraction_0 rfl rfl ?_
  refine rz_mabs 4 dX9_fraction_1 rfl ml_X9_71 rfl rfl ?_
  refine rz_lstore (lv' := [(5, vL (jAbs l1)), (0, vR l0), (1, vL l1), (3, vL l3)]) 6 dX9_fraction_4 rfl rfl rfl ?_
  refine rz_lload_n 7 3 dX9_fraction_6 rfl rfl ?_
  refine rz_lstore (lv' := [(7, vL l3), (5, vL (jAbs l1)), (0, vR l0), (1, vL l1), (3, vL l3)]) 9 dX9_fraction_7 rfl rfl rfl ?_
  exact rz_sub [2, 3, 4, 1, 0] rfl (rX9_fraction_9 v d fu l0 l1 l3 (jAbs l1) l3)
theorem tX9_fraction (v : mE) (d : Nat) (l0 : Nat) (l1 : Int64) (l3 : Int64) : Mt v yX9_fraction cX9_fraction 11 (some .boolean) emI (d + 1) [vR l0, vL l1, vL l3] (fX9_fraction l0 l1 l3) := mt_of rfl rfl (fun h => by cases h) rfl rfl (rX9_fraction v d l0 l1 l3)
theorem dX9_cut_0 : decode cX9_cut 0 = .ok (.iload_n 0, 1) := by decide +kernel
theorem dX9_cut_1 : decode cX9_cut 1 = .ok (.ifCond .ne 10, 3) := by decide +kernel
theorem dX9_cut_4 : decode cX9_cut 4 = .ok (.lload_n 1, 1) := by decide +kernel
theorem dX9_cut_5 : decode cX9_cut 5 = .ok (.l2i, 1) := by decide +kernel
theorem dX9_cut_6 : decode cX9_cut 6 = .ok (.i2b, 1) := by decide +kernel
theorem dX9_cut_7 : decode cX9_cut 7 = .ok (.i2l, 1) := by decide +kernel
theorem dX9_cut_8 : decode cX9_cut 8 = .ok (.goto 27, 3) := by decide +kernel
theorem dX9_cut_11 : decode cX9_cut 11 = .ok (.iload_n 0, 1) := by decide +kernel
theorem dX9_cut_12 : decode cX9_cut 12 = .ok (.iconst 1, 1) := by decide +kernel
theorem dX9_cut_13 : decode cX9_cut 13 = .ok (.if_icmp .ne 10, 3) := by decide +kernel
theorem dX9_cut_16 : decode cX9_cut 16 = .ok (.lload_n 1, 1) := by decide +kernel
theorem dX9_cut_17 : decode cX9_cut 17 = .ok (.l2i, 1) := by decide +kernel
theorem dX9_cut_18 : decode cX9_cut 18 = .ok (.i2s, 1) := by decide +kernel
theorem dX9_cut_19 : decode cX9_cut 19 = .ok (.i2l, 1) := by decide +kernel
theorem dX9_cut_20 : decode cX9_cut 20 = .ok (.goto 15, 3) := by decide +kernel
theorem dX9_cut_23 : decode cX9_cut 23 = .ok (.iload_n 0, 1) := by decide +kernel
theorem dX9_cut_24 : decode cX9_cut 24 = .ok (.iconst 2, 1) := by decide +kernel
theorem dX9_cut_25 : decode cX9_cut 25 = .ok (.if_icmp .ne 9, 3) := by decide +kernel
theorem dX9_cut_28 : decode cX9_cut 28 = .ok (.lload_n 1, 1) := by decide +kernel
theorem dX9_cut_29 : decode cX9_cut 29 = .ok (.l2i, 1) := by decide +kernel
theorem dX9_cut_30 : decode cX9_cut 30 = .ok (.i2l, 1) := by decide +kernel
theorem dX9_cut_31 : decode cX9_cut 31 = .ok (.goto 4, 3) := by decide +kernel
theorem dX9_cut_34 : decode cX9_cut 34 = .ok (.lload_n 1, 1) := by decide +kernel
theorem dX9_cut_35 : decode cX9_cut 35 = .ok (.lreturn, 1) := by decide +kernel
def fX9_cut (l0 : Int32) (l1 : Int64) : mM Int64 := bIf (l0 = 0) (bRet (Int32.toInt64 ((Int32.toInt8 (Int64.toInt32 l1)).toInt32))) (bIf (l0 = (1 : Int32)) (bRet (Int32.toInt64 ((Int32.toInt16 (Int64.toInt32 l1)).toInt32))) (bIf (l0 = (2 : Int32)) (bRet (Int32.toInt64 (Int64.toInt32 l1))) (bRet l1)))
set_option maxRecDepth 20000 in
theorem rX9_cut (v : mE) (d : Nat) (l0 : Int32) (l1 : Int64) : Rz v RX9 cX9_cut 3 (some .long) false emL (d + 0) 0 [(0, vI l0), (1, vL l1)] [] (fX9_cut l0 l1) := by
  unfold fX9_cut
  refine rz_iload_n 1 0 dX9_cut_0 rfl rfl ?_
  refine rz_if_ne 11 4 dX9_cut_1 rfl rfl ?_ ?_
  · refine rz_iload_n 12 0 dX9_cut_11 rfl rfl ?_
    refine rz_iconst 13 dX9_cut_12 rfl ci_1 ?_
    refine rz_icmp_ne 23 16 dX9_cut_13 rfl rfl ?_ ?_
    · refine rz_iload_n 24 0 dX9_cut_23 rfl rfl ?_
      refine rz_iconst 25 dX9_cut_24 rfl ci_2 ?_
      refine rz_icmp_ne 34 28 dX9_cut_25 rfl rfl ?_ ?_
      · refine rz_lload_n 35 1 dX9_cut_34 rfl rfl ?_
        exact rz_lreturn rfl rfl dX9_cut_35
      · refine rz_lload_n 29 1 dX9_cut_28 rfl rfl ?_
        refine rz_l2i 30 dX9_cut_29 rfl ?_
        refine rz_i2l 31 dX9_cut_30 rfl ?_
        refine rz_goto 35 dX9_cut_31 rfl ?_
        exact rz_lreturn rfl rfl dX9_cut_35
    · refine rz_lload_n 17 1 dX9_cut_16 rfl rfl ?_
      refine rz_l2i 18 dX9_cut_17 rfl ?_
      refine rz_i2s 19 dX9_cut_18 rfl ?_
      refine rz_i2l 20 dX9_cut_19 rfl ?_
      refine rz_goto 35 dX9_cut_20 rfl ?_
      exact rz_lreturn rfl rfl dX9_cut_35
  · refine rz_lload_n 5 1 dX9_cut_4 rfl rfl ?_
    refine rz_l2i 6 dX9_cut_5 rfl ?_
    refine rz_i2b 7 dX9_cut_6 rfl ?_
    refine rz_i2l 8 dX9_cut_7 rfl ?_
    refine rz_goto 35 dX9_cut_8 rfl ?_
    exact rz_lreturn rfl rfl dX9_cut_35
theorem tX9_cut (v : mE) (d : Nat) (l0 : Int32) (l1 : Int64) : Mt v yX9_cut cX9_cut 3 (some .long) emL (d + 0) [vI l0, vL l1] (fX9_cut l0 l1) := mt_of rfl rfl (fun h => by cases h) rfl rfl (rX9_cut v d l0 l1)
theorem dX9_tray_0 : decode cX9_tray 0 = .ok (.aload_n 0, 1) := by decide +kernel
theorem dX9_tray_1 : decode cX9_tray 1 = .ok (.iconst 0, 1) := by decide +kernel
theorem dX9_tray_2 : decode cX9_tray 2 = .ok (.putfield 62, 3) := by decide +kernel
theorem dX9_tray_5 : decode cX9_tray 5 = .ok (.aload_n 0, 1) := by decide +kernel
theorem dX9_tray_6 : decode cX9_tray 6 = .ok (.iconst 0, 1) := by decide +kernel
theorem dX9_tray_7 : decode cX9_tray 7 = .ok (.putfield 65, 3) := by decide +kernel
theorem dX9_tray_10 : decode cX9_tray 10 = .ok (.iload_n 1, 1) := by decide +kernel
theorem dX9_tray_11 : decode cX9_tray 11 = .ok (.ifCond .lt 17, 3) := by decide +kernel
theorem dX9_tray_14 : decode cX9_tray 14 = .ok (.iload_n 1, 1) := by decide +kernel
theorem dX9_tray_15 : decode cX9_tray 15 = .ok (.iconst 4, 1) := by decide +kernel
theorem dX9_tray_16 : decode cX9_tray 16 = .ok (.if_icmp .ge 12, 3) := by decide +kernel
theorem dX9_tray_19 : decode cX9_tray 19 = .ok (.iload_n 2, 1) := by decide +kernel
theorem dX9_tray_20 : decode cX9_tray 20 = .ok (.ifCond .lt 8, 3) := by decide +kernel
theorem dX9_tray_23 : decode cX9_tray 23 = .ok (.iload_n 2, 1) := by decide +kernel
theorem dX9_tray_24 : decode cX9_tray 24 = .ok (.iconst 3, 1) := by decide +kernel
theorem dX9_tray_25 : decode cX9_tray 25 = .ok (.if_icmp .le 9, 3) := by decide +kernel
theorem dX9_tray_28 : decode cX9_tray 28 = .ok (.aload_n 0, 1) := by decide +kernel
theorem dX9_tray_29 : decode cX9_tray 29 = .ok (.iconst 1, 1) := by decide +kernel
theorem dX9_tray_30 : decode cX9_tray 30 = .ok (.invokevirtual 77, 3) := by decide +kernel
theorem dX9_tray_33 : decode cX9_tray 33 = .ok (.ireturn, 1) := by decide +kernel
theorem dX9_tray_34 : decode cX9_tray 34 = .ok (.iload_n 3, 1) := by decide +kernel
theorem dX9_tray_35 : decode cX9_tray 35 = .ok (.bipush 60, 2) := by decide +kernel
theorem dX9_tray_37 : decode cX9_tray 37 = .ok (.if_icmp .le 9, 3) := by decide +kernel
theorem dX9_tray_40 : decode cX9_tray 40 = .ok (.aload_n 0, 1) := by decide +kernel
theorem dX9_tray_41 : decode cX9_tray 41 = .ok (.iconst 5, 1) := by decide +kernel
theorem dX9_tray_42 : decode cX9_tray 42 = .ok (.invokevirtual 77, 3) := by decide +kernel
theorem dX9_tray_45 : decode cX9_tray 45 = .ok (.ireturn, 1) := by decide +kernel
theorem dX9_tray_46 : decode cX9_tray 46 = .ok (.iload_n 3, 1) := by decide +kernel
theorem dX9_tray_47 : decode cX9_tray 47 = .ok (.ifCond .ge 10, 3) := by decide +kernel
theorem dX9_tray_50 : decode cX9_tray 50 = .ok (.aload_n 0, 1) := by decide +kernel
theorem dX9_tray_51 : decode cX9_tray 51 = .ok (.bipush 6, 2) := by decide +kernel
theorem dX9_tray_53 : decode cX9_tray 53 = .ok (.invokevirtual 77, 3) := by decide +kernel
theorem dX9_tray_56 : decode cX9_tray 56 = .ok (.ireturn, 1) := by decide +kernel
theorem dX9_tray_57 : decode cX9_tray 57 = .ok (.aload_n 0, 1) := by decide +kernel
theorem dX9_tray_58 : decode cX9_tray 58 = .ok (.getfield 13, 3) := by decide +kernel
theorem dX9_tray_61 : decode cX9_tray 61 = .ok (.iload_n 1, 1) := by decide +kernel
theorem dX9_tray_62 : decode cX9_tray 62 = .ok (.iload_n 2, 1) := by decide +kernel
theorem dX9_tray_63 : decode cX9_tray 63 = .ok (.iastore, 1) := by decide +kernel
theorem dX9_tray_64 : decode cX9_tray 64 = .ok (.aload_n 0, 1) := by decide +kernel
theorem dX9_tray_65 : decode cX9_tray 65 = .ok (.getfield 17, 3) := by decide +kernel
theorem dX9_tray_68 : decode cX9_tray 68 = .ok (.iload_n 1, 1) := by decide +kernel
theorem dX9_tray_69 : decode cX9_tray 69 = .ok (.iload_n 3, 1) := by decide +kernel
theorem dX9_tray_70 : decode cX9_tray 70 = .ok (.iastore, 1) := by decide +kernel
theorem dX9_tray_71 : decode cX9_tray 71 = .ok (.iconst 0, 1) := by decide +kernel
theorem dX9_tray_72 : decode cX9_tray 72 = .ok (.istore 4, 2) := by decide +kernel
theorem dX9_tray_74 : decode cX9_tray 74 = .ok (.iload 4, 2) := by decide +kernel
theorem dX9_tray_76 : decode cX9_tray 76 = .ok (.iload_n 3, 1) := by decide +kernel
theorem dX9_tray_77 : decode cX9_tray 77 = .ok (.if_icmp .ge 22, 3) := by decide +kernel
theorem dX9_tray_80 : decode cX9_tray 80 = .ok (.aload_n 0, 1) := by decide +kernel
theorem dX9_tray_81 : decode cX9_tray 81 = .ok (.getfield 20, 3) := by decide +kernel
theorem dX9_tray_84 : decode cX9_tray 84 = .ok (.bipush 60, 2) := by decide +kernel
theorem dX9_tray_86 : decode cX9_tray 86 = .ok (.iload_n 1, 1) := by decide +kernel
theorem dX9_tray_87 : decode cX9_tray 87 = .ok (.imul, 1) := by decide +kernel
theorem dX9_tray_88 : decode cX9_tray 88 = .ok (.iload 4, 2) := by decide +kernel
theorem dX9_tray_90 : decode cX9_tray 90 = .ok (.iadd, 1) := by decide +kernel
theorem dX9_tray_91 : decode cX9_tray 91 = .ok (.lconst 0, 1) := by decide +kernel
theorem dX9_tray_92 : decode cX9_tray 92 = .ok (.lastore, 1) := by decide +kernel
theorem dX9_tray_93 : decode cX9_tray 93 = .ok (.iinc 4 1, 3) := by decide +kernel
theorem dX9_tray_96 : decode cX9_tray 96 = .ok (.goto (-22), 3) := by decide +kernel
theorem dX9_tray_99 : decode cX9_tray 99 = .ok (.iconst 1, 1) := by decide +kernel
theorem dX9_tray_100 : decode cX9_tray 100 = .ok (.ireturn, 1) := by decide +kernel
def fX9_tray_74 : Nat → Nat → Int32 → Int32 → Int32 → mM Int32
  | 0 => fun _ _ _ _ => fun _ => none
  | n + 1 => fun l0 l1 l3 l4 => let r74 := fX9_tray_74 n; bIf (l3 ≤ l4) (bRetZ (1 : Int32)) (bGR 9 l0 6 (fun x1 => bSL x1 (((60 : Int32) * l1) + l4) (0 : Int64) (r74 l0 l1 l3 (l4 + 1))))
theorem qX9_tray_74  (n : Nat) (l0 : Nat) (l1 : Int32) (l3 : Int32) (l4 : Int32) : fX9_tray_74 (n + 1) l0 l1 l3 l4 = bIf (l3 ≤ l4) (bRetZ (1 : Int32)) (bGR 9 l0 6 (fun x1 => bSL x1 (((60 : Int32) * l1) + l4) (0 : Int64) ((fX9_tray_74 n) l0 l1 l3 (l4 + 1)))) := rfl
set_option maxRecDepth 20000 in
theorem rX9_tray_74 (v : mE) (d : Nat) : ∀ (n : Nat) (l0 : Nat) (l1 : Int32) (l3 : Int32) (l4 : Int32), Rz v RX9 cX9_tray 5 (some .boolean) false emI (d + 1) 74 [(0, vR l0), (1, vI l1), (3, vI l3), (4, vI l4)] [] (fX9_tray_74 n l0 l1 l3 l4)
  | 0, _, _, _, _ => fun _ _ _ hm => by cases hm
  | n + 1, l0, l1, l3, l4 => by
    have h74 := rX9_tray_74 v d n
    unfold fX9_tray_74
    generalize fX9_tray_74 n = r74 at h74 ⊢
    refine rz_iload 76 3 dX9_tray_74 rfl rfl ?_
    refine rz_iload_n 77 2 dX9_tray_76 rfl rfl ?_
    refine rz_icmp_ge 99 80 dX9_tray_77 rfl rfl ?_ ?_
    · refine rz_iconst 100 dX9_tray_99 rfl ci_1 ?_
      exact rz_zreturn rfl rfl dX9_tray_100
    · refine rz_aload_n 81 0 dX9_tray_80 rfl rfl ?_
      refine rz_gR 84 dX9_tray_81 rfl rfl fl_X9_20 (fun x1 => ?_)
      refine rz_bipush 86 dX9_tray_84 rfl cb_60 ?_
      refine rz_iload_n 87 1 dX9_tray_86 rfl rfl ?_
      refine rz_imul 88 dX9_tray_87 rfl ?_
      refine rz_iload 90 3 dX9_tray_88 rfl rfl ?_
      refine rz_iadd 91 dX9_tray_90 rfl ?_
      refine rz_lconst 92 dX9_tray_91 rfl cl_0 ?_
      refine rz_last 93 dX9_tray_92 rfl ?_
      refine rz_iinc (lv' := [(4, vI (l4 + 1)), (0, vR l0), (1, vI l1), (3, vI l3)]) 96 3 dX9_tray_93 rfl rfl (cn_1 _) rfl rfl ?_
      refine rz_goto 74 dX9_tray_96 rfl ?_
      exact rz_sub [1, 2, 3, 0] rfl (h74 l0 l1 l3 (l4 + 1))
def fX9_tray_28 (l0 : Nat) : mM Int32 := bCallV 9 l0 (fX9_no l0 (1 : Int32)) (fun x1 => bRetZ x1)
set_option maxRecDepth 20000 in
theorem rX9_tray_28 (v : mE) (d : Nat) (l0 : Nat) : Rz v RX9 cX9_tray 5 (some .boolean) false emI (d + 1) 28 [(0, vR l0)] [] (fX9_tray_28 l0) := by
  unfold fX9_tray_28
  refine rz_aload_n 29 0 dX9_tray_28 rfl rfl ?_
  refine rz_iconst 30 dX9_tray_29 rfl ci_1 ?_
  refine rz_callV 33 dX9_tray_30 rfl (tX9_no v (d + 0) l0 (1 : Int32)) rfl rfl rfl rfl ml_X9_77 im_X9_no se_X9_X9_no in_X9 co_X9_no rfl rfl (fun x1 => ?_)
  exact rz_zreturn rfl rfl dX9_tray_33
def fX9_tray (l0 : Nat) (l1 : Int32) (l2 : Int32) (l3 : Int32) : mM Int32 := bPI 9 l0 1 (0 : Int32) (bPI 9 l0 0 (0 : Int32) (bIf (l1 < 0) (fX9_tray_28 l0) (bIf ((4 : Int32) ≤ l1) (fX9_tray_28 l0) (bIf (l2 < 0) (fX9_tray_28 l0) (bIf (l2 ≤ (3 : Int32)) (bIf (l3 ≤ (60 : Int32)) (bIf (0 ≤ l3) (bGR 9 l0 4 (fun x1 => bSI x1 l1 l2 (bGR 9 l0 5 (fun x2 => bSI x2 l1 l3 (fX9_tray_74 fu l0 l1 l3 (0 : Int32)))))) (bCallV 9 l0 (fX9_no l0 (6 : Int32)) (fun x3 => bRetZ x3))) (bCallV 9 l0 (fX9_no l0 (5 : Int32)) (fun x4 => bRetZ x4))) (fX9_tray_28 l0))))))
set_option maxRecDepth 20000 in
theorem rX9_tray (v : mE) (d : Nat) (l0 : Nat) (l1 : Int32) (l2 : Int32) (l3 : Int32) : Rz v RX9 cX9_tray 5 (some .boolean) false emI (d + 1) 0 [(0, vR l0), (1, vI l1), (2, vI l2), (3, vI l3)] [] (fX9_tray l0 l1 l2 l3) := by
  unfold fX9_tray
  refine rz_aload_n 1 0 dX9_tray_0 rfl rfl ?_
  refine rz_iconst 2 dX9_tray_1 rfl ci_0 ?_
  refine rz_pI 5 dX9_tray_2 rfl rfl rfl rfl fl_X9_62 ?_
  refine rz_aload_n 6 0 dX9_tray_5 rfl rfl ?_
  refine rz_iconst 7 dX9_tray_6 rfl ci_0 ?_
  refine rz_pI 10 dX9_tray_7 rfl rfl rfl rfl fl_X9_65 ?_
  refine rz_iload_n 11 1 dX9_tray_10 rfl rfl ?_
  refine rz_if_lt 28 14 dX9_tray_11 rfl rfl ?_ ?_
  · exact rz_sub [0] rfl (rX9_tray_28 v d l0)
  · refine rz_iload_n 15 1 dX9_tray_14 rfl rfl ?_
    refine rz_iconst 16 dX9_tray_15 rfl ci_4 ?_
    refine rz_icmp_ge 28 19 dX9_tray_16 rfl rfl ?_ ?_
    · exact rz_sub [0] rfl (rX9_tray_28 v d l0)
    · refine rz_iload_n 20 2 dX9_tray_19 rfl rfl ?_
      refine rz_if_lt 28 23 dX9_tray_20 rfl rfl ?_ ?_
      · exact rz_sub [0] rfl (rX9_tray_28 v d l0)
      · refine rz_iload_n 24 2 dX9_tray_23 rfl rfl ?_
        refine rz_iconst 25 dX9_tray_24 rfl ci_3 ?_
        refine rz_icmp_le 34 28 dX9_tray_25 rfl rfl ?_ ?_
        · refine rz_iload_n 35 3 dX9_tray_34 rfl rfl ?_
          refine rz_bipush 37 dX9_tray_35 rfl cb_60 ?_
          refine rz_icmp_le 46 40 dX9_tray_37 rfl rfl ?_ ?_
          · refine rz_iload_n 47 3 dX9_tray_46 rfl rfl ?_
            refine rz_if_ge 57 50 dX9_tray_47 rfl rfl ?_ ?_
            · refine rz_aload_n 58 0 dX9_tray_57 rfl rfl ?_
              refine rz_gR 61 dX9_tray_58 rfl rfl fl_X9_13 (fun x1 => ?_)
              refine rz_iload_n 62 1 dX9_tray_61 rfl rfl ?_
              refine rz_iload_n 63 2 dX9_tray_62 rfl rfl ?_
              refine rz_iast 64 dX9_tray_63 rfl ?_
              refine rz_aload_n 65 0 dX9_tray_64 rfl rfl ?_
              refine rz_gR 68 dX9_tray_65 rfl rfl fl_X9_17 (fun x2 => ?_)
              refine rz_iload_n 69 1 dX9_tray_68 rfl rfl ?_
              refine rz_iload_n 70 3 dX9_tray_69 rfl rfl ?_
              refine rz_iast 71 dX9_tray_70 rfl ?_
              refine rz_iconst 72 dX9_tray_71 rfl ci_0 ?_
              refine rz_istore (lv' := [(4, vI (0 : Int32)), (0, vR l0), (1, vI l1), (2, vI l2), (3, vI l3)]) 74 dX9_tray_72 rfl rfl rfl ?_
              exact rz_sub [1, 2, 4, 0] rfl (rX9_tray_74 v d fu l0 l1 l3 (0 : Int32))
            · refine rz_aload_n 51 0 dX9_tray_50 rfl rfl ?_
              refine rz_bipush 53 dX9_tray_51 rfl cb_6 ?_
              refine rz_callV 56 dX9_tray_53 rfl (tX9_no v (d + 0) l0 (6 : Int32)) rfl rfl rfl rfl ml_X9_77 im_X9_no se_X9_X9_no in_X9 co_X9_no rfl rfl (fun x3 => ?_)
              exact rz_zreturn rfl rfl dX9_tray_56
          · refine rz_aload_n 41 0 dX9_tray_40 rfl rfl ?_
            refine rz_iconst 42 dX9_tray_41 rfl ci_5 ?_
            refine rz_callV 45 dX9_tray_42 rfl (tX9_no v (d + 0) l0 (5 : Int32)) rfl rfl rfl rfl ml_X9_77 im_X9_no se_X9_X9_no in_X9 co_X9_no rfl rfl (fun x4 => ?_)
            exact rz_zreturn rfl rfl dX9_tray_45
        · exact rz_sub [0] rfl (rX9_tray_28 v d l0)
theorem tX9_tray (v : mE) (d : Nat) (l0 : Nat) (l1 : Int32) (l2 : Int32) (l3 : Int32) : Mt v yX9_tray cX9_tray 5 (some .boolean) emI (d + 1) [vR l0, vI l1, vI l2, vI l3] (fX9_tray l0 l1 l2 l3) := mt_of rfl rfl (fun h => by cases h) rfl rfl (rX9_tray v d l0 l1 l2 l3)
theorem dX9_trayed_0 : decode cX9_trayed 0 = .ok (.iload_n 1, 1) := by decide +kernel
theorem dX9_trayed_1 : decode cX9_trayed 1 = .ok (.ifCond .lt 8, 3) := by decide +kernel
theorem dX9_trayed_4 : decode cX9_trayed 4 = .ok (.iload_n 1, 1) := by decide +kernel
theorem dX9_trayed_5 : decode cX9_trayed 5 = .ok (.iconst 4, 1) := by decide +kernel
theorem dX9_trayed_6 : decode cX9_trayed 6 = .ok (.if_icmp .lt 7, 3) := by decide +kernel
theorem dX9_trayed_9 : decode cX9_trayed 9 = .ok (.iconst 1, 1) := by decide +kernel
theorem dX9_trayed_10 : decode cX9_trayed 10 = .ok (.goto 17, 3) := by decide +kernel
theorem dX9_trayed_13 : decode cX9_trayed 13 = .ok (.aload_n 0, 1) := by decide +kernel
theorem dX9_trayed_14 : decode cX9_trayed 14 = .ok (.getfield 17, 3) := by decide +kernel
theorem dX9_trayed_17 : decode cX9_trayed 17 = .ok (.iload_n 1, 1) := by decide +kernel
theorem dX9_trayed_18 : decode cX9_trayed 18 = .ok (.iaload, 1) := by decide +kernel
theorem dX9_trayed_19 : decode cX9_trayed 19 = .ok (.ifCond .ge 7, 3) := by decide +kernel
theorem dX9_trayed_22 : decode cX9_trayed 22 = .ok (.iconst 3, 1) := by decide +kernel
theorem dX9_trayed_23 : decode cX9_trayed 23 = .ok (.goto 4, 3) := by decide +kernel
theorem dX9_trayed_26 : decode cX9_trayed 26 = .ok (.iconst 0, 1) := by decide +kernel
theorem dX9_trayed_27 : decode cX9_trayed 27 = .ok (.ireturn, 1) := by decide +kernel
def fX9_trayed (l0 : Nat) (l1 : Int32) : mM Int32 := bIf (l1 < 0) (bRet (1 : Int32)) (bIf (l1 < (4 : Int32)) (bGR 9 l0 5 (fun x1 => bAI 11 x1 l1 (fun x2 => bIf (0 ≤ x2) (bRet (0 : Int32)) (bRet (3 : Int32))))) (bRet (1 : Int32)))
set_option maxRecDepth 20000 in
theorem rX9_trayed (v : mE) (d : Nat) (l0 : Nat) (l1 : Int32) : Rz v RX9 cX9_trayed 2 (some .int) false emI (d + 0) 0 [(0, vR l0), (1, vI l1)] [] (fX9_trayed l0 l1) := by
  unfold fX9_trayed
  refine rz_iload_n 1 1 dX9_trayed_0 rfl rfl ?_
  refine rz_if_lt 9 4 dX9_trayed_1 rfl rfl ?_ ?_
  · refine rz_iconst 10 dX9_trayed_9 rfl ci_1 ?_
    refine rz_goto 27 dX9_trayed_10 rfl ?_
    exact rz_ireturn rfl rfl dX9_trayed_27
  · refine rz_iload_n 5 1 dX9_trayed_4 rfl rfl ?_
    refine rz_iconst 6 dX9_trayed_5 rfl ci_4 ?_
    refine rz_icmp_lt 13 9 dX9_trayed_6 rfl rfl ?_ ?_
    · refine rz_aload_n 14 0 dX9_trayed_13 rfl rfl ?_
      refine rz_gR 17 dX9_trayed_14 rfl rfl fl_X9_17 (fun x1 => ?_)
      refine rz_iload_n 18 1 dX9_trayed_17 rfl rfl ?_
      refine rz_iald 19 dX9_trayed_18 rfl (fun x2 => ?_)
      refine rz_if_ge 26 22 dX9_trayed_19 rfl rfl ?_ ?_
      · refine rz_iconst 27 dX9_trayed_26 rfl ci_0 ?_
        exact rz_ireturn rfl rfl dX9_trayed_27
      · refine rz_iconst 23 dX9_trayed_22 rfl ci_3 ?_
        refine rz_goto 27 dX9_trayed_23 rfl ?_
        exact rz_ireturn rfl rfl dX9_trayed_27
    · refine rz_iconst 10 dX9_trayed_9 rfl ci_1 ?_
      refine rz_goto 27 dX9_trayed_10 rfl ?_
      exact rz_ireturn rfl rfl dX9_trayed_27
theorem tX9_trayed (v : mE) (d : Nat) (l0 : Nat) (l1 : Int32) : Mt v yX9_trayed cX9_trayed 2 (some .int) emI (d + 0) [vR l0, vI l1] (fX9_trayed l0 l1) := mt_of rfl rfl (fun h => by cases h) rfl rfl (rX9_trayed v d l0 l1)
theorem dX9_placed_0 : decode cX9_placed 0 = .ok (.aload_n 0, 1) := by decide +kernel
theorem dX9_placed_1 : decode cX9_placed 1 = .ok (.iload_n 1, 1) := by decide +kernel
theorem dX9_placed_2 : decode cX9_placed 2 = .ok (.invokevirtual 81, 3) := by decide +kernel
theorem dX9_placed_5 : decode cX9_placed 5 = .ok (.istore_n 3, 1) := by decide +kernel
theorem dX9_placed_6 : decode cX9_placed 6 = .ok (.iload_n 3, 1) := by decide +kernel
theorem dX9_placed_7 : decode cX9_placed 7 = .ok (.ifCond .le 7, 3) := by decide +kernel
theorem dX9_placed_10 : decode cX9_placed 10 = .ok (.iload_n 3, 1) := by decide +kernel
theorem dX9_placed_11 : decode cX9_placed 11 = .ok (.goto 22, 3) := by decide +kernel
theorem dX9_placed_14 : decode cX9_placed 14 = .ok (.iload_n 2, 1) := by decide +kernel
theorem dX9_placed_15 : decode cX9_placed 15 = .ok (.ifCond .lt 13, 3) := by decide +kernel
theorem dX9_placed_18 : decode cX9_placed 18 = .ok (.iload_n 2, 1) := by decide +kernel
theorem dX9_placed_19 : decode cX9_placed 19 = .ok (.aload_n 0, 1) := by decide +kernel
theorem dX9_placed_20 : decode cX9_placed 20 = .ok (.getfield 17, 3) := by decide +kernel
theorem dX9_placed_23 : decode cX9_placed 23 = .ok (.iload_n 1, 1) := by decide +kernel
theorem dX9_placed_24 : decode cX9_placed 24 = .ok (.iaload, 1) := by decide +kernel
theorem dX9_placed_25 : decode cX9_placed 25 = .ok (.if_icmp .lt 7, 3) := by decide +kernel
theorem dX9_placed_28 : decode cX9_placed 28 = .ok (.iconst 4, 1) := by decide +kernel
theorem dX9_placed_29 : decode cX9_placed 29 = .ok (.goto 4, 3) := by decide +kernel
theorem dX9_placed_32 : decode cX9_placed 32 = .ok (.iconst 0, 1) := by decide +kernel
theorem dX9_placed_33 : decode cX9_placed 33 = .ok (.ireturn, 1) := by decide +kernel
def fX9_placed (l0 : Nat) (l1 : Int32) (l2 : Int32) : mM Int32 := bCallV 9 l0 (fX9_trayed l0 l1) (fun x1 => bIf (x1 ≤ 0) (bIf (l2 < 0) (bRet (4 : Int32)) (bGR 9 l0 5 (fun x2 => bAI 11 x2 l1 (fun x3 => bIf (l2 < x3) (bRet (0 : Int32)) (bRet (4 : Int32)))))) (bRet x1))
set_option maxRecDepth 20000 in
theorem rX9_placed (v : mE) (d : Nat) (l0 : Nat) (l1 : Int32) (l2 : Int32) : Rz v RX9 cX9_placed 4 (some .int) false emI (d + 1) 0 [(0, vR l0), (1, vI l1), (2, vI l2)] [] (fX9_placed l0 l1 l2) := by
  unfold fX9_placed
  refine rz_aload_n 1 0 dX9_placed_0 rfl rfl ?_
  refine rz_iload_n 2 1 dX9_placed_1 rfl rfl ?_
  refine rz_callV 5 dX9_placed_2 rfl (tX9_trayed v (d + 0) l0 l1) rfl rfl rfl rfl ml_X9_81 im_X9_trayed se_X9_X9_trayed in_X9 co_X9_trayed rfl rfl (fun x1 => ?_)
  refine rz_istore_n (lv' := [(3, vI x1), (0, vR l0), (1, vI l1), (2, vI l2)]) 6 dX9_placed_5 rfl rfl rfl ?_
  refine rz_iload_n 7 0 dX9_placed_6 rfl rfl ?_
  refine rz_if_le 14 10 dX9_placed_7 rfl rfl ?_ ?_
  · refine rz_iload_n 15 3 dX9_placed_14 rfl rfl ?_
    refine rz_if_lt 28 18 dX9_placed_15 rfl rfl ?_ ?_
    · refine rz_iconst 29 dX9_placed_28 rfl ci_4 ?_
      refine rz_goto 33 dX9_placed_29 rfl ?_
      exact rz_ireturn rfl rfl dX9_placed_33
    · refine rz_iload_n 19 3 dX9_placed_18 rfl rfl ?_
      refine rz_aload_n 20 1 dX9_placed_19 rfl rfl ?_
      refine rz_gR 23 dX9_placed_20 rfl rfl fl_X9_17 (fun x2 => ?_)
      refine rz_iload_n 24 2 dX9_placed_23 rfl rfl ?_
      refine rz_iald 25 dX9_placed_24 rfl (fun x3 => ?_)
      refine rz_icmp_lt 32 28 dX9_placed_25 rfl rfl ?_ ?_
      · refine rz_iconst 33 dX9_placed_32 rfl ci_0 ?_
        exact rz_ireturn rfl rfl dX9_placed_33
      · refine rz_iconst 29 dX9_placed_28 rfl ci_4 ?_
        refine rz_goto 33 dX9_placed_29 rfl ?_
        exact rz_ireturn rfl rfl dX9_placed_33
  · refine rz_iload_n 11 0 dX9_placed_10 rfl rfl ?_
    refine rz_goto 33 dX9_placed_11 rfl ?_
    exact rz_ireturn rfl rfl dX9_placed_33
theorem tX9_placed (v : mE) (d : Nat) (l0 : Nat) (l1 : Int32) (l2 : Int32) : Mt v yX9_placed cX9_placed 4 (some .int) emI (d + 1) [vR l0, vI l1, vI l2] (fX9_placed l0 l1 l2) := mt_of rfl rfl (fun h => by cases h) rfl rfl (rX9_placed v d l0 l1 l2)
theorem dX9_write_0 : decode cX9_write 0 = .ok (.aload_n 0, 1) := by decide +kernel
theorem dX9_write_1 : decode cX9_write 1 = .ok (.iconst 0, 1) := by decide +kernel
theorem dX9_write_2 : decode cX9_write 2 = .ok (.putfield 62, 3) := by decide +kernel
theorem dX9_write_5 : decode cX9_write 5 = .ok (.aload_n 0, 1) := by decide +kernel
theorem dX9_write_6 : decode cX9_write 6 = .ok (.aload_n 0, 1) := by decide +kernel
theorem dX9_write_7 : decode cX9_write 7 = .ok (.iload_n 1, 1) := by decide +kernel
theorem dX9_write_8 : decode cX9_write 8 = .ok (.iload_n 2, 1) := by decide +kernel
theorem dX9_write_9 : decode cX9_write 9 = .ok (.invokevirtual 85, 3) := by decide +kernel
theorem dX9_write_12 : decode cX9_write 12 = .ok (.putfield 65, 3) := by decide +kernel
theorem dX9_write_15 : decode cX9_write 15 = .ok (.aload_n 0, 1) := by decide +kernel
theorem dX9_write_16 : decode cX9_write 16 = .ok (.getfield 65, 3) := by decide +kernel
theorem dX9_write_19 : decode cX9_write 19 = .ok (.ifCond .le 5, 3) := by decide +kernel
theorem dX9_write_22 : decode cX9_write 22 = .ok (.iconst 0, 1) := by decide +kernel
theorem dX9_write_23 : decode cX9_write 23 = .ok (.ireturn, 1) := by decide +kernel
theorem dX9_write_24 : decode cX9_write 24 = .ok (.aload_n 0, 1) := by decide +kernel
theorem dX9_write_25 : decode cX9_write 25 = .ok (.getfield 20, 3) := by decide +kernel
theorem dX9_write_28 : decode cX9_write 28 = .ok (.bipush 60, 2) := by decide +kernel
theorem dX9_write_30 : decode cX9_write 30 = .ok (.iload_n 1, 1) := by decide +kernel
theorem dX9_write_31 : decode cX9_write 31 = .ok (.imul, 1) := by decide +kernel
theorem dX9_write_32 : decode cX9_write 32 = .ok (.iload_n 2, 1) := by decide +kernel
theorem dX9_write_33 : decode cX9_write 33 = .ok (.iadd, 1) := by decide +kernel
theorem dX9_write_34 : decode cX9_write 34 = .ok (.aload_n 0, 1) := by decide +kernel
theorem dX9_write_35 : decode cX9_write 35 = .ok (.getfield 13, 3) := by decide +kernel
theorem dX9_write_38 : decode cX9_write 38 = .ok (.iload_n 1, 1) := by decide +kernel
theorem dX9_write_39 : decode cX9_write 39 = .ok (.iaload, 1) := by decide +kernel
theorem dX9_write_40 : decode cX9_write 40 = .ok (.lload_n 3, 1) := by decide +kernel
theorem dX9_write_41 : decode cX9_write 41 = .ok (.invokestatic 89, 3) := by decide +kernel
theorem dX9_write_44 : decode cX9_write 44 = .ok (.lastore, 1) := by decide +kernel
theorem dX9_write_45 : decode cX9_write 45 = .ok (.iconst 1, 1) := by decide +kernel
theorem dX9_write_46 : decode cX9_write 46 = .ok (.ireturn, 1) := by decide +kernel
def fX9_write (l0 : Nat) (l1 : Int32) (l2 : Int32) (l3 : Int64) : mM Int32 := bPI 9 l0 1 (0 : Int32) (bCallV 9 l0 (fX9_placed l0 l1 l2) (fun x1 => bPI 9 l0 0 x1 (bGI 9 l0 0 (fun x2 => bIf (x2 ≤ 0) (bGR 9 l0 6 (fun x3 => bGR 9 l0 4 (fun x4 => bAI 11 x4 l1 (fun x5 => bCall (fX9_cut x5 l3) (fun x6 => bSL x3 (((60 : Int32) * l1) + l2) x6 (bRetZ (1 : Int32))))))) (bRetZ (0 : Int32))))))
set_option maxRecDepth 20000 in
theorem rX9_write (v : mE) (d : Nat) (l0 : Nat) (l1 : Int32) (l2 : Int32) (l3 : Int64) : Rz v RX9 cX9_write 5 (some .boolean) false emI (d + 2) 0 [(0, vR l0), (1, vI l1), (2, vI l2), (3, vL l3)] [] (fX9_write l0 l1 l2 l3) := by
  unfold fX9_write
  refine rz_aload_n 1 0 dX9_write_0 rfl rfl ?_
  refine rz_iconst 2 dX9_write_1 rfl ci_0 ?_
  refine rz_pI 5 dX9_write_2 rfl rfl rfl rfl fl_X9_62 ?_
  refine rz_aload_n 6 0 dX9_write_5 rfl rfl ?_
  refine rz_aload_n 7 0 dX9_write_6 rfl rfl ?_
  refine rz_iload_n 8 1 dX9_write_7 rfl rfl ?_
  refine rz_iload_n 9 2 dX9_write_8 rfl rfl ?_
  refine rz_callV 12 dX9_write_9 rfl (tX9_placed v (d + 0) l0 l1 l2) rfl rfl rfl rfl ml_X9_85 im_X9_placed se_X9_X9_placed in_X9 co_X9_placed rfl rfl (fun x1 => ?_)
  refine rz_pI 15 dX9_write_12 rfl rfl rfl rfl fl_X9_65 ?_
  refine rz_aload_n 16 0 dX9_write_15 rfl rfl ?_
  refine rz_gI 19 dX9_write_16 rfl rfl fl_X9_65 (fun x2 => ?_)
  refine rz_if_le 24 22 dX9_write_19 rfl rfl ?_ ?_
  · refine rz_aload_n 25 0 dX9_write_24 rfl rfl ?_
    refine rz_gR 28 dX9_write_25 rfl rfl fl_X9_20 (fun x3 => ?_)
    refine rz_bipush 30 dX9_write_28 rfl cb_60 ?_
    refine rz_iload_n 31 1 dX9_write_30 rfl rfl ?_
    refine rz_imul 32 dX9_write_31 rfl ?_
    refine rz_iload_n 33 2 dX9_write_32 rfl rfl ?_
    refine rz_iadd 34 dX9_write_33 rfl ?_
    refine rz_aload_n 35 0 dX9_write_34 rfl rfl ?_
    refine rz_gR 38 dX9_write_35 rfl rfl fl_X9_13 (fun x4 => ?_)
    refine rz_iload_n 39 1 dX9_write_38 rfl rfl ?_
    refine rz_iald 40 dX9_write_39 rfl (fun x5 => ?_)
    refine rz_lload_n 41 3 dX9_write_40 rfl rfl ?_
    refine rz_callS 44 dX9_write_41 rfl (tX9_cut v (d + 1) x5 l3) rfl rfl ml_X9_89 sm_X9_cut in_X9 co_X9_cut rfl rfl (fun x6 => ?_)
    refine rz_last 45 dX9_write_44 rfl ?_
    refine rz_iconst 46 dX9_write_45 rfl ci_1 ?_
    exact rz_zreturn rfl rfl dX9_write_46
  · refine rz_iconst 23 dX9_write_22 rfl ci_0 ?_
    exact rz_zreturn rfl rfl dX9_write_23
theorem tX9_write (v : mE) (d : Nat) (l0 : Nat) (l1 : Int32) (l2 : Int32) (l3 : Int64) : Mt v yX9_write cX9_write 5 (some .boolean) emI (d + 2) [vR l0, vI l1, vI l2, vL l3] (fX9_write l0 l1 l2 l3) := mt_of rfl rfl (fun h => by cases h) rfl rfl (rX9_write v d l0 l1 l2 l3)
theorem dX9_read_0 : decode cX9_read 0 = .ok (.aload_n 0, 1) := by decide +kernel
theorem dX9_read_1 : decode cX9_read 1 = .ok (.iconst 0, 1) := by decide +kernel
theorem dX9_read_2 : decode cX9_read 2 = .ok (.putfield 62, 3) := by decide +kernel
theorem dX9_read_5 : decode cX9_read 5 = .ok (.aload_n 0, 1) := by decide +kernel
theorem dX9_read_6 : decode cX9_read 6 = .ok (.aload_n 0, 1) := by decide +kernel
theorem dX9_read_7 : decode cX9_read 7 = .ok (.iload_n 1, 1) := by decide +kernel
theorem dX9_read_8 : decode cX9_read 8 = .ok (.iload_n 2, 1) := by decide +kernel
theorem dX9_read_9 : decode cX9_read 9 = .ok (.invokevirtual 85, 3) := by decide +kernel
theorem dX9_read_12 : decode cX9_read 12 = .ok (.putfield 65, 3) := by decide +kernel
theorem dX9_read_15 : decode cX9_read 15 = .ok (.aload_n 0, 1) := by decide +kernel
theorem dX9_read_16 : decode cX9_read 16 = .ok (.getfield 65, 3) := by decide +kernel
theorem dX9_read_19 : decode cX9_read 19 = .ok (.ifCond .le 9, 3) := by decide +kernel
theorem dX9_read_22 : decode cX9_read 22 = .ok (.ldc2_w 93, 3) := by decide +kernel
theorem dX9_read_25 : decode cX9_read 25 = .ok (.goto 14, 3) := by decide +kernel
theorem dX9_read_28 : decode cX9_read 28 = .ok (.aload_n 0, 1) := by decide +kernel
theorem dX9_read_29 : decode cX9_read 29 = .ok (.getfield 20, 3) := by decide +kernel
theorem dX9_read_32 : decode cX9_read 32 = .ok (.bipush 60, 2) := by decide +kernel
theorem dX9_read_34 : decode cX9_read 34 = .ok (.iload_n 1, 1) := by decide +kernel
theorem dX9_read_35 : decode cX9_read 35 = .ok (.imul, 1) := by decide +kernel
theorem dX9_read_36 : decode cX9_read 36 = .ok (.iload_n 2, 1) := by decide +kernel
theorem dX9_read_37 : decode cX9_read 37 = .ok (.iadd, 1) := by decide +kernel
theorem dX9_read_38 : decode cX9_read 38 = .ok (.laload, 1) := by decide +kernel
theorem dX9_read_39 : decode cX9_read 39 = .ok (.lreturn, 1) := by decide +kernel
def fX9_read (l0 : Nat) (l1 : Int32) (l2 : Int32) : mM Int64 := bPI 9 l0 1 (0 : Int32) (bCallV 9 l0 (fX9_placed l0 l1 l2) (fun x1 => bPI 9 l0 0 x1 (bGI 9 l0 0 (fun x2 => bIf (x2 ≤ 0) (bGR 9 l0 6 (fun x3 => bAL x3 (((60 : Int32) * l1) + l2) (fun x4 => bRet x4))) (bRet (-1 : Int64))))))
set_option maxRecDepth 20000 in
theorem rX9_read (v : mE) (d : Nat) (l0 : Nat) (l1 : Int32) (l2 : Int32) : Rz v RX9 cX9_read 3 (some .long) false emL (d + 2) 0 [(0, vR l0), (1, vI l1), (2, vI l2)] [] (fX9_read l0 l1 l2) := by
  unfold fX9_read
  refine rz_aload_n 1 0 dX9_read_0 rfl rfl ?_
  refine rz_iconst 2 dX9_read_1 rfl ci_0 ?_
  refine rz_pI 5 dX9_read_2 rfl rfl rfl rfl fl_X9_62 ?_
  refine rz_aload_n 6 0 dX9_read_5 rfl rfl ?_
  refine rz_aload_n 7 0 dX9_read_6 rfl rfl ?_
  refine rz_iload_n 8 1 dX9_read_7 rfl rfl ?_
  refine rz_iload_n 9 2 dX9_read_8 rfl rfl ?_
  refine rz_callV 12 dX9_read_9 rfl (tX9_placed v (d + 0) l0 l1 l2) rfl rfl rfl rfl ml_X9_85 im_X9_placed se_X9_X9_placed in_X9 co_X9_placed rfl rfl (fun x1 => ?_)
  refine rz_pI 15 dX9_read_12 rfl rfl rfl rfl fl_X9_65 ?_
  refine rz_aload_n 16 0 dX9_read_15 rfl rfl ?_
  refine rz_gI 19 dX9_read_16 rfl rfl fl_X9_65 (fun x2 => ?_)
  refine rz_if_le 28 22 dX9_read_19 rfl rfl ?_ ?_
  · refine rz_aload_n 29 0 dX9_read_28 rfl rfl ?_
    refine rz_gR 32 dX9_read_29 rfl rfl fl_X9_20 (fun x3 => ?_)
    refine rz_bipush 34 dX9_read_32 rfl cb_60 ?_
    refine rz_iload_n 35 1 dX9_read_34 rfl rfl ?_
    refine rz_imul 36 dX9_read_35 rfl ?_
    refine rz_iload_n 37 2 dX9_read_36 rfl rfl ?_
    refine rz_iadd 38 dX9_read_37 rfl ?_
    refine rz_lald 39 dX9_read_38 rfl (fun x4 => ?_)
    exact rz_lreturn rfl rfl dX9_read_39
  · refine rz_ldc2 25 dX9_read_22 rfl cu_X9_93 ?_
    refine rz_goto 39 dX9_read_25 rfl ?_
    exact rz_lreturn rfl rfl dX9_read_39
theorem tX9_read (v : mE) (d : Nat) (l0 : Nat) (l1 : Int32) (l2 : Int32) : Mt v yX9_read cX9_read 3 (some .long) emL (d + 2) [vR l0, vI l1, vI l2] (fX9_read l0 l1 l2) := mt_of rfl rfl (fun h => by cases h) rfl rfl (rX9_read v d l0 l1 l2)
theorem dX9_pour_0 : decode cX9_pour 0 = .ok (.aload_n 0, 1) := by decide +kernel
theorem dX9_pour_1 : decode cX9_pour 1 = .ok (.iconst 0, 1) := by decide +kernel
theorem dX9_pour_2 : decode cX9_pour 2 = .ok (.putfield 62, 3) := by decide +kernel
theorem dX9_pour_5 : decode cX9_pour 5 = .ok (.aload_n 0, 1) := by decide +kernel
theorem dX9_pour_6 : decode cX9_pour 6 = .ok (.iconst 0, 1) := by decide +kernel
theorem dX9_pour_7 : decode cX9_pour 7 = .ok (.putfield 65, 3) := by decide +kernel
theorem dX9_pour_10 : decode cX9_pour 10 = .ok (.iload_n 1, 1) := by decide +kernel
theorem dX9_pour_11 : decode cX9_pour 11 = .ok (.ifCond .lt 17, 3) := by decide +kernel
theorem dX9_pour_14 : decode cX9_pour 14 = .ok (.iload_n 1, 1) := by decide +kernel
theorem dX9_pour_15 : decode cX9_pour 15 = .ok (.iconst 4, 1) := by decide +kernel
theorem dX9_pour_16 : decode cX9_pour 16 = .ok (.if_icmp .ge 12, 3) := by decide +kernel
theorem dX9_pour_19 : decode cX9_pour 19 = .ok (.iload_n 3, 1) := by decide +kernel
theorem dX9_pour_20 : decode cX9_pour 20 = .ok (.ifCond .lt 8, 3) := by decide +kernel
theorem dX9_pour_23 : decode cX9_pour 23 = .ok (.iload_n 3, 1) := by decide +kernel
theorem dX9_pour_24 : decode cX9_pour 24 = .ok (.iconst 4, 1) := by decide +kernel
theorem dX9_pour_25 : decode cX9_pour 25 = .ok (.if_icmp .lt 9, 3) := by decide +kernel
theorem dX9_pour_28 : decode cX9_pour 28 = .ok (.aload_n 0, 1) := by decide +kernel
theorem dX9_pour_29 : decode cX9_pour 29 = .ok (.iconst 1, 1) := by decide +kernel
theorem dX9_pour_30 : decode cX9_pour 30 = .ok (.invokevirtual 77, 3) := by decide +kernel
theorem dX9_pour_33 : decode cX9_pour 33 = .ok (.ireturn, 1) := by decide +kernel
theorem dX9_pour_34 : decode cX9_pour 34 = .ok (.aload_n 0, 1) := by decide +kernel
theorem dX9_pour_35 : decode cX9_pour 35 = .ok (.getfield 17, 3) := by decide +kernel
theorem dX9_pour_38 : decode cX9_pour 38 = .ok (.iload_n 1, 1) := by decide +kernel
theorem dX9_pour_39 : decode cX9_pour 39 = .ok (.iaload, 1) := by decide +kernel
theorem dX9_pour_40 : decode cX9_pour 40 = .ok (.ifCond .lt 12, 3) := by decide +kernel
theorem dX9_pour_43 : decode cX9_pour 43 = .ok (.aload_n 0, 1) := by decide +kernel
theorem dX9_pour_44 : decode cX9_pour 44 = .ok (.getfield 17, 3) := by decide +kernel
theorem dX9_pour_47 : decode cX9_pour 47 = .ok (.iload_n 3, 1) := by decide +kernel
theorem dX9_pour_48 : decode cX9_pour 48 = .ok (.iaload, 1) := by decide +kernel
theorem dX9_pour_49 : decode cX9_pour 49 = .ok (.ifCond .ge 9, 3) := by decide +kernel
theorem dX9_pour_52 : decode cX9_pour 52 = .ok (.aload_n 0, 1) := by decide +kernel
theorem dX9_pour_53 : decode cX9_pour 53 = .ok (.iconst 3, 1) := by decide +kernel
theorem dX9_pour_54 : decode cX9_pour 54 = .ok (.invokevirtual 77, 3) := by decide +kernel
theorem dX9_pour_57 : decode cX9_pour 57 = .ok (.ireturn, 1) := by decide +kernel
theorem dX9_pour_58 : decode cX9_pour 58 = .ok (.aload_n 0, 1) := by decide +kernel
theorem dX9_pour_59 : decode cX9_pour 59 = .ok (.getfield 13, 3) := by decide +kernel
theorem dX9_pour_62 : decode cX9_pour 62 = .ok (.iload_n 1, 1) := by decide +kernel
theorem dX9_pour_63 : decode cX9_pour 63 = .ok (.iaload, 1) := by decide +kernel
theorem dX9_pour_64 : decode cX9_pour 64 = .ok (.aload_n 0, 1) := by decide +kernel
theorem dX9_pour_65 : decode cX9_pour 65 = .ok (.getfield 13, 3) := by decide +kernel
theorem dX9_pour_68 : decode cX9_pour 68 = .ok (.iload_n 3, 1) := by decide +kernel
theorem dX9_pour_69 : decode cX9_pour 69 = .ok (.iaload, 1) := by decide +kernel
theorem dX9_pour_70 : decode cX9_pour 70 = .ok (.if_icmp .eq 10, 3) := by decide +kernel
theorem dX9_pour_73 : decode cX9_pour 73 = .ok (.aload_n 0, 1) := by decide +kernel
theorem dX9_pour_74 : decode cX9_pour 74 = .ok (.bipush 11, 2) := by decide +kernel
theorem dX9_pour_76 : decode cX9_pour 76 = .ok (.invokevirtual 77, 3) := by decide +kernel
theorem dX9_pour_79 : decode cX9_pour 79 = .ok (.ireturn, 1) := by decide +kernel
theorem dX9_pour_80 : decode cX9_pour 80 = .ok (.iload 5, 2) := by decide +kernel
theorem dX9_pour_82 : decode cX9_pour 82 = .ok (.ifCond .ge 10, 3) := by decide +kernel
theorem dX9_pour_85 : decode cX9_pour 85 = .ok (.aload_n 0, 1) := by decide +kernel
theorem dX9_pour_86 : decode cX9_pour 86 = .ok (.bipush 6, 2) := by decide +kernel
theorem dX9_pour_88 : decode cX9_pour 88 = .ok (.invokevirtual 77, 3) := by decide +kernel
theorem dX9_pour_91 : decode cX9_pour 91 = .ok (.ireturn, 1) := by decide +kernel
theorem dX9_pour_92 : decode cX9_pour 92 = .ok (.iload_n 2, 1) := by decide +kernel
theorem dX9_pour_93 : decode cX9_pour 93 = .ok (.ifCond .lt 43, 3) := by decide +kernel
theorem dX9_pour_96 : decode cX9_pour 96 = .ok (.iload 4, 2) := by decide +kernel
theorem dX9_pour_98 : decode cX9_pour 98 = .ok (.ifCond .lt 38, 3) := by decide +kernel
theorem dX9_pour_101 : decode cX9_pour 101 = .ok (.iload_n 2, 1) := by decide +kernel
theorem dX9_pour_102 : decode cX9_pour 102 = .ok (.i2l, 1) := by decide +kernel
theorem dX9_pour_103 : decode cX9_pour 103 = .ok (.iload 5, 2) := by decide +kernel
theorem dX9_pour_105 : decode cX9_pour 105 = .ok (.i2l, 1) := by decide +kernel
theorem dX9_pour_106 : decode cX9_pour 106 = .ok (.ladd, 1) := by decide +kernel
theorem dX9_pour_107 : decode cX9_pour 107 = .ok (.aload_n 0, 1) := by decide +kernel
theorem dX9_pour_108 : decode cX9_pour 108 = .ok (.getfield 17, 3) := by decide +kernel
theorem dX9_pour_111 : decode cX9_pour 111 = .ok (.iload_n 1, 1) := by decide +kernel
theorem dX9_pour_112 : decode cX9_pour 112 = .ok (.iaload, 1) := by decide +kernel
theorem dX9_pour_113 : decode cX9_pour 113 = .ok (.i2l, 1) := by decide +kernel
theorem dX9_pour_114 : decode cX9_pour 114 = .ok (.lcmp, 1) := by decide +kernel
theorem dX9_pour_115 : decode cX9_pour 115 = .ok (.ifCond .gt 21, 3) := by decide +kernel
theorem dX9_pour_118 : decode cX9_pour 118 = .ok (.iload 4, 2) := by decide +kernel
theorem dX9_pour_120 : decode cX9_pour 120 = .ok (.i2l, 1) := by decide +kernel
theorem dX9_pour_121 : decode cX9_pour 121 = .ok (.iload 5, 2) := by decide +kernel
theorem dX9_pour_123 : decode cX9_pour 123 = .ok (.i2l, 1) := by decide +kernel
theorem dX9_pour_124 : decode cX9_pour 124 = .ok (.ladd, 1) := by decide +kernel
theorem dX9_pour_125 : decode cX9_pour 125 = .ok (.aload_n 0, 1) := by decide +kernel
theorem dX9_pour_126 : decode cX9_pour 126 = .ok (.getfield 17, 3) := by decide +kernel
theorem dX9_pour_129 : decode cX9_pour 129 = .ok (.iload_n 3, 1) := by decide +kernel
theorem dX9_pour_130 : decode cX9_pour 130 = .ok (.iaload, 1) := by decide +kernel
theorem dX9_pour_131 : decode cX9_pour 131 = .ok (.i2l, 1) := by decide +kernel
theorem dX9_pour_132 : decode cX9_pour 132 = .ok (.lcmp, 1) := by decide +kernel
theorem dX9_pour_133 : decode cX9_pour 133 = .ok (.ifCond .le 9, 3) := by decide +kernel
theorem dX9_pour_136 : decode cX9_pour 136 = .ok (.aload_n 0, 1) := by decide +kernel
theorem dX9_pour_137 : decode cX9_pour 137 = .ok (.iconst 4, 1) := by decide +kernel
theorem dX9_pour_138 : decode cX9_pour 138 = .ok (.invokevirtual 77, 3) := by decide +kernel
theorem dX9_pour_141 : decode cX9_pour 141 = .ok (.ireturn, 1) := by decide +kernel
theorem dX9_pour_142 : decode cX9_pour 142 = .ok (.iload_n 2, 1) := by decide +kernel
theorem dX9_pour_143 : decode cX9_pour 143 = .ok (.iload 4, 2) := by decide +kernel
theorem dX9_pour_145 : decode cX9_pour 145 = .ok (.if_icmp .ge 7, 3) := by decide +kernel
theorem dX9_pour_148 : decode cX9_pour 148 = .ok (.iconst 1, 1) := by decide +kernel
theorem dX9_pour_149 : decode cX9_pour 149 = .ok (.goto 4, 3) := by decide +kernel
theorem dX9_pour_152 : decode cX9_pour 152 = .ok (.iconst 0, 1) := by decide +kernel
theorem dX9_pour_153 : decode cX9_pour 153 = .ok (.istore 6, 2) := by decide +kernel
theorem dX9_pour_155 : decode cX9_pour 155 = .ok (.iconst 0, 1) := by decide +kernel
theorem dX9_pour_156 : decode cX9_pour 156 = .ok (.istore 7, 2) := by decide +kernel
theorem dX9_pour_158 : decode cX9_pour 158 = .ok (.iload 7, 2) := by decide +kernel
theorem dX9_pour_160 : decode cX9_pour 160 = .ok (.iload 5, 2) := by decide +kernel
theorem dX9_pour_162 : decode cX9_pour 162 = .ok (.if_icmp .ge 57, 3) := by decide +kernel
theorem dX9_pour_165 : decode cX9_pour 165 = .ok (.iload 6, 2) := by decide +kernel
theorem dX9_pour_167 : decode cX9_pour 167 = .ok (.ifCond .eq 13, 3) := by decide +kernel
theorem dX9_pour_170 : decode cX9_pour 170 = .ok (.iload 5, 2) := by decide +kernel
theorem dX9_pour_172 : decode cX9_pour 172 = .ok (.iconst 1, 1) := by decide +kernel
theorem dX9_pour_173 : decode cX9_pour 173 = .ok (.isub, 1) := by decide +kernel
theorem dX9_pour_174 : decode cX9_pour 174 = .ok (.iload 7, 2) := by decide +kernel
theorem dX9_pour_176 : decode cX9_pour 176 = .ok (.isub, 1) := by decide +kernel
theorem dX9_pour_177 : decode cX9_pour 177 = .ok (.goto 5, 3) := by decide +kernel
theorem dX9_pour_180 : decode cX9_pour 180 = .ok (.iload 7, 2) := by decide +kernel
theorem dX9_pour_182 : decode cX9_pour 182 = .ok (.istore 8, 2) := by decide +kernel
theorem dX9_pour_184 : decode cX9_pour 184 = .ok (.aload_n 0, 1) := by decide +kernel
theorem dX9_pour_185 : decode cX9_pour 185 = .ok (.getfield 20, 3) := by decide +kernel
theorem dX9_pour_188 : decode cX9_pour 188 = .ok (.bipush 60, 2) := by decide +kernel
theorem dX9_pour_190 : decode cX9_pour 190 = .ok (.iload_n 3, 1) := by decide +kernel
theorem dX9_pour_191 : decode cX9_pour 191 = .ok (.imul, 1) := by decide +kernel
theorem dX9_pour_192 : decode cX9_pour 192 = .ok (.iload 4, 2) := by decide +kernel
theorem dX9_pour_194 : decode cX9_pour 194 = .ok (.iadd, 1) := by decide +kernel
theorem dX9_pour_195 : decode cX9_pour 195 = .ok (.iload 8, 2) := by decide +kernel
theorem dX9_pour_197 : decode cX9_pour 197 = .ok (.iadd, 1) := by decide +kernel
theorem dX9_pour_198 : decode cX9_pour 198 = .ok (.aload_n 0, 1) := by decide +kernel
theorem dX9_pour_199 : decode cX9_pour 199 = .ok (.getfield 20, 3) := by decide +kernel
theorem dX9_pour_202 : decode cX9_pour 202 = .ok (.bipush 60, 2) := by decide +kernel
theorem dX9_pour_204 : decode cX9_pour 204 = .ok (.iload_n 1, 1) := by decide +kernel
theorem dX9_pour_205 : decode cX9_pour 205 = .ok (.imul, 1) := by decide +kernel
theorem dX9_pour_206 : decode cX9_pour 206 = .ok (.iload_n 2, 1) := by decide +kernel
theorem dX9_pour_207 : decode cX9_pour 207 = .ok (.iadd, 1) := by decide +kernel
theorem dX9_pour_208 : decode cX9_pour 208 = .ok (.iload 8, 2) := by decide +kernel
theorem dX9_pour_210 : decode cX9_pour 210 = .ok (.iadd, 1) := by decide +kernel
theorem dX9_pour_211 : decode cX9_pour 211 = .ok (.laload, 1) := by decide +kernel
theorem dX9_pour_212 : decode cX9_pour 212 = .ok (.lastore, 1) := by decide +kernel
theorem dX9_pour_213 : decode cX9_pour 213 = .ok (.iinc 7 1, 3) := by decide +kernel
theorem dX9_pour_216 : decode cX9_pour 216 = .ok (.goto (-58), 3) := by decide +kernel
theorem dX9_pour_219 : decode cX9_pour 219 = .ok (.iconst 1, 1) := by decide +kernel
theorem dX9_pour_220 : decode cX9_pour 220 = .ok (.ireturn, 1) := by decide +kernel
def fX9_pour_182 (r158 : Nat → Int32 → Int32 → Int32 → Int32 → Int32 → Int32 → Int32 → mM Int32) (l0 : Nat) (l1 : Int32) (l2 : Int32) (l3 : Int32) (l4 : Int32) (l5 : Int32) (l6 : Int32) (l7 : Int32) (s0 : Int32) : mM Int32 := bGR 9 l0 6 (fun x1 => bGR 9 l0 6 (fun x2 => bAL x2 ((((60 : Int32) * l1) + l2) + s0) (fun x3 => bSL x1 ((((60 : Int32) * l3) + l4) + s0) x3 (r158 l0 l1 l2 l3 l4 l5 l6 (l7 + 1)))))
set_option maxRecDepth 20000 in
theorem rX9_pour_182 (v : mE) (d : Nat) (r158 : Nat → Int32 → Int32 → Int32 → Int32 → Int32 → Int32 → Int32 → mM Int32) (h158 : ∀ (y0 : Nat) (y1 : Int32) (y2 : Int32) (y3 : Int32) (y4 : Int32) (y5 : Int32) (y6 : Int32) (y7 : Int32), Rz v RX9 cX9_pour 9 (some .boolean) false emI (d + 1) 158 [(0, vR y0), (1, vI y1), (2, vI y2), (3, vI y3), (4, vI y4), (5, vI y5), (6, vI y6), (7, vI y7)] [] (r158 y0 y1 y2 y3 y4 y5 y6 y7)) (l0 : Nat) (l1 : Int32) (l2 : Int32) (l3 : Int32) (l4 : Int32) (l5 : Int32) (l6 : Int32) (l7 : Int32) (s0 : Int32) : Rz v RX9 cX9_pour 9 (some .boolean) false emI (d + 1) 182 [(0, vR l0), (1, vI l1), (2, vI l2), (3, vI l3), (4, vI l4), (5, vI l5), (6, vI l6), (7, vI l7)] [vI s0] (fX9_pour_182 r158 l0 l1 l2 l3 l4 l5 l6 l7 s0) := by
  unfold fX9_pour_182
  refine rz_istore (lv' := [(8, vI s0), (0, vR l0), (1, vI l1), (2, vI l2), (3, vI l3), (4, vI l4), (5, vI l5), (6, vI l6), (7, vI l7)]) 184 dX9_pour_182 rfl rfl rfl ?_
  refine rz_aload_n 185 1 dX9_pour_184 rfl rfl ?_
  refine rz_gR 188 dX9_pour_185 rfl rfl fl_X9_20 (fun x1 => ?_)
  refine rz_bipush 190 dX9_pour_188 rfl cb_60 ?_
  refine rz_iload_n 191 4 dX9_pour_190 rfl rfl ?_
  refine rz_imul 192 dX9_pour_191 rfl ?_
  refine rz_iload 194 5 dX9_pour_192 rfl rfl ?_
  refine rz_iadd 195 dX9_pour_194 rfl ?_
  refine rz_iload 197 0 dX9_pour_195 rfl rfl ?_
  refine rz_iadd 198 dX9_pour_197 rfl ?_
  refine rz_aload_n 199 1 dX9_pour_198 rfl rfl ?_
  refine rz_gR 202 dX9_pour_199 rfl rfl fl_X9_20 (fun x2 => ?_)
  refine rz_bipush 204 dX9_pour_202 rfl cb_60 ?_
  refine rz_iload_n 205 2 dX9_pour_204 rfl rfl ?_
  refine rz_imul 206 dX9_pour_205 rfl ?_
  refine rz_iload_n 207 3 dX9_pour_206 rfl rfl ?_
  refine rz_iadd 208 dX9_pour_207 rfl ?_
  refine rz_iload 210 0 dX9_pour_208 rfl rfl ?_
  refine rz_iadd 211 dX9_pour_210 rfl ?_
  refine rz_lald 212 dX9_pour_211 rfl (fun x3 => ?_)
  refine rz_last 213 dX9_pour_212 rfl ?_
  refine rz_iinc (lv' := [(7, vI (l7 + 1)), (8, vI s0), (0, vR l0), (1, vI l1), (2, vI l2), (3, vI l3), (4, vI l4), (5, vI l5), (6, vI l6)]) 216 8 dX9_pour_213 rfl rfl (cn_1 _) rfl rfl ?_
  refine rz_goto 158 dX9_pour_216 rfl ?_
  exact rz_sub [2, 3, 4, 5, 6, 7, 8, 0] rfl (h158 l0 l1 l2 l3 l4 l5 l6 (l7 + 1))
def fX9_pour_158 : Nat → Nat → Int32 → Int32 → Int32 → Int32 → Int32 → Int32 → Int32 → mM Int32
  | 0 => fun _ _ _ _ _ _ _ _ => fun _ => none
  | n + 1 => fun l0 l1 l2 l3 l4 l5 l6 l7 => let r158 := fX9_pour_158 n; bIf (l5 ≤ l7) (bRetZ (1 : Int32)) (bIf (l6 = 0) (fX9_pour_182 r158 l0 l1 l2 l3 l4 l5 l6 l7 l7) (fX9_pour_182 r158 l0 l1 l2 l3 l4 l5 l6 l7 ((l5 - (1 : Int32)) - l7)))
theorem qX9_pour_158  (n : Nat) (l0 : Nat) (l1 : Int32) (l2 : Int32) (l3 : Int32) (l4 : Int32) (l5 : Int32) (l6 : Int32) (l7 : Int32) : fX9_pour_158 (n + 1) l0 l1 l2 l3 l4 l5 l6 l7 = bIf (l5 ≤ l7) (bRetZ (1 : Int32)) (bIf (l6 = 0) (fX9_pour_182 (fX9_pour_158 n) l0 l1 l2 l3 l4 l5 l6 l7 l7) (fX9_pour_182 (fX9_pour_158 n) l0 l1 l2 l3 l4 l5 l6 l7 ((l5 - (1 : Int32)) - l7))) := rfl
set_option maxRecDepth 20000 in
theorem rX9_pour_158 (v : mE) (d : Nat) : ∀ (n : Nat) (l0 : Nat) (l1 : Int32) (l2 : Int32) (l3 : Int32) (l4 : Int32) (l5 : Int32) (l6 : Int32) (l7 : Int32), Rz v RX9 cX9_pour 9 (some .boolean) false emI (d + 1) 158 [(0, vR l0), (1, vI l1), (2, vI l2), (3, vI l3), (4, vI l4), (5, vI l5), (6, vI l6), (7, vI l7)] [] (fX9_pour_158 n l0 l1 l2 l3 l4 l5 l6 l7)
  | 0, _, _, _, _, _, _, _, _ => fun _ _ _ hm => by cases hm
  | n + 1, l0, l1, l2, l3, l4, l5, l6, l7 => by
    have h158 := rX9_pour_158 v d n
    unfold fX9_pour_158
    generalize fX9_pour_158 n = r158 at h158 ⊢
    refine rz_iload 160 7 dX9_pour_158 rfl rfl ?_
    refine rz_iload 162 5 dX9_pour_160 rfl rfl ?_
    refine rz_icmp_ge 219 165 dX9_pour_162 rfl rfl ?_ ?_
    · refine rz_iconst 220 dX9_pour_219 rfl ci_1 ?_
      exact rz_zreturn rfl rfl dX9_pour_220
    · refine rz_iload 167 6 dX9_pour_165 rfl rfl ?_
      refine rz_if_eq 180 170 dX9_pour_167 rfl rfl ?_ ?_
      · refine rz_iload 182 7 dX9_pour_180 rfl rfl ?_
        exact rz_sub [0, 1, 2, 3, 4, 5, 6, 7] rfl (rX9_pour_182 v d r158 h158 l0 l1 l2 l3 l4 l5 l6 l7 l7)
      · refine rz_iload 172 5 dX9_pour_170 rfl rfl ?_
        refine rz_iconst 173 dX9_pour_172 rfl ci_1 ?_
        refine rz_isub 174 dX9_pour_173 rfl ?_
        refine rz_iload 176 7 dX9_pour_174 rfl rfl ?_
        refine rz_isub 177 dX9_pour_176 rfl ?_
        refine rz_goto 182 dX9_pour_177 rfl ?_
        exact rz_sub [0, 1, 2, 3, 4, 5, 6, 7] rfl (rX9_pour_182 v d r158 h158 l0 l1 l2 l3 l4 l5 l6 l7 ((l5 - (1 : Int32)) - l7))
def fX9_pour_153 (l0 : Nat) (l1 : Int32) (l2 : Int32) (l3 : Int32) (l4 : Int32) (l5 : Int32) (s0 : Int32) : mM Int32 := fX9_pour_158 fu l0 l1 l2 l3 l4 l5 s0 (0 : Int32)
set_option maxRecDepth 20000 in
theorem rX9_pour_153 (v : mE) (d : Nat) (l0 : Nat) (l1 : Int32) (l2 : Int32) (l3 : Int32) (l4 : Int32) (l5 : Int32) (s0 : Int32) : Rz v RX9 cX9_pour 9 (some .boolean) false emI (d + 1) 153 [(0, vR l0), (1, vI l1), (2, vI l2), (3, vI l3), (4, vI l4), (5, vI l5)] [vI s0] (fX9_pour_153 l0 l1 l2 l3 l4 l5 s0) := by
  unfold fX9_pour_153
  refine rz_istore (lv' := [(6, vI s0), (0, vR l0), (1, vI l1), (2, vI l2), (3, vI l3), (4, vI l4), (5, vI l5)]) 155 dX9_pour_153 rfl rfl rfl ?_
  refine rz_iconst 156 dX9_pour_155 rfl ci_0 ?_
  refine rz_istore (lv' := [(7, vI (0 : Int32)), (6, vI s0), (0, vR l0), (1, vI l1), (2, vI l2), (3, vI l3), (4, vI l4), (5, vI l5)]) 158 dX9_pour_156 rfl rfl rfl ?_
  exact rz_sub [2, 3, 4, 5, 6, 7, 1, 0] rfl (rX9_pour_158 v d fu l0 l1 l2 l3 l4 l5 s0 (0 : Int32))
def fX9_pour_136 (l0 : Nat) : mM Int32 := bCallV 9 l0 (fX9_no l0 (4 : Int32)) (fun x1 => bRetZ x1)
set_option maxRecDepth 20000 in
theorem rX9_pour_136 (v : mE) (d : Nat) (l0 : Nat) : Rz v RX9 cX9_pour 9 (some .boolean) false emI (d + 1) 136 [(0, vR l0)] [] (fX9_pour_136 l0) := by
  unfold fX9_pour_136
  refine rz_aload_n 137 0 dX9_pour_136 rfl rfl ?_
  refine rz_iconst 138 dX9_pour_137 rfl ci_4 ?_
  refine rz_callV 141 dX9_pour_138 rfl (tX9_no v (d + 0) l0 (4 : Int32)) rfl rfl rfl rfl ml_X9_77 im_X9_no se_X9_X9_no in_X9 co_X9_no rfl rfl (fun x1 => ?_)
  exact rz_zreturn rfl rfl dX9_pour_141
def fX9_pour_52 (l0 : Nat) : mM Int32 := bCallV 9 l0 (fX9_no l0 (3 : Int32)) (fun x1 => bRetZ x1)
set_option maxRecDepth 20000 in
theorem rX9_pour_52 (v : mE) (d : Nat) (l0 : Nat) : Rz v RX9 cX9_pour 9 (some .boolean) false emI (d + 1) 52 [(0, vR l0)] [] (fX9_pour_52 l0) := by
  unfold fX9_pour_52
  refine rz_aload_n 53 0 dX9_pour_52 rfl rfl ?_
  refine rz_iconst 54 dX9_pour_53 rfl ci_3 ?_
  refine rz_callV 57 dX9_pour_54 rfl (tX9_no v (d + 0) l0 (3 : Int32)) rfl rfl rfl rfl ml_X9_77 im_X9_no se_X9_X9_no in_X9 co_X9_no rfl rfl (fun x1 => ?_)
  exact rz_zreturn rfl rfl dX9_pour_57
def fX9_pour_28 (l0 : Nat) : mM Int32 := bCallV 9 l0 (fX9_no l0 (1 : Int32)) (fun x1 => bRetZ x1)
set_option maxRecDepth 20000 in
theorem rX9_pour_28 (v : mE) (d : Nat) (l0 : Nat) : Rz v RX9 cX9_pour 9 (some .boolean) false emI (d + 1) 28 [(0, vR l0)] [] (fX9_pour_28 l0) := by
  unfold fX9_pour_28
  refine rz_aload_n 29 0 dX9_pour_28 rfl rfl ?_
  refine rz_iconst 30 dX9_pour_29 rfl ci_1 ?_
  refine rz_callV 33 dX9_pour_30 rfl (tX9_no v (d + 0) l0 (1 : Int32)) rfl rfl rfl rfl ml_X9_77 im_X9_no se_X9_X9_no in_X9 co_X9_no rfl rfl (fun x1 => ?_)
  exact rz_zreturn rfl rfl dX9_pour_33
def fX9_pour (l0 : Nat) (l1 : Int32) (l2 : Int32) (l3 : Int32) (l4 : Int32) (l5 : Int32) : mM Int32 := bPI 9 l0 1 (0 : Int32) (bPI 9 l0 0 (0 : Int32) (bIf (l1 < 0) (fX9_pour_28 l0) (bIf ((4 : Int32) ≤ l1) (fX9_pour_28 l0) (bIf (l3 < 0) (fX9_pour_28 l0) (bIf (l3 < (4 : Int32)) (bGR 9 l0 5 (fun x1 => bAI 11 x1 l1 (fun x2 => bIf (x2 < 0) (fX9_pour_52 l0) (bGR 9 l0 5 (fun x3 => bAI 11 x3 l3 (fun x4 => bIf (0 ≤ x4) (bGR 9 l0 4 (fun x5 => bAI 11 x5 l1 (fun x6 => bGR 9 l0 4 (fun x7 => bAI 11 x7 l3 (fun x8 => bIf (x6 = x8) (bIf (0 ≤ l5) (bIf (l2 < 0) (fX9_pour_136 l0) (bIf (l4 < 0) (fX9_pour_136 l0) (bGR 9 l0 5 (fun x9 => bAI 11 x9 l1 (fun x10 => bIf (0 < (lg_cmp ((Int32.toInt64 l2) + (Int32.toInt64 l5)) (Int32.toInt64 x10))) (fX9_pour_136 l0) (bGR 9 l0 5 (fun x11 => bAI 11 x11 l3 (fun x12 => bIf ((lg_cmp ((Int32.toInt64 l4) + (Int32.toInt64 l5)) (Int32.toInt64 x12)) ≤ 0) (bIf (l4 ≤ l2) (fX9_pour_153 l0 l1 l2 l3 l4 l5 (0 : Int32)) (fX9_pour_153 l0 l1 l2 l3 l4 l5 (1 : Int32))) (fX9_pour_136 l0))))))))) (bCallV 9 l0 (fX9_no l0 (6 : Int32)) (fun x13 => bRetZ x13))) (bCallV 9 l0 (fX9_no l0 (11 : Int32)) (fun x14 => bRetZ x14))))))) (fX9_pour_52 l0))))))) (fX9_pour_28 l0))))))
set_option maxRecDepth 20000 in
theorem rX9_pour (v : mE) (d : Nat) (l0 : Nat) (l1 : Int32) (l2 : Int32) (l3 : Int32) (l4 : Int32) (l5 : Int32) : Rz v RX9 cX9_pour 9 (some .boolean) false emI (d + 1) 0 [(0, vR l0), (1, vI l1), (2, vI l2), (3, vI l3), (4, vI l4), (5, vI l5)] [] (fX9_pour l0 l1 l2 l3 l4 l5) := by
  unfold fX9_pour
  refine rz_aload_n 1 0 dX9_pour_0 rfl rfl ?_
  refine rz_iconst 2 dX9_pour_1 rfl ci_0 ?_
  refine rz_pI 5 dX9_pour_2 rfl rfl rfl rfl fl_X9_62 ?_
  refine rz_aload_n 6 0 dX9_pour_5 rfl rfl ?_
  refine rz_iconst 7 dX9_pour_6 rfl ci_0 ?_
  refine rz_pI 10 dX9_pour_7 rfl rfl rfl rfl fl_X9_65 ?_
  refine rz_iload_n 11 1 dX9_pour_10 rfl rfl ?_
  refine rz_if_lt 28 14 dX9_pour_11 rfl rfl ?_ ?_
  · exact rz_sub [0] rfl (rX9_pour_28 v d l0)
  · refine rz_iload_n 15 1 dX9_pour_14 rfl rfl ?_
    refine rz_iconst 16 dX9_pour_15 rfl ci_4 ?_
    refine rz_icmp_ge 28 19 dX9_pour_16 rfl rfl ?_ ?_
    · exact rz_sub [0] rfl (rX9_pour_28 v d l0)
    · refine rz_iload_n 20 3 dX9_pour_19 rfl rfl ?_
      refine rz_if_lt 28 23 dX9_pour_20 rfl rfl ?_ ?_
      · exact rz_sub [0] rfl (rX9_pour_28 v d l0)
      · refine rz_iload_n 24 3 dX9_pour_23 rfl rfl ?_
        refine rz_iconst 25 dX9_pour_24 rfl ci_4 ?_
        refine rz_icmp_lt 34 28 dX9_pour_25 rfl rfl ?_ ?_
        · refine rz_aload_n 35 0 dX9_pour_34 rfl rfl ?_
          refine rz_gR 38 dX9_pour_35 rfl rfl fl_X9_17 (fun x1 => ?_)
          refine rz_iload_n 39 1 dX9_pour_38 rfl rfl ?_
          refine rz_iald 40 dX9_pour_39 rfl (fun x2 => ?_)
          refine rz_if_lt 52 43 dX9_pour_40 rfl rfl ?_ ?_
          · exact rz_sub [0] rfl (rX9_pour_52 v d l0)
          · refine rz_aload_n 44 0 dX9_pour_43 rfl rfl ?_
            refine rz_gR 47 dX9_pour_44 rfl rfl fl_X9_17 (fun x3 => ?_)
            refine rz_iload_n 48 3 dX9_pour_47 rfl rfl ?_
            refine rz_iald 49 dX9_pour_48 rfl (fun x4 => ?_)
            refine rz_if_ge 58 52 dX9_pour_49 rfl rfl ?_ ?_
            · refine rz_aload_n 59 0 dX9_pour_58 rfl rfl ?_
              refine rz_gR 62 dX9_pour_59 rfl rfl fl_X9_13 (fun x5 => ?_)
              refine rz_iload_n 63 1 dX9_pour_62 rfl rfl ?_
              refine rz_iald 64 dX9_pour_63 rfl (fun x6 => ?_)
              refine rz_aload_n 65 0 dX9_pour_64 rfl rfl ?_
              refine rz_gR 68 dX9_pour_65 rfl rfl fl_X9_13 (fun x7 => ?_)
              refine rz_iload_n 69 3 dX9_pour_68 rfl rfl ?_
              refine rz_iald 70 dX9_pour_69 rfl (fun x8 => ?_)
              refine rz_icmp_eq 80 73 dX9_pour_70 rfl rfl ?_ ?_
              · refine rz_iload 82 5 dX9_pour_80 rfl rfl ?_
                refine rz_if_ge 92 85 dX9_pour_82 rfl rfl ?_ ?_
                · refine rz_iload_n 93 2 dX9_pour_92 rfl rfl ?_
                  refine rz_if_lt 136 96 dX9_pour_93 rfl rfl ?_ ?_
                  · exact rz_sub [0] rfl (rX9_pour_136 v d l0)
                  · refine rz_iload 98 4 dX9_pour_96 rfl rfl ?_
                    refine rz_if_lt 136 101 dX9_pour_98 rfl rfl ?_ ?_
                    · exact rz_sub [0] rfl (rX9_pour_136 v d l0)
                    · refine rz_iload_n 102 2 dX9_pour_101 rfl rfl ?_
                      refine rz_i2l 103 dX9_pour_102 rfl ?_
                      refine rz_iload 105 5 dX9_pour_103 rfl rfl ?_
                      refine rz_i2l 106 dX9_pour_105 rfl ?_
                      refine rz_ladd 107 dX9_pour_106 rfl ?_
                      refine rz_aload_n 108 0 dX9_pour_107 rfl rfl ?_
                      refine rz_gR 111 dX9_pour_108 rfl rfl fl_X9_17 (fun x9 => ?_)
                      refine rz_iload_n 112 1 dX9_pour_111 rfl rfl ?_
                      refine rz_iald 113 dX9_pour_112 rfl (fun x10 => ?_)
                      refine rz_i2l 114 dX9_pour_113 rfl ?_
                      refine rz_lcmp 115 dX9_pour_114 rfl ?_
                      refine rz_if_gt 136 118 dX9_pour_115 rfl rfl ?_ ?_
                      · exact rz_sub [0] rfl (rX9_pour_136 v d l0)
                      · refine rz_iload 120 4 dX9_pour_118 rfl rfl ?_
                        refine rz_i2l 121 dX9_pour_120 rfl ?_
                        refine rz_iload 123 5 dX9_pour_121 rfl rfl ?_
                        refine rz_i2l 124 dX9_pour_123 rfl ?_
                        refine rz_ladd 125 dX9_pour_124 rfl ?_
                        refine rz_aload_n 126 0 dX9_pour_125 rfl rfl ?_
                        refine rz_gR 129 dX9_pour_126 rfl rfl fl_X9_17 (fun x11 => ?_)
                        refine rz_iload_n 130 3 dX9_pour_129 rfl rfl ?_
                        refine rz_iald 131 dX9_pour_130 rfl (fun x12 => ?_)
                        refine rz_i2l 132 dX9_pour_131 rfl ?_
                        refine rz_lcmp 133 dX9_pour_132 rfl ?_
                        refine rz_if_le 142 136 dX9_pour_133 rfl rfl ?_ ?_
                        · refine rz_iload_n 143 2 dX9_pour_142 rfl rfl ?_
                          refine rz_iload 145 4 dX9_pour_143 rfl rfl ?_
                          refine rz_icmp_ge 152 148 dX9_pour_145 rfl rfl ?_ ?_
                          · refine rz_iconst 153 dX9_pour_152 rfl ci_0 ?_
                            exact rz_sub [0, 1, 2, 3, 4, 5] rfl (rX9_pour_153 v d l0 l1 l2 l3 l4 l5 (0 : Int32))
                          · refine rz_iconst 149 dX9_pour_148 rfl ci_1 ?_
                            refine rz_goto 153 dX9_pour_149 rfl ?_
                            exact rz_sub [0, 1, 2, 3, 4, 5] rfl (rX9_pour_153 v d l0 l1 l2 l3 l4 l5 (1 : Int32))
                        · exact rz_sub [0] rfl (rX9_pour_136 v d l0)
                · refine rz_aload_n 86 0 dX9_pour_85 rfl rfl ?_
                  refine rz_bipush 88 dX9_pour_86 rfl cb_6 ?_
                  refine rz_callV 91 dX9_pour_88 rfl (tX9_no v (d + 0) l0 (6 : Int32)) rfl rfl rfl rfl ml_X9_77 im_X9_no se_X9_X9_no in_X9 co_X9_no rfl rfl (fun x13 => ?_)
                  exact rz_zreturn rfl rfl dX9_pour_91
              · refine rz_aload_n 74 0 dX9_pour_73 rfl rfl ?_
                refine rz_bipush 76 dX9_pour_74 rfl cb_11 ?_
                refine rz_callV 79 dX9_pour_76 rfl (tX9_no v (d + 0) l0 (11 : Int32)) rfl rfl rfl rfl ml_X9_77 im_X9_no se_X9_X9_no in_X9 co_X9_no rfl rfl (fun x14 => ?_)
                exact rz_zreturn rfl rfl dX9_pour_79
            · exact rz_sub [0] rfl (rX9_pour_52 v d l0)
        · exact rz_sub [0] rfl (rX9_pour_28 v d l0)
theorem tX9_pour (v : mE) (d : Nat) (l0 : Nat) (l1 : Int32) (l2 : Int32) (l3 : Int32) (l4 : Int32) (l5 : Int32) : Mt v yX9_pour cX9_pour 9 (some .boolean) emI (d + 1) [vR l0, vI l1, vI l2, vI l3, vI l4, vI l5] (fX9_pour l0 l1 l2 l3 l4 l5) := mt_of rfl rfl (fun h => by cases h) rfl rfl (rX9_pour v d l0 l1 l2 l3 l4 l5)
theorem dX9_numberOf_0 : decode cX9_numberOf 0 = .ok (.aload_n 0, 1) := by decide +kernel
theorem dX9_numberOf_1 : decode cX9_numberOf 1 = .ok (.getfield 20, 3) := by decide +kernel
theorem dX9_numberOf_4 : decode cX9_numberOf 4 = .ok (.bipush 60, 2) := by decide +kernel
theorem dX9_numberOf_6 : decode cX9_numberOf 6 = .ok (.iload_n 1, 1) := by decide +kernel
theorem dX9_numberOf_7 : decode cX9_numberOf 7 = .ok (.imul, 1) := by decide +kernel
theorem dX9_numberOf_8 : decode cX9_numberOf 8 = .ok (.iload_n 2, 1) := by decide +kernel
theorem dX9_numberOf_9 : decode cX9_numberOf 9 = .ok (.iadd, 1) := by decide +kernel
theorem dX9_numberOf_10 : decode cX9_numberOf 10 = .ok (.laload, 1) := by decide +kernel
theorem dX9_numberOf_11 : decode cX9_numberOf 11 = .ok (.lreturn, 1) := by decide +kernel
def fX9_numberOf (l0 : Nat) (l1 : Int32) (l2 : Int32) : mM Int64 := bGR 9 l0 6 (fun x1 => bAL x1 (((60 : Int32) * l1) + l2) (fun x2 => bRet x2))
set_option maxRecDepth 20000 in
theorem rX9_numberOf (v : mE) (d : Nat) (l0 : Nat) (l1 : Int32) (l2 : Int32) : Rz v RX9 cX9_numberOf 3 (some .long) false emL (d + 0) 0 [(0, vR l0), (1, vI l1), (2, vI l2)] [] (fX9_numberOf l0 l1 l2) := by
  unfold fX9_numberOf
  refine rz_aload_n 1 0 dX9_numberOf_0 rfl rfl ?_
  refine rz_gR 4 dX9_numberOf_1 rfl rfl fl_X9_20 (fun x1 => ?_)
  refine rz_bipush 6 dX9_numberOf_4 rfl cb_60 ?_
  refine rz_iload_n 7 1 dX9_numberOf_6 rfl rfl ?_
  refine rz_imul 8 dX9_numberOf_7 rfl ?_
  refine rz_iload_n 9 2 dX9_numberOf_8 rfl rfl ?_
  refine rz_iadd 10 dX9_numberOf_9 rfl ?_
  refine rz_lald 11 dX9_numberOf_10 rfl (fun x2 => ?_)
  exact rz_lreturn rfl rfl dX9_numberOf_11
theorem tX9_numberOf (v : mE) (d : Nat) (l0 : Nat) (l1 : Int32) (l2 : Int32) : Mt v yX9_numberOf cX9_numberOf 3 (some .long) emL (d + 0) [vR l0, vI l1, vI l2] (fX9_numberOf l0 l1 l2) := mt_of rfl rfl (fun h => by cases h) rfl rfl (rX9_numberOf v d l0 l1 l2)
theorem dX9_isTray_0 : decode cX9_isTray 0 = .ok (.iload_n 1, 1) := by decide +kernel
theorem dX9_isTray_1 : decode cX9_isTray 1 = .ok (.i2l, 1) := by decide +kernel
theorem dX9_isTray_2 : decode cX9_isTray 2 = .ok (.lconst 0, 1) := by decide +kernel
theorem dX9_isTray_3 : decode cX9_isTray 3 = .ok (.ldc2_w 95, 3) := by decide +kernel
theorem dX9_isTray_6 : decode cX9_isTray 6 = .ok (.invokestatic 97, 3) := by decide +kernel
theorem dX9_isTray_9 : decode cX9_isTray 9 = .ok (.ireturn, 1) := by decide +kernel
def fX9_isTray (l0 : Nat) (l1 : Int32) : mM Int32 := bCall (fX9_isIn (Int32.toInt64 l1) (0 : Int64) (3 : Int64)) (fun x1 => bRetZ x1)
set_option maxRecDepth 20000 in
theorem rX9_isTray (v : mE) (d : Nat) (l0 : Nat) (l1 : Int32) : Rz v RX9 cX9_isTray 2 (some .boolean) false emI (d + 1) 0 [(0, vR l0), (1, vI l1)] [] (fX9_isTray l0 l1) := by
  unfold fX9_isTray
  refine rz_iload_n 1 1 dX9_isTray_0 rfl rfl ?_
  refine rz_i2l 2 dX9_isTray_1 rfl ?_
  refine rz_lconst 3 dX9_isTray_2 rfl cl_0 ?_
  refine rz_ldc2 6 dX9_isTray_3 rfl cu_X9_95 ?_
  refine rz_callS 9 dX9_isTray_6 rfl (tX9_isIn v (d + 0) (Int32.toInt64 l1) (0 : Int64) (3 : Int64)) rfl rfl ml_X9_97 sm_X9_isIn in_X9 co_X9_isIn rfl rfl (fun x1 => ?_)
  exact rz_zreturn rfl rfl dX9_isTray_9
theorem tX9_isTray (v : mE) (d : Nat) (l0 : Nat) (l1 : Int32) : Mt v yX9_isTray cX9_isTray 2 (some .boolean) emI (d + 1) [vR l0, vI l1] (fX9_isTray l0 l1) := mt_of rfl rfl (fun h => by cases h) rfl rfl (rX9_isTray v d l0 l1)
theorem dX9_look2_0 : decode cX9_look2 0 = .ok (.iload_n 1, 1) := by decide +kernel
theorem dX9_look2_1 : decode cX9_look2 1 = .ok (.aload_n 0, 1) := by decide +kernel
theorem dX9_look2_2 : decode cX9_look2 2 = .ok (.getfield 101, 3) := by decide +kernel
theorem dX9_look2_5 : decode cX9_look2 5 = .ok (.if_icmp .ge 16, 3) := by decide +kernel
theorem dX9_look2_8 : decode cX9_look2 8 = .ok (.aload_n 0, 1) := by decide +kernel
theorem dX9_look2_9 : decode cX9_look2 9 = .ok (.getfield 24, 3) := by decide +kernel
theorem dX9_look2_12 : decode cX9_look2 12 = .ok (.iload_n 1, 1) := by decide +kernel
theorem dX9_look2_13 : decode cX9_look2 13 = .ok (.baload, 1) := by decide +kernel
theorem dX9_look2_14 : decode cX9_look2 14 = .ok (.sipush 255, 3) := by decide +kernel
theorem dX9_look2_17 : decode cX9_look2 17 = .ok (.iand, 1) := by decide +kernel
theorem dX9_look2_18 : decode cX9_look2 18 = .ok (.goto 4, 3) := by decide +kernel
theorem dX9_look2_21 : decode cX9_look2 21 = .ok (.iconst 0, 1) := by decide +kernel
theorem dX9_look2_22 : decode cX9_look2 22 = .ok (.ireturn, 1) := by decide +kernel
def fX9_look2 (l0 : Nat) (l1 : Int32) : mM Int32 := bGI 9 l0 9 (fun x1 => bIf (x1 ≤ l1) (bRet (0 : Int32)) (bGR 9 l0 7 (fun x2 => bAI 10 x2 l1 (fun x3 => bRet (x3 &&& (255 : Int32))))))
set_option maxRecDepth 20000 in
theorem rX9_look2 (v : mE) (d : Nat) (l0 : Nat) (l1 : Int32) : Rz v RX9 cX9_look2 2 (some .int) false emI (d + 0) 0 [(0, vR l0), (1, vI l1)] [] (fX9_look2 l0 l1) := by
  unfold fX9_look2
  refine rz_iload_n 1 1 dX9_look2_0 rfl rfl ?_
  refine rz_aload_n 2 0 dX9_look2_1 rfl rfl ?_
  refine rz_gI 5 dX9_look2_2 rfl rfl fl_X9_101 (fun x1 => ?_)
  refine rz_icmp_ge 21 8 dX9_look2_5 rfl rfl ?_ ?_
  · refine rz_iconst 22 dX9_look2_21 rfl ci_0 ?_
    exact rz_ireturn rfl rfl dX9_look2_22
  · refine rz_aload_n 9 0 dX9_look2_8 rfl rfl ?_
    refine rz_gR 12 dX9_look2_9 rfl rfl fl_X9_24 (fun x2 => ?_)
    refine rz_iload_n 13 1 dX9_look2_12 rfl rfl ?_
    refine rz_bald 14 dX9_look2_13 rfl (fun x3 => ?_)
    refine rz_sipush 17 dX9_look2_14 rfl cs_255 ?_
    refine rz_iand 18 dX9_look2_17 rfl ?_
    refine rz_goto 22 dX9_look2_18 rfl ?_
    exact rz_ireturn rfl rfl dX9_look2_22
theorem tX9_look2 (v : mE) (d : Nat) (l0 : Nat) (l1 : Int32) : Mt v yX9_look2 cX9_look2 2 (some .int) emI (d + 0) [vR l0, vI l1] (fX9_look2 l0 l1) := mt_of rfl rfl (fun h => by cases h) rfl rfl (rX9_look2 v d l0 l1)
theorem dX9_isLetter_0 : decode cX9_isLetter 0 = .ok (.iload_n 0, 1) := by decide +kernel
theorem dX9_isLetter_1 : decode cX9_isLetter 1 = .ok (.bipush 97, 2) := by decide +kernel
theorem dX9_isLetter_3 : decode cX9_isLetter 3 = .ok (.if_icmp .lt 13, 3) := by decide +kernel
theorem dX9_isLetter_6 : decode cX9_isLetter 6 = .ok (.iload_n 0, 1) := by decide +kernel
theorem dX9_isLetter_7 : decode cX9_isLetter 7 = .ok (.bipush 122, 2) := by decide +kernel
theorem dX9_isLetter_9 : decode cX9_isLetter 9 = .ok (.if_icmp .gt 7, 3) := by decide +kernel
theorem dX9_isLetter_12 : decode cX9_isLetter 12 = .ok (.iconst 1, 1) := by decide +kernel
theorem dX9_isLetter_13 : decode cX9_isLetter 13 = .ok (.goto 4, 3) := by decide +kernel
theorem dX9_isLetter_16 : decode cX9_isLetter 16 = .ok (.iconst 0, 1) := by decide +kernel
theorem dX9_isLetter_17 : decode cX9_isLetter 17 = .ok (.ireturn, 1) := by decide +kernel
def fX9_isLetter (l0 : Int32) : mM Int32 := bIf (l0 < (97 : Int32)) (bRetZ (0 : Int32)) (bIf ((122 : Int32) < l0) (bRetZ (0 : Int32)) (bRetZ (1 : Int32)))
set_option maxRecDepth 20000 in
theorem rX9_isLetter (v : mE) (d : Nat) (l0 : Int32) : Rz v RX9 cX9_isLetter 1 (some .boolean) false emI (d + 0) 0 [(0, vI l0)] [] (fX9_isLetter l0) := by
  unfold fX9_isLetter
  refine rz_iload_n 1 0 dX9_isLetter_0 rfl rfl ?_
  refine rz_bipush 3 dX9_isLetter_1 rfl cb_97 ?_
  refine rz_icmp_lt 16 6 dX9_isLetter_3 rfl rfl ?_ ?_
  · refine rz_iconst 17 dX9_isLetter_16 rfl ci_0 ?_
    exact rz_zreturn rfl rfl dX9_isLetter_17
  · refine rz_iload_n 7 0 dX9_isLetter_6 rfl rfl ?_
    refine rz_bipush 9 dX9_isLetter_7 rfl cb_122 ?_
    refine rz_icmp_gt 16 12 dX9_isLetter_9 rfl rfl ?_ ?_
    · refine rz_iconst 17 dX9_isLetter_16 rfl ci_0 ?_
      exact rz_zreturn rfl rfl dX9_isLetter_17
    · refine rz_iconst 13 dX9_isLetter_12 rfl ci_1 ?_
      refine rz_goto 17 dX9_isLetter_13 rfl ?_
      exact rz_zreturn rfl rfl dX9_isLetter_17
theorem tX9_isLetter (v : mE) (d : Nat) (l0 : Int32) : Mt v yX9_isLetter cX9_isLetter 1 (some .boolean) emI (d + 0) [vI l0] (fX9_isLetter l0) := mt_of rfl rfl (fun h => by cases h) rfl rfl (rX9_isLetter v d l0)
theorem dX9_isDigit_0 : decode cX9_isDigit 0 = .ok (.iload_n 0, 1) := by decide +kernel
theorem dX9_isDigit_1 : decode cX9_isDigit 1 = .ok (.bipush 48, 2) := by decide +kernel
theorem dX9_isDigit_3 : decode cX9_isDigit 3 = .ok (.if_icmp .lt 13, 3) := by decide +kernel
theorem dX9_isDigit_6 : decode cX9_isDigit 6 = .ok (.iload_n 0, 1) := by decide +kernel
theorem dX9_isDigit_7 : decode cX9_isDigit 7 = .ok (.bipush 57, 2) := by decide +kernel
theorem dX9_isDigit_9 : decode cX9_isDigit 9 = .ok (.if_icmp .gt 7, 3) := by decide +kernel
theorem dX9_isDigit_12 : decode cX9_isDigit 12 = .ok (.iconst 1, 1) := by decide +kernel
theorem dX9_isDigit_13 : decode cX9_isDigit 13 = .ok (.goto 4, 3) := by decide +kernel
theorem dX9_isDigit_16 : decode cX9_isDigit 16 = .ok (.iconst 0, 1) := by decide +kernel
theorem dX9_isDigit_17 : decode cX9_isDigit 17 = .ok (.ireturn, 1) := by decide +kernel
def fX9_isDigit (l0 : Int32) : mM Int32 := bIf (l0 < (48 : Int32)) (bRetZ (0 : Int32)) (bIf ((57 : Int32) < l0) (bRetZ (0 : Int32)) (bRetZ (1 : Int32)))
set_option maxRecDepth 20000 in
theorem rX9_isDigit (v : mE) (d : Nat) (l0 : Int32) : Rz v RX9 cX9_isDigit 1 (some .boolean) false emI (d + 0) 0 [(0, vI l0)] [] (fX9_isDigit l0) := by
  unfold fX9_isDigit
  refine rz_iload_n 1 0 dX9_isDigit_0 rfl rfl ?_
  refine rz_bipush 3 dX9_isDigit_1 rfl cb_48 ?_
  refine rz_icmp_lt 16 6 dX9_isDigit_3 rfl rfl ?_ ?_
  · refine rz_iconst 17 dX9_isDigit_16 rfl ci_0 ?_
    exact rz_zreturn rfl rfl dX9_isDigit_17
  · refine rz_iload_n 7 0 dX9_isDigit_6 rfl rfl ?_
    refine rz_bipush 9 dX9_isDigit_7 rfl cb_57 ?_
    refine rz_icmp_gt 16 12 dX9_isDigit_9 rfl rfl ?_ ?_
    · refine rz_iconst 17 dX9_isDigit_16 rfl ci_0 ?_
      exact rz_zreturn rfl rfl dX9_isDigit_17
    · refine rz_iconst 13 dX9_isDigit_12 rfl ci_1 ?_
      refine rz_goto 17 dX9_isDigit_13 rfl ?_
      exact rz_zreturn rfl rfl dX9_isDigit_17
theorem tX9_isDigit (v : mE) (d : Nat) (l0 : Int32) : Mt v yX9_isDigit cX9_isDigit 1 (some .boolean) emI (d + 0) [vI l0] (fX9_isDigit l0) := mt_of rfl rfl (fun h => by cases h) rfl rfl (rX9_isDigit v d l0)
theorem dX9_isSignByte_0 : decode cX9_isSignByte 0 = .ok (.iload_n 1, 1) := by decide +kernel
theorem dX9_isSignByte_1 : decode cX9_isSignByte 1 = .ok (.bipush 59, 2) := by decide +kernel
theorem dX9_isSignByte_3 : decode cX9_isSignByte 3 = .ok (.if_icmp .eq 33, 3) := by decide +kernel
theorem dX9_isSignByte_6 : decode cX9_isSignByte 6 = .ok (.iload_n 1, 1) := by decide +kernel
theorem dX9_isSignByte_7 : decode cX9_isSignByte 7 = .ok (.bipush 60, 2) := by decide +kernel
theorem dX9_isSignByte_9 : decode cX9_isSignByte 9 = .ok (.if_icmp .eq 27, 3) := by decide +kernel
theorem dX9_isSignByte_12 : decode cX9_isSignByte 12 = .ok (.iload_n 1, 1) := by decide +kernel
theorem dX9_isSignByte_13 : decode cX9_isSignByte 13 = .ok (.bipush 62, 2) := by decide +kernel
theorem dX9_isSignByte_15 : decode cX9_isSignByte 15 = .ok (.if_icmp .eq 21, 3) := by decide +kernel
theorem dX9_isSignByte_18 : decode cX9_isSignByte 18 = .ok (.iload_n 1, 1) := by decide +kernel
theorem dX9_isSignByte_19 : decode cX9_isSignByte 19 = .ok (.bipush 61, 2) := by decide +kernel
theorem dX9_isSignByte_21 : decode cX9_isSignByte 21 = .ok (.if_icmp .eq 15, 3) := by decide +kernel
theorem dX9_isSignByte_24 : decode cX9_isSignByte 24 = .ok (.iload_n 1, 1) := by decide +kernel
theorem dX9_isSignByte_25 : decode cX9_isSignByte 25 = .ok (.bipush 40, 2) := by decide +kernel
theorem dX9_isSignByte_27 : decode cX9_isSignByte 27 = .ok (.if_icmp .eq 9, 3) := by decide +kernel
theorem dX9_isSignByte_30 : decode cX9_isSignByte 30 = .ok (.iload_n 1, 1) := by decide +kernel
theorem dX9_isSignByte_31 : decode cX9_isSignByte 31 = .ok (.bipush 41, 2) := by decide +kernel
theorem dX9_isSignByte_33 : decode cX9_isSignByte 33 = .ok (.if_icmp .ne 7, 3) := by decide +kernel
theorem dX9_isSignByte_36 : decode cX9_isSignByte 36 = .ok (.iconst 1, 1) := by decide +kernel
theorem dX9_isSignByte_37 : decode cX9_isSignByte 37 = .ok (.goto 4, 3) := by decide +kernel
theorem dX9_isSignByte_40 : decode cX9_isSignByte 40 = .ok (.iconst 0, 1) := by decide +kernel
theorem dX9_isSignByte_41 : decode cX9_isSignByte 41 = .ok (.ireturn, 1) := by decide +kernel
def fX9_isSignByte (l0 : Nat) (l1 : Int32) : mM Int32 := bIf (l1 = (59 : Int32)) (bRetZ (1 : Int32)) (bIf (l1 = (60 : Int32)) (bRetZ (1 : Int32)) (bIf (l1 = (62 : Int32)) (bRetZ (1 : Int32)) (bIf (l1 = (61 : Int32)) (bRetZ (1 : Int32)) (bIf (l1 = (40 : Int32)) (bRetZ (1 : Int32)) (bIf (l1 = (41 : Int32)) (bRetZ (1 : Int32)) (bRetZ (0 : Int32)))))))
set_option maxRecDepth 20000 in
theorem rX9_isSignByte (v : mE) (d : Nat) (l0 : Nat) (l1 : Int32) : Rz v RX9 cX9_isSignByte 2 (some .boolean) false emI (d + 0) 0 [(0, vR l0), (1, vI l1)] [] (fX9_isSignByte l0 l1) := by
  unfold fX9_isSignByte
  refine rz_iload_n 1 1 dX9_isSignByte_0 rfl rfl ?_
  refine rz_bipush 3 dX9_isSignByte_1 rfl cb_59 ?_
  refine rz_icmp_eq 36 6 dX9_isSignByte_3 rfl rfl ?_ ?_
  · refine rz_iconst 37 dX9_isSignByte_36 rfl ci_1 ?_
    refine rz_goto 41 dX9_isSignByte_37 rfl ?_
    exact rz_zreturn rfl rfl dX9_isSignByte_41
  · refine rz_iload_n 7 1 dX9_isSignByte_6 rfl rfl ?_
    refine rz_bipush 9 dX9_isSignByte_7 rfl cb_60 ?_
    refine rz_icmp_eq 36 12 dX9_isSignByte_9 rfl rfl ?_ ?_
    · refine rz_iconst 37 dX9_isSignByte_36 rfl ci_1 ?_
      refine rz_goto 41 dX9_isSignByte_37 rfl ?_
      exact rz_zreturn rfl rfl dX9_isSignByte_41
    · refine rz_iload_n 13 1 dX9_isSignByte_12 rfl rfl ?_
      refine rz_bipush 15 dX9_isSignByte_13 rfl cb_62 ?_
      refine rz_icmp_eq 36 18 dX9_isSignByte_15 rfl rfl ?_ ?_
      · refine rz_iconst 37 dX9_isSignByte_36 rfl ci_1 ?_
        refine rz_goto 41 dX9_isSignByte_37 rfl ?_
        exact rz_zreturn rfl rfl dX9_isSignByte_41
      · refine rz_iload_n 19 1 dX9_isSignByte_18 rfl rfl ?_
        refine rz_bipush 21 dX9_isSignByte_19 rfl cb_61 ?_
        refine rz_icmp_eq 36 24 dX9_isSignByte_21 rfl rfl ?_ ?_
        · refine rz_iconst 37 dX9_isSignByte_36 rfl ci_1 ?_
          refine rz_goto 41 dX9_isSignByte_37 rfl ?_
          exact rz_zreturn rfl rfl dX9_isSignByte_41
        · refine rz_iload_n 25 1 dX9_isSignByte_24 rfl rfl ?_
          refine rz_bipush 27 dX9_isSignByte_25 rfl cb_40 ?_
          refine rz_icmp_eq 36 30 dX9_isSignByte_27 rfl rfl ?_ ?_
          · refine rz_iconst 37 dX9_isSignByte_36 rfl ci_1 ?_
            refine rz_goto 41 dX9_isSignByte_37 rfl ?_
            exact rz_zreturn rfl rfl dX9_isSignByte_41
          · refine rz_iload_n 31 1 dX9_isSignByte_30 rfl rfl ?_
            refine rz_bipush 33 dX9_isSignByte_31 rfl cb_41 ?_
            refine rz_icmp_ne 40 36 dX9_isSignByte_33 rfl rfl ?_ ?_
            · refine rz_iconst 41 dX9_isSignByte_40 rfl ci_0 ?_
              exact rz_zreturn rfl rfl dX9_isSignByte_41
            · refine rz_iconst 37 dX9_isSignByte_36 rfl ci_1 ?_
              refine rz_goto 41 dX9_isSignByte_37 rfl ?_
              exact rz_zreturn rfl rfl dX9_isSignByte_41
theorem tX9_isSignByte (v : mE) (d : Nat) (l0 : Nat) (l1 : Int32) : Mt v yX9_isSignByte cX9_isSignByte 2 (some .boolean) emI (d + 0) [vR l0, vI l1] (fX9_isSignByte l0 l1) := mt_of rfl rfl (fun h => by cases h) rfl rfl (rX9_isSignByte v d l0 l1)
theorem dX9_next_0 : decode cX9_next 0 = .ok (.aload_n 0, 1) := by decide +kernel
theorem dX9_next_1 : decode cX9_next 1 = .ok (.aload_n 0, 1) := by decide +kernel
theorem dX9_next_2 : decode cX9_next 2 = .ok (.getfield 104, 3) := by decide +kernel
theorem dX9_next_5 : decode cX9_next 5 = .ok (.putfield 107, 3) := by decide +kernel
theorem dX9_next_8 : decode cX9_next 8 = .ok (.aload_n 0, 1) := by decide +kernel
theorem dX9_next_9 : decode cX9_next 9 = .ok (.getfield 107, 3) := by decide +kernel
theorem dX9_next_12 : decode cX9_next 12 = .ok (.aload_n 0, 1) := by decide +kernel
theorem dX9_next_13 : decode cX9_next 13 = .ok (.getfield 101, 3) := by decide +kernel
theorem dX9_next_16 : decode cX9_next 16 = .ok (.if_icmp .ge 42, 3) := by decide +kernel
theorem dX9_next_19 : decode cX9_next 19 = .ok (.aload_n 0, 1) := by decide +kernel
theorem dX9_next_20 : decode cX9_next 20 = .ok (.aload_n 0, 1) := by decide +kernel
theorem dX9_next_21 : decode cX9_next 21 = .ok (.getfield 107, 3) := by decide +kernel
theorem dX9_next_24 : decode cX9_next 24 = .ok (.invokevirtual 110, 3) := by decide +kernel
theorem dX9_next_27 : decode cX9_next 27 = .ok (.bipush 10, 2) := by decide +kernel
theorem dX9_next_29 : decode cX9_next 29 = .ok (.if_icmp .eq 16, 3) := by decide +kernel
theorem dX9_next_32 : decode cX9_next 32 = .ok (.aload_n 0, 1) := by decide +kernel
theorem dX9_next_33 : decode cX9_next 33 = .ok (.aload_n 0, 1) := by decide +kernel
theorem dX9_next_34 : decode cX9_next 34 = .ok (.getfield 107, 3) := by decide +kernel
theorem dX9_next_37 : decode cX9_next 37 = .ok (.invokevirtual 110, 3) := by decide +kernel
theorem dX9_next_40 : decode cX9_next 40 = .ok (.bipush 32, 2) := by decide +kernel
theorem dX9_next_42 : decode cX9_next 42 = .ok (.if_icmp .ne 16, 3) := by decide +kernel
theorem dX9_next_45 : decode cX9_next 45 = .ok (.aload_n 0, 1) := by decide +kernel
theorem dX9_next_46 : decode cX9_next 46 = .ok (.dup, 1) := by decide +kernel
theorem dX9_next_47 : decode cX9_next 47 = .ok (.getfield 107, 3) := by decide +kernel
theorem dX9_next_50 : decode cX9_next 50 = .ok (.iconst 1, 1) := by decide +kernel
theorem dX9_next_51 : decode cX9_next 51 = .ok (.iadd, 1) := by decide +kernel
theorem dX9_next_52 : decode cX9_next 52 = .ok (.putfield 107, 3) := by decide +kernel
theorem dX9_next_55 : decode cX9_next 55 = .ok (.goto (-47), 3) := by decide +kernel
theorem dX9_next_58 : decode cX9_next 58 = .ok (.aload_n 0, 1) := by decide +kernel
theorem dX9_next_59 : decode cX9_next 59 = .ok (.aload_n 0, 1) := by decide +kernel
theorem dX9_next_60 : decode cX9_next 60 = .ok (.getfield 107, 3) := by decide +kernel
theorem dX9_next_63 : decode cX9_next 63 = .ok (.putfield 104, 3) := by decide +kernel
theorem dX9_next_66 : decode cX9_next 66 = .ok (.aload_n 0, 1) := by decide +kernel
theorem dX9_next_67 : decode cX9_next 67 = .ok (.getfield 107, 3) := by decide +kernel
theorem dX9_next_70 : decode cX9_next 70 = .ok (.aload_n 0, 1) := by decide +kernel
theorem dX9_next_71 : decode cX9_next 71 = .ok (.getfield 101, 3) := by decide +kernel
theorem dX9_next_74 : decode cX9_next 74 = .ok (.if_icmp .lt 9, 3) := by decide +kernel
theorem dX9_next_77 : decode cX9_next 77 = .ok (.aload_n 0, 1) := by decide +kernel
theorem dX9_next_78 : decode cX9_next 78 = .ok (.iconst 0, 1) := by decide +kernel
theorem dX9_next_79 : decode cX9_next 79 = .ok (.putfield 113, 3) := by decide +kernel
theorem dX9_next_82 : decode cX9_next 82 = .ok (.return_, 1) := by decide +kernel
theorem dX9_next_83 : decode cX9_next 83 = .ok (.aload_n 0, 1) := by decide +kernel
theorem dX9_next_84 : decode cX9_next 84 = .ok (.aload_n 0, 1) := by decide +kernel
theorem dX9_next_85 : decode cX9_next 85 = .ok (.getfield 107, 3) := by decide +kernel
theorem dX9_next_88 : decode cX9_next 88 = .ok (.invokevirtual 110, 3) := by decide +kernel
theorem dX9_next_91 : decode cX9_next 91 = .ok (.istore_n 1, 1) := by decide +kernel
theorem dX9_next_92 : decode cX9_next 92 = .ok (.iload_n 1, 1) := by decide +kernel
theorem dX9_next_93 : decode cX9_next 93 = .ok (.invokestatic 116, 3) := by decide +kernel
theorem dX9_next_96 : decode cX9_next 96 = .ok (.ifCond .eq 102, 3) := by decide +kernel
theorem dX9_next_99 : decode cX9_next 99 = .ok (.aload_n 0, 1) := by decide +kernel
theorem dX9_next_100 : decode cX9_next 100 = .ok (.iconst 1, 1) := by decide +kernel
theorem dX9_next_101 : decode cX9_next 101 = .ok (.putfield 113, 3) := by decide +kernel
theorem dX9_next_104 : decode cX9_next 104 = .ok (.aload_n 0, 1) := by decide +kernel
theorem dX9_next_105 : decode cX9_next 105 = .ok (.lconst 0, 1) := by decide +kernel
theorem dX9_next_106 : decode cX9_next 106 = .ok (.putfield 119, 3) := by decide +kernel
theorem dX9_next_109 : decode cX9_next 109 = .ok (.aload_n 0, 1) := by decide +kernel
theorem dX9_next_110 : decode cX9_next 110 = .ok (.aload_n 0, 1) := by decide +kernel
theorem dX9_next_111 : decode cX9_next 111 = .ok (.getfield 104, 3) := by decide +kernel
theorem dX9_next_114 : decode cX9_next 114 = .ok (.invokevirtual 110, 3) := by decide +kernel
theorem dX9_next_117 : decode cX9_next 117 = .ok (.invokestatic 116, 3) := by decide +kernel
theorem dX9_next_120 : decode cX9_next 120 = .ok (.ifCond .eq 62, 3) := by decide +kernel
theorem dX9_next_123 : decode cX9_next 123 = .ok (.aload_n 0, 1) := by decide +kernel
theorem dX9_next_124 : decode cX9_next 124 = .ok (.aload_n 0, 1) := by decide +kernel
theorem dX9_next_125 : decode cX9_next 125 = .ok (.getfield 104, 3) := by decide +kernel
theorem dX9_next_128 : decode cX9_next 128 = .ok (.aload_n 0, 1) := by decide +kernel
theorem dX9_next_129 : decode cX9_next 129 = .ok (.getfield 107, 3) := by decide +kernel
theorem dX9_next_132 : decode cX9_next 132 = .ok (.isub, 1) := by decide +kernel
theorem dX9_next_133 : decode cX9_next 133 = .ok (.bipush 8, 2) := by decide +kernel
theorem dX9_next_135 : decode cX9_next 135 = .ok (.if_icmp .ge 28, 3) := by decide +kernel
theorem dX9_next_138 : decode cX9_next 138 = .ok (.aload_n 0, 1) := by decide +kernel
theorem dX9_next_139 : decode cX9_next 139 = .ok (.getfield 119, 3) := by decide +kernel
theorem dX9_next_142 : decode cX9_next 142 = .ok (.ldc2_w 122, 3) := by decide +kernel
theorem dX9_next_145 : decode cX9_next 145 = .ok (.lmul, 1) := by decide +kernel
theorem dX9_next_146 : decode cX9_next 146 = .ok (.aload_n 0, 1) := by decide +kernel
theorem dX9_next_147 : decode cX9_next 147 = .ok (.aload_n 0, 1) := by decide +kernel
theorem dX9_next_148 : decode cX9_next 148 = .ok (.getfield 104, 3) := by decide +kernel
theorem dX9_next_151 : decode cX9_next 151 = .ok (.invokevirtual 110, 3) := by decide +kernel
theorem dX9_next_154 : decode cX9_next 154 = .ok (.i2l, 1) := by decide +kernel
theorem dX9_next_155 : decode cX9_next 155 = .ok (.ladd, 1) := by decide +kernel
theorem dX9_next_156 : decode cX9_next 156 = .ok (.ldc2_w 124, 3) := by decide +kernel
theorem dX9_next_159 : decode cX9_next 159 = .ok (.lsub, 1) := by decide +kernel
theorem dX9_next_160 : decode cX9_next 160 = .ok (.goto 6, 3) := by decide +kernel
theorem dX9_next_163 : decode cX9_next 163 = .ok (.ldc2_w 93, 3) := by decide +kernel
theorem dX9_next_166 : decode cX9_next 166 = .ok (.putfield 119, 3) := by decide +kernel
theorem dX9_next_169 : decode cX9_next 169 = .ok (.aload_n 0, 1) := by decide +kernel
theorem dX9_next_170 : decode cX9_next 170 = .ok (.dup, 1) := by decide +kernel
theorem dX9_next_171 : decode cX9_next 171 = .ok (.getfield 104, 3) := by decide +kernel
theorem dX9_next_174 : decode cX9_next 174 = .ok (.iconst 1, 1) := by decide +kernel
theorem dX9_next_175 : decode cX9_next 175 = .ok (.iadd, 1) := by decide +kernel
theorem dX9_next_176 : decode cX9_next 176 = .ok (.putfield 104, 3) := by decide +kernel
theorem dX9_next_179 : decode cX9_next 179 = .ok (.goto (-70), 3) := by decide +kernel
theorem dX9_next_182 : decode cX9_next 182 = .ok (.aload_n 0, 1) := by decide +kernel
theorem dX9_next_183 : decode cX9_next 183 = .ok (.aload_n 0, 1) := by decide +kernel
theorem dX9_next_184 : decode cX9_next 184 = .ok (.getfield 104, 3) := by decide +kernel
theorem dX9_next_187 : decode cX9_next 187 = .ok (.aload_n 0, 1) := by decide +kernel
theorem dX9_next_188 : decode cX9_next 188 = .ok (.getfield 107, 3) := by decide +kernel
theorem dX9_next_191 : decode cX9_next 191 = .ok (.isub, 1) := by decide +kernel
theorem dX9_next_192 : decode cX9_next 192 = .ok (.putfield 126, 3) := by decide +kernel
theorem dX9_next_195 : decode cX9_next 195 = .ok (.goto 135, 3) := by decide +kernel
theorem dX9_next_198 : decode cX9_next 198 = .ok (.iload_n 1, 1) := by decide +kernel
theorem dX9_next_199 : decode cX9_next 199 = .ok (.invokestatic 129, 3) := by decide +kernel
theorem dX9_next_202 : decode cX9_next 202 = .ok (.ifCond .eq 96, 3) := by decide +kernel
theorem dX9_next_205 : decode cX9_next 205 = .ok (.aload_n 0, 1) := by decide +kernel
theorem dX9_next_206 : decode cX9_next 206 = .ok (.iconst 0, 1) := by decide +kernel
theorem dX9_next_207 : decode cX9_next 207 = .ok (.putfield 132, 3) := by decide +kernel
theorem dX9_next_210 : decode cX9_next 210 = .ok (.aload_n 0, 1) := by decide +kernel
theorem dX9_next_211 : decode cX9_next 211 = .ok (.aload_n 0, 1) := by decide +kernel
theorem dX9_next_212 : decode cX9_next 212 = .ok (.getfield 104, 3) := by decide +kernel
theorem dX9_next_215 : decode cX9_next 215 = .ok (.invokevirtual 110, 3) := by decide +kernel
theorem dX9_next_218 : decode cX9_next 218 = .ok (.invokestatic 129, 3) := by decide +kernel
theorem dX9_next_221 : decode cX9_next 221 = .ok (.ifCond .eq 52, 3) := by decide +kernel
theorem dX9_next_224 : decode cX9_next 224 = .ok (.aload_n 0, 1) := by decide +kernel
theorem dX9_next_225 : decode cX9_next 225 = .ok (.getfield 104, 3) := by decide +kernel
theorem dX9_next_228 : decode cX9_next 228 = .ok (.aload_n 0, 1) := by decide +kernel
theorem dX9_next_229 : decode cX9_next 229 = .ok (.getfield 107, 3) := by decide +kernel
theorem dX9_next_232 : decode cX9_next 232 = .ok (.isub, 1) := by decide +kernel
theorem dX9_next_233 : decode cX9_next 233 = .ok (.iconst 4, 1) := by decide +kernel
theorem dX9_next_234 : decode cX9_next 234 = .ok (.if_icmp .ge 26, 3) := by decide +kernel
theorem dX9_next_237 : decode cX9_next 237 = .ok (.aload_n 0, 1) := by decide +kernel
theorem dX9_next_238 : decode cX9_next 238 = .ok (.bipush 10, 2) := by decide +kernel
theorem dX9_next_240 : decode cX9_next 240 = .ok (.aload_n 0, 1) := by decide +kernel
theorem dX9_next_241 : decode cX9_next 241 = .ok (.getfield 132, 3) := by decide +kernel
theorem dX9_next_244 : decode cX9_next 244 = .ok (.imul, 1) := by decide +kernel
theorem dX9_next_245 : decode cX9_next 245 = .ok (.aload_n 0, 1) := by decide +kernel
theorem dX9_next_246 : decode cX9_next 246 = .ok (.aload_n 0, 1) := by decide +kernel
theorem dX9_next_247 : decode cX9_next 247 = .ok (.getfield 104, 3) := by decide +kernel
theorem dX9_next_250 : decode cX9_next 250 = .ok (.invokevirtual 110, 3) := by decide +kernel
theorem dX9_next_253 : decode cX9_next 253 = .ok (.iadd, 1) := by decide +kernel
theorem dX9_next_254 : decode cX9_next 254 = .ok (.bipush 48, 2) := by decide +kernel
theorem dX9_next_256 : decode cX9_next 256 = .ok (.isub, 1) := by decide +kernel
theorem dX9_next_257 : decode cX9_next 257 = .ok (.putfield 132, 3) := by decide +kernel
theorem dX9_next_260 : decode cX9_next 260 = .ok (.aload_n 0, 1) := by decide +kernel
theorem dX9_next_261 : decode cX9_next 261 = .ok (.dup, 1) := by decide +kernel
theorem dX9_next_262 : decode cX9_next 262 = .ok (.getfield 104, 3) := by decide +kernel
theorem dX9_next_265 : decode cX9_next 265 = .ok (.iconst 1, 1) := by decide +kernel
theorem dX9_next_266 : decode cX9_next 266 = .ok (.iadd, 1) := by decide +kernel
theorem dX9_next_267 : decode cX9_next 267 = .ok (.putfield 104, 3) := by decide +kernel
theorem dX9_next_270 : decode cX9_next 270 = .ok (.goto (-60), 3) := by decide +kernel
theorem dX9_next_273 : decode cX9_next 273 = .ok (.aload_n 0, 1) := by decide +kernel
theorem dX9_next_274 : decode cX9_next 274 = .ok (.aload_n 0, 1) := by decide +kernel
theorem dX9_next_275 : decode cX9_next 275 = .ok (.getfield 104, 3) := by decide +kernel
theorem dX9_next_278 : decode cX9_next 278 = .ok (.aload_n 0, 1) := by decide +kernel
theorem dX9_next_279 : decode cX9_next 279 = .ok (.getfield 107, 3) := by decide +kernel
theorem dX9_next_282 : decode cX9_next 282 = .ok (.isub, 1) := by decide +kernel
theorem dX9_next_283 : decode cX9_next 283 = .ok (.iconst 4, 1) := by decide +kernel
theorem dX9_next_284 : decode cX9_next 284 = .ok (.if_icmp .le 7, 3) := by decide +kernel
theorem dX9_next_287 : decode cX9_next 287 = .ok (.iconst 4, 1) := by decide +kernel
theorem dX9_next_288 : decode cX9_next 288 = .ok (.goto 4, 3) := by decide +kernel
theorem dX9_next_291 : decode cX9_next 291 = .ok (.iconst 2, 1) := by decide +kernel
theorem dX9_next_292 : decode cX9_next 292 = .ok (.putfield 113, 3) := by decide +kernel
theorem dX9_next_295 : decode cX9_next 295 = .ok (.goto 35, 3) := by decide +kernel
theorem dX9_next_298 : decode cX9_next 298 = .ok (.aload_n 0, 1) := by decide +kernel
theorem dX9_next_299 : decode cX9_next 299 = .ok (.aload_n 0, 1) := by decide +kernel
theorem dX9_next_300 : decode cX9_next 300 = .ok (.getfield 107, 3) := by decide +kernel
theorem dX9_next_303 : decode cX9_next 303 = .ok (.iconst 1, 1) := by decide +kernel
theorem dX9_next_304 : decode cX9_next 304 = .ok (.iadd, 1) := by decide +kernel
theorem dX9_next_305 : decode cX9_next 305 = .ok (.putfield 104, 3) := by decide +kernel
theorem dX9_next_308 : decode cX9_next 308 = .ok (.aload_n 0, 1) := by decide +kernel
theorem dX9_next_309 : decode cX9_next 309 = .ok (.iload_n 1, 1) := by decide +kernel
theorem dX9_next_310 : decode cX9_next 310 = .ok (.putfield 132, 3) := by decide +kernel
theorem dX9_next_313 : decode cX9_next 313 = .ok (.aload_n 0, 1) := by decide +kernel
theorem dX9_next_314 : decode cX9_next 314 = .ok (.aload_n 0, 1) := by decide +kernel
theorem dX9_next_315 : decode cX9_next 315 = .ok (.iload_n 1, 1) := by decide +kernel
theorem dX9_next_316 : decode cX9_next 316 = .ok (.invokevirtual 135, 3) := by decide +kernel
theorem dX9_next_319 : decode cX9_next 319 = .ok (.ifCond .eq 7, 3) := by decide +kernel
theorem dX9_next_322 : decode cX9_next 322 = .ok (.iconst 3, 1) := by decide +kernel
theorem dX9_next_323 : decode cX9_next 323 = .ok (.goto 4, 3) := by decide +kernel
theorem dX9_next_326 : decode cX9_next 326 = .ok (.iconst 4, 1) := by decide +kernel
theorem dX9_next_327 : decode cX9_next 327 = .ok (.putfield 113, 3) := by decide +kernel
theorem dX9_next_330 : decode cX9_next 330 = .ok (.return_, 1) := by decide +kernel
def fX9_next_273 (l0 : Nat) : mM Unit := bGI 9 l0 16 (fun x1 => bGI 9 l0 15 (fun x2 => bIf ((x1 - x2) ≤ (4 : Int32)) (bPI 9 l0 14 (2 : Int32) (bRet ())) (bPI 9 l0 14 (4 : Int32) (bRet ()))))
set_option maxRecDepth 20000 in
theorem rX9_next_273 (v : mE) (d : Nat) (l0 : Nat) : Rz v RX9 cX9_next 2 none false emU (d + 1) 273 [(0, vR l0)] [] (fX9_next_273 l0) := by
  unfold fX9_next_273
  refine rz_aload_n 274 0 dX9_next_273 rfl rfl ?_
  refine rz_aload_n 275 0 dX9_next_274 rfl rfl ?_
  refine rz_gI 278 dX9_next_275 rfl rfl fl_X9_104 (fun x1 => ?_)
  refine rz_aload_n 279 0 dX9_next_278 rfl rfl ?_
  refine rz_gI 282 dX9_next_279 rfl rfl fl_X9_107 (fun x2 => ?_)
  refine rz_isub 283 dX9_next_282 rfl ?_
  refine rz_iconst 284 dX9_next_283 rfl ci_4 ?_
  refine rz_icmp_le 291 287 dX9_next_284 rfl rfl ?_ ?_
  · refine rz_iconst 292 dX9_next_291 rfl ci_2 ?_
    refine rz_pI 295 dX9_next_292 rfl rfl rfl rfl fl_X9_113 ?_
    refine rz_goto 330 dX9_next_295 rfl ?_
    exact rz_return rfl rfl dX9_next_330
  · refine rz_iconst 288 dX9_next_287 rfl ci_4 ?_
    refine rz_goto 292 dX9_next_288 rfl ?_
    refine rz_pI 295 dX9_next_292 rfl rfl rfl rfl fl_X9_113 ?_
    refine rz_goto 330 dX9_next_295 rfl ?_
    exact rz_return rfl rfl dX9_next_330
def fX9_next_260 (r210 : Nat → mM Unit) (l0 : Nat) : mM Unit := bGI 9 l0 16 (fun x1 => bPI 9 l0 16 (x1 + (1 : Int32)) (r210 l0))
set_option maxRecDepth 20000 in
theorem rX9_next_260 (v : mE) (d : Nat) (r210 : Nat → mM Unit) (h210 : ∀ (y0 : Nat), Rz v RX9 cX9_next 2 none false emU (d + 1) 210 [(0, vR y0)] [] (r210 y0)) (l0 : Nat) : Rz v RX9 cX9_next 2 none false emU (d + 1) 260 [(0, vR l0)] [] (fX9_next_260 r210 l0) := by
  unfold fX9_next_260
  refine rz_aload_n 261 0 dX9_next_260 rfl rfl ?_
  refine rz_dup 262 dX9_next_261 rfl rfl ?_
  refine rz_gI 265 dX9_next_262 rfl rfl fl_X9_104 (fun x1 => ?_)
  refine rz_iconst 266 dX9_next_265 rfl ci_1 ?_
  refine rz_iadd 267 dX9_next_266 rfl ?_
  refine rz_pI 270 dX9_next_267 rfl rfl rfl rfl fl_X9_104 ?_
  refine rz_goto 210 dX9_next_270 rfl ?_
  exact rz_sub [0] rfl (h210 l0)
def fX9_next_210 : Nat → Nat → mM Unit
  | 0 => fun _ => fun _ => none
  | n + 1 => fun l0 => let r210 := fX9_next_210 n; bGI 9 l0 16 (fun x1 => bCallV 9 l0 (fX9_look2 l0 x1) (fun x2 => bCall (fX9_isDigit x2) (fun x3 => bIf (x3 = 0) (fX9_next_273 l0) (bGI 9 l0 16 (fun x4 => bGI 9 l0 15 (fun x5 => bIf ((4 : Int32) ≤ (x4 - x5)) (fX9_next_260 r210 l0) (bGI 9 l0 17 (fun x6 => bGI 9 l0 16 (fun x7 => bCallV 9 l0 (fX9_look2 l0 x7) (fun x8 => bPI 9 l0 17 ((((10 : Int32) * x6) + x8) - (48 : Int32)) (fX9_next_260 r210 l0)))))))))))
theorem qX9_next_210  (n : Nat) (l0 : Nat) : fX9_next_210 (n + 1) l0 = bGI 9 l0 16 (fun x1 => bCallV 9 l0 (fX9_look2 l0 x1) (fun x2 => bCall (fX9_isDigit x2) (fun x3 => bIf (x3 = 0) (fX9_next_273 l0) (bGI 9 l0 16 (fun x4 => bGI 9 l0 15 (fun x5 => bIf ((4 : Int32) ≤ (x4 - x5)) (fX9_next_260 (fX9_next_210 n) l0) (bGI 9 l0 17 (fun x6 => bGI 9 l0 16 (fun x7 => bCallV 9 l0 (fX9_look2 l0 x7) (fun x8 => bPI 9 l0 17 ((((10 : Int32) * x6) + x8) - (48 : Int32)) (fX9_next_260 (fX9_next_210 n) l0))))))))))) := rfl
set_option maxRecDepth 20000 in
theorem rX9_next_210 (v : mE) (d : Nat) : ∀ (n : Nat) (l0 : Nat), Rz v RX9 cX9_next 2 none false emU (d + 1) 210 [(0, vR l0)] [] (fX9_next_210 n l0)
  | 0, _ => fun _ _ _ hm => by cases hm
  | n + 1, l0 => by
    have h210 := rX9_next_210 v d n
    unfold fX9_next_210
    generalize fX9_next_210 n = r210 at h210 ⊢
    refine rz_aload_n 211 0 dX9_next_210 rfl rfl ?_
    refine rz_aload_n 212 0 dX9_next_211 rfl rfl ?_
    refine rz_gI 215 dX9_next_212 rfl rfl fl_X9_104 (fun x1 => ?_)
    refine rz_callV 218 dX9_next_215 rfl (tX9_look2 v (d + 0) l0 x1) rfl rfl rfl rfl ml_X9_110 im_X9_look2 se_X9_X9_look2 in_X9 co_X9_look2 rfl rfl (fun x2 => ?_)
    refine rz_callS 221 dX9_next_218 rfl (tX9_isDigit v (d + 0) x2) rfl rfl ml_X9_129 sm_X9_isDigit in_X9 co_X9_isDigit rfl rfl (fun x3 => ?_)
    refine rz_if_eq 273 224 dX9_next_221 rfl rfl ?_ ?_
    · exact rz_sub [0] rfl (rX9_next_273 v d l0)
    · refine rz_aload_n 225 0 dX9_next_224 rfl rfl ?_
      refine rz_gI 228 dX9_next_225 rfl rfl fl_X9_104 (fun x4 => ?_)
      refine rz_aload_n 229 0 dX9_next_228 rfl rfl ?_
      refine rz_gI 232 dX9_next_229 rfl rfl fl_X9_107 (fun x5 => ?_)
      refine rz_isub 233 dX9_next_232 rfl ?_
      refine rz_iconst 234 dX9_next_233 rfl ci_4 ?_
      refine rz_icmp_ge 260 237 dX9_next_234 rfl rfl ?_ ?_
      · exact rz_sub [0] rfl (rX9_next_260 v d r210 h210 l0)
      · refine rz_aload_n 238 0 dX9_next_237 rfl rfl ?_
        refine rz_bipush 240 dX9_next_238 rfl cb_10 ?_
        refine rz_aload_n 241 0 dX9_next_240 rfl rfl ?_
        refine rz_gI 244 dX9_next_241 rfl rfl fl_X9_132 (fun x6 => ?_)
        refine rz_imul 245 dX9_next_244 rfl ?_
        refine rz_aload_n 246 0 dX9_next_245 rfl rfl ?_
        refine rz_aload_n 247 0 dX9_next_246 rfl rfl ?_
        refine rz_gI 250 dX9_next_247 rfl rfl fl_X9_104 (fun x7 => ?_)
        refine rz_callV 253 dX9_next_250 rfl (tX9_look2 v (d + 0) l0 x7) rfl rfl rfl rfl ml_X9_110 im_X9_look2 se_X9_X9_look2 in_X9 co_X9_look2 rfl rfl (fun x8 => ?_)
        refine rz_iadd 254 dX9_next_253 rfl ?_
        refine rz_bipush 256 dX9_next_254 rfl cb_48 ?_
        refine rz_isub 257 dX9_next_256 rfl ?_
        refine rz_pI 260 dX9_next_257 rfl rfl rfl rfl fl_X9_132 ?_
        exact rz_sub [0] rfl (rX9_next_260 v d r210 h210 l0)
def fX9_next_182 (l0 : Nat) : mM Unit := bGI 9 l0 16 (fun x1 => bGI 9 l0 15 (fun x2 => bPI 9 l0 18 (x1 - x2) (bRet ())))
set_option maxRecDepth 20000 in
theorem rX9_next_182 (v : mE) (d : Nat) (l0 : Nat) : Rz v RX9 cX9_next 2 none false emU (d + 1) 182 [(0, vR l0)] [] (fX9_next_182 l0) := by
  unfold fX9_next_182
  refine rz_aload_n 183 0 dX9_next_182 rfl rfl ?_
  refine rz_aload_n 184 0 dX9_next_183 rfl rfl ?_
  refine rz_gI 187 dX9_next_184 rfl rfl fl_X9_104 (fun x1 => ?_)
  refine rz_aload_n 188 0 dX9_next_187 rfl rfl ?_
  refine rz_gI 191 dX9_next_188 rfl rfl fl_X9_107 (fun x2 => ?_)
  refine rz_isub 192 dX9_next_191 rfl ?_
  refine rz_pI 195 dX9_next_192 rfl rfl rfl rfl fl_X9_126 ?_
  refine rz_goto 330 dX9_next_195 rfl ?_
  exact rz_return rfl rfl dX9_next_330
def fX9_next_166 (r109 : Nat → mM Unit) (l0 : Nat) (s0 : Int64) (s1 : Nat) : mM Unit := bPL 9 s1 22 s0 (bGI 9 l0 16 (fun x1 => bPI 9 l0 16 (x1 + (1 : Int32)) (r109 l0)))
set_option maxRecDepth 20000 in
theorem rX9_next_166 (v : mE) (d : Nat) (r109 : Nat → mM Unit) (h109 : ∀ (y0 : Nat), Rz v RX9 cX9_next 2 none false emU (d + 1) 109 [(0, vR y0)] [] (r109 y0)) (l0 : Nat) (s0 : Int64) (s1 : Nat) : Rz v RX9 cX9_next 2 none false emU (d + 1) 166 [(0, vR l0)] [vL s0, vR s1] (fX9_next_166 r109 l0 s0 s1) := by
  unfold fX9_next_166
  refine rz_pL 169 dX9_next_166 rfl rfl rfl fl_X9_119 ?_
  refine rz_aload_n 170 0 dX9_next_169 rfl rfl ?_
  refine rz_dup 171 dX9_next_170 rfl rfl ?_
  refine rz_gI 174 dX9_next_171 rfl rfl fl_X9_104 (fun x1 => ?_)
  refine rz_iconst 175 dX9_next_174 rfl ci_1 ?_
  refine rz_iadd 176 dX9_next_175 rfl ?_
  refine rz_pI 179 dX9_next_176 rfl rfl rfl rfl fl_X9_104 ?_
  refine rz_goto 109 dX9_next_179 rfl ?_
  exact rz_sub [0] rfl (h109 l0)
def fX9_next_109 : Nat → Nat → mM Unit
  | 0 => fun _ => fun _ => none
  | n + 1 => fun l0 => let r109 := fX9_next_109 n; bGI 9 l0 16 (fun x1 => bCallV 9 l0 (fX9_look2 l0 x1) (fun x2 => bCall (fX9_isLetter x2) (fun x3 => bIf (x3 = 0) (fX9_next_182 l0) (bGI 9 l0 16 (fun x4 => bGI 9 l0 15 (fun x5 => bIf ((8 : Int32) ≤ (x4 - x5)) (fX9_next_166 r109 l0 (-1 : Int64) l0) (bGL 9 l0 22 (fun x6 => bGI 9 l0 16 (fun x7 => bCallV 9 l0 (fX9_look2 l0 x7) (fun x8 => fX9_next_166 r109 l0 (((x6 * (32 : Int64)) + (Int32.toInt64 x8)) - (96 : Int64)) l0))))))))))
theorem qX9_next_109  (n : Nat) (l0 : Nat) : fX9_next_109 (n + 1) l0 = bGI 9 l0 16 (fun x1 => bCallV 9 l0 (fX9_look2 l0 x1) (fun x2 => bCall (fX9_isLetter x2) (fun x3 => bIf (x3 = 0) (fX9_next_182 l0) (bGI 9 l0 16 (fun x4 => bGI 9 l0 15 (fun x5 => bIf ((8 : Int32) ≤ (x4 - x5)) (fX9_next_166 (fX9_next_109 n) l0 (-1 : Int64) l0) (bGL 9 l0 22 (fun x6 => bGI 9 l0 16 (fun x7 => bCallV 9 l0 (fX9_look2 l0 x7) (fun x8 => fX9_next_166 (fX9_next_109 n) l0 (((x6 * (32 : Int64)) + (Int32.toInt64 x8)) - (96 : Int64)) l0)))))))))) := rfl
set_option maxRecDepth 20000 in
theorem rX9_next_109 (v : mE) (d : Nat) : ∀ (n : Nat) (l0 : Nat), Rz v RX9 cX9_next 2 none false emU (d + 1) 109 [(0, vR l0)] [] (fX9_next_109 n l0)
  | 0, _ => fun _ _ _ hm => by cases hm
  | n + 1, l0 => by
    have h109 := rX9_next_109 v d n
    unfold fX9_next_109
    generalize fX9_next_109 n = r109 at h109 ⊢
    refine rz_aload_n 110 0 dX9_next_109 rfl rfl ?_
    refine rz_aload_n 111 0 dX9_next_110 rfl rfl ?_
    refine rz_gI 114 dX9_next_111 rfl rfl fl_X9_104 (fun x1 => ?_)
    refine rz_callV 117 dX9_next_114 rfl (tX9_look2 v (d + 0) l0 x1) rfl rfl rfl rfl ml_X9_110 im_X9_look2 se_X9_X9_look2 in_X9 co_X9_look2 rfl rfl (fun x2 => ?_)
    refine rz_callS 120 dX9_next_117 rfl (tX9_isLetter v (d + 0) x2) rfl rfl ml_X9_116 sm_X9_isLetter in_X9 co_X9_isLetter rfl rfl (fun x3 => ?_)
    refine rz_if_eq 182 123 dX9_next_120 rfl rfl ?_ ?_
    · exact rz_sub [0] rfl (rX9_next_182 v d l0)
    · refine rz_aload_n 124 0 dX9_next_123 rfl rfl ?_
      refine rz_aload_n 125 0 dX9_next_124 rfl rfl ?_
      refine rz_gI 128 dX9_next_125 rfl rfl fl_X9_104 (fun x4 => ?_)
      refine rz_aload_n 129 0 dX9_next_128 rfl rfl ?_
      refine rz_gI 132 dX9_next_129 rfl rfl fl_X9_107 (fun x5 => ?_)
      refine rz_isub 133 dX9_next_132 rfl ?_
      refine rz_bipush 135 dX9_next_133 rfl cb_8 ?_
      refine rz_icmp_ge 163 138 dX9_next_135 rfl rfl ?_ ?_
      · refine rz_ldc2 166 dX9_next_163 rfl cu_X9_93 ?_
        exact rz_sub [0] rfl (rX9_next_166 v d r109 h109 l0 (-1 : Int64) l0)
      · refine rz_aload_n 139 0 dX9_next_138 rfl rfl ?_
        refine rz_gL 142 dX9_next_139 rfl rfl fl_X9_119 (fun x6 => ?_)
        refine rz_ldc2 145 dX9_next_142 rfl cu_X9_122 ?_
        refine rz_lmul 146 dX9_next_145 rfl ?_
        refine rz_aload_n 147 0 dX9_next_146 rfl rfl ?_
        refine rz_aload_n 148 0 dX9_next_147 rfl rfl ?_
        refine rz_gI 151 dX9_next_148 rfl rfl fl_X9_104 (fun x7 => ?_)
        refine rz_callV 154 dX9_next_151 rfl (tX9_look2 v (d + 0) l0 x7) rfl rfl rfl rfl ml_X9_110 im_X9_look2 se_X9_X9_look2 in_X9 co_X9_look2 rfl rfl (fun x8 => ?_)
        refine rz_i2l 155 dX9_next_154 rfl ?_
        refine rz_ladd 156 dX9_next_155 rfl ?_
        refine rz_ldc2 159 dX9_next_156 rfl cu_X9_124 ?_
        refine rz_lsub 160 dX9_next_159 rfl ?_
        refine rz_goto 166 dX9_next_160 rfl ?_
        exact rz_sub [0] rfl (rX9_next_166 v d r109 h109 l0 (((x6 * (32 : Int64)) + (Int32.toInt64 x8)) - (96 : Int64)) l0)
def fX9_next_58 (l0 : Nat) : mM Unit := bGI 9 l0 15 (fun x1 => bPI 9 l0 16 x1 (bGI 9 l0 15 (fun x2 => bGI 9 l0 9 (fun x3 => bIf (x2 < x3) (bGI 9 l0 15 (fun x4 => bCallV 9 l0 (fX9_look2 l0 x4) (fun x5 => bCall (fX9_isLetter x5) (fun x6 => bIf (x6 = 0) (bCall (fX9_isDigit x5) (fun x7 => bIf (x7 = 0) (bGI 9 l0 15 (fun x8 => bPI 9 l0 16 (x8 + (1 : Int32)) (bPI 9 l0 17 x5 (bCallV 9 l0 (fX9_isSignByte l0 x5) (fun x9 => bIf (x9 = 0) (bPI 9 l0 14 (4 : Int32) (bRet ())) (bPI 9 l0 14 (3 : Int32) (bRet ()))))))) (bPI 9 l0 17 (0 : Int32) (fX9_next_210 fu l0)))) (bPI 9 l0 14 (1 : Int32) (bPL 9 l0 22 (0 : Int64) (fX9_next_109 fu l0))))))) (bPI 9 l0 14 (0 : Int32) (bRet ()))))))
set_option maxRecDepth 20000 in
theorem rX9_next_58 (v : mE) (d : Nat) (l0 : Nat) : Rz v RX9 cX9_next 2 none false emU (d + 1) 58 [(0, vR l0)] [] (fX9_next_58 l0) := by
  unfold fX9_next_58
  refine rz_aload_n 59 0 dX9_next_58 rfl rfl ?_
  refine rz_aload_n 60 0 dX9_next_59 rfl rfl ?_
  refine rz_gI 63 dX9_next_60 rfl rfl fl_X9_107 (fun x1 => ?_)
  refine rz_pI 66 dX9_next_63 rfl rfl rfl rfl fl_X9_104 ?_
  refine rz_aload_n 67 0 dX9_next_66 rfl rfl ?_
  refine rz_gI 70 dX9_next_67 rfl rfl fl_X9_107 (fun x2 => ?_)
  refine rz_aload_n 71 0 dX9_next_70 rfl rfl ?_
  refine rz_gI 74 dX9_next_71 rfl rfl fl_X9_101 (fun x3 => ?_)
  refine rz_icmp_lt 83 77 dX9_next_74 rfl rfl ?_ ?_
  · refine rz_aload_n 84 0 dX9_next_83 rfl rfl ?_
    refine rz_aload_n 85 0 dX9_next_84 rfl rfl ?_
    refine rz_gI 88 dX9_next_85 rfl rfl fl_X9_107 (fun x4 => ?_)
    refine rz_callV 91 dX9_next_88 rfl (tX9_look2 v (d + 0) l0 x4) rfl rfl rfl rfl ml_X9_110 im_X9_look2 se_X9_X9_look2 in_X9 co_X9_look2 rfl rfl (fun x5 => ?_)
    refine rz_istore_n (lv' := [(1, vI x5), (0, vR l0)]) 92 dX9_next_91 rfl rfl rfl ?_
    refine rz_iload_n 93 0 dX9_next_92 rfl rfl ?_
    refine rz_callS 96 dX9_next_93 rfl (tX9_isLetter v (d + 0) x5) rfl rfl ml_X9_116 sm_X9_isLetter in_X9 co_X9_isLetter rfl rfl (fun x6 => ?_)
    refine rz_if_eq 198 99 dX9_next_96 rfl rfl ?_ ?_
    · refine rz_iload_n 199 0 dX9_next_198 rfl rfl ?_
      refine rz_callS 202 dX9_next_199 rfl (tX9_isDigit v (d + 0) x5) rfl rfl ml_X9_129 sm_X9_isDigit in_X9 co_X9_isDigit rfl rfl (fun x7 => ?_)
      refine rz_if_eq 298 205 dX9_next_202 rfl rfl ?_ ?_
      · refine rz_aload_n 299 1 dX9_next_298 rfl rfl ?_
        refine rz_aload_n 300 1 dX9_next_299 rfl rfl ?_
        refine rz_gI 303 dX9_next_300 rfl rfl fl_X9_107 (fun x8 => ?_)
        refine rz_iconst 304 dX9_next_303 rfl ci_1 ?_
        refine rz_iadd 305 dX9_next_304 rfl ?_
        refine rz_pI 308 dX9_next_305 rfl rfl rfl rfl fl_X9_104 ?_
        refine rz_aload_n 309 1 dX9_next_308 rfl rfl ?_
        refine rz_iload_n 310 0 dX9_next_309 rfl rfl ?_
        refine rz_pI 313 dX9_next_310 rfl rfl rfl rfl fl_X9_132 ?_
        refine rz_aload_n 314 1 dX9_next_313 rfl rfl ?_
        refine rz_aload_n 315 1 dX9_next_314 rfl rfl ?_
        refine rz_iload_n 316 0 dX9_next_315 rfl rfl ?_
        refine rz_callV 319 dX9_next_316 rfl (tX9_isSignByte v (d + 0) l0 x5) rfl rfl rfl rfl ml_X9_135 im_X9_isSignByte se_X9_X9_isSignByte in_X9 co_X9_isSignByte rfl rfl (fun x9 => ?_)
        refine rz_if_eq 326 322 dX9_next_319 rfl rfl ?_ ?_
        · refine rz_iconst 327 dX9_next_326 rfl ci_4 ?_
          refine rz_pI 330 dX9_next_327 rfl rfl rfl rfl fl_X9_113 ?_
          exact rz_return rfl rfl dX9_next_330
        · refine rz_iconst 323 dX9_next_322 rfl ci_3 ?_
          refine rz_goto 327 dX9_next_323 rfl ?_
          refine rz_pI 330 dX9_next_327 rfl rfl rfl rfl fl_X9_113 ?_
          exact rz_return rfl rfl dX9_next_330
      · refine rz_aload_n 206 1 dX9_next_205 rfl rfl ?_
        refine rz_iconst 207 dX9_next_206 rfl ci_0 ?_
        refine rz_pI 210 dX9_next_207 rfl rfl rfl rfl fl_X9_132 ?_
        exact rz_sub [1] rfl (rX9_next_210 v d fu l0)
    · refine rz_aload_n 100 1 dX9_next_99 rfl rfl ?_
      refine rz_iconst 101 dX9_next_100 rfl ci_1 ?_
      refine rz_pI 104 dX9_next_101 rfl rfl rfl rfl fl_X9_113 ?_
      refine rz_aload_n 105 1 dX9_next_104 rfl rfl ?_
      refine rz_lconst 106 dX9_next_105 rfl cl_0 ?_
      refine rz_pL 109 dX9_next_106 rfl rfl rfl fl_X9_119 ?_
      exact rz_sub [1] rfl (rX9_next_109 v d fu l0)
  · refine rz_aload_n 78 0 dX9_next_77 rfl rfl ?_
    refine rz_iconst 79 dX9_next_78 rfl ci_0 ?_
    refine rz_pI 82 dX9_next_79 rfl rfl rfl rfl fl_X9_113 ?_
    exact rz_return rfl rfl dX9_next_82
def fX9_next_45 (r8 : Nat → mM Unit) (l0 : Nat) : mM Unit := bGI 9 l0 15 (fun x1 => bPI 9 l0 15 (x1 + (1 : Int32)) (r8 l0))
set_option maxRecDepth 20000 in
theorem rX9_next_45 (v : mE) (d : Nat) (r8 : Nat → mM Unit) (h8 : ∀ (y0 : Nat), Rz v RX9 cX9_next 2 none false emU (d + 1) 8 [(0, vR y0)] [] (r8 y0)) (l0 : Nat) : Rz v RX9 cX9_next 2 none false emU (d + 1) 45 [(0, vR l0)] [] (fX9_next_45 r8 l0) := by
  unfold fX9_next_45
  refine rz_aload_n 46 0 dX9_next_45 rfl rfl ?_
  refine rz_dup 47 dX9_next_46 rfl rfl ?_
  refine rz_gI 50 dX9_next_47 rfl rfl fl_X9_107 (fun x1 => ?_)
  refine rz_iconst 51 dX9_next_50 rfl ci_1 ?_
  refine rz_iadd 52 dX9_next_51 rfl ?_
  refine rz_pI 55 dX9_next_52 rfl rfl rfl rfl fl_X9_107 ?_
  refine rz_goto 8 dX9_next_55 rfl ?_
  exact rz_sub [0] rfl (h8 l0)
def fX9_next_8 : Nat → Nat → mM Unit
  | 0 => fun _ => fun _ => none
  | n + 1 => fun l0 => let r8 := fX9_next_8 n; bGI 9 l0 15 (fun x1 => bGI 9 l0 9 (fun x2 => bIf (x2 ≤ x1) (fX9_next_58 l0) (bGI 9 l0 15 (fun x3 => bCallV 9 l0 (fX9_look2 l0 x3) (fun x4 => bIf (x4 = (10 : Int32)) (fX9_next_45 r8 l0) (bGI 9 l0 15 (fun x5 => bCallV 9 l0 (fX9_look2 l0 x5) (fun x6 => bIf (x6 = (32 : Int32)) (fX9_next_45 r8 l0) (fX9_next_58 l0)))))))))
theorem qX9_next_8  (n : Nat) (l0 : Nat) : fX9_next_8 (n + 1) l0 = bGI 9 l0 15 (fun x1 => bGI 9 l0 9 (fun x2 => bIf (x2 ≤ x1) (fX9_next_58 l0) (bGI 9 l0 15 (fun x3 => bCallV 9 l0 (fX9_look2 l0 x3) (fun x4 => bIf (x4 = (10 : Int32)) (fX9_next_45 (fX9_next_8 n) l0) (bGI 9 l0 15 (fun x5 => bCallV 9 l0 (fX9_look2 l0 x5) (fun x6 => bIf (x6 = (32 : Int32)) (fX9_next_45 (fX9_next_8 n) l0) (fX9_next_58 l0))))))))) := rfl
set_option maxRecDepth 20000 in
theorem rX9_next_8 (v : mE) (d : Nat) : ∀ (n : Nat) (l0 : Nat), Rz v RX9 cX9_next 2 none false emU (d + 1) 8 [(0, vR l0)] [] (fX9_next_8 n l0)
  | 0, _ => fun _ _ _ hm => by cases hm
  | n + 1, l0 => by
    have h8 := rX9_next_8 v d n
    unfold fX9_next_8
    generalize fX9_next_8 n = r8 at h8 ⊢
    refine rz_aload_n 9 0 dX9_next_8 rfl rfl ?_
    refine rz_gI 12 dX9_next_9 rfl rfl fl_X9_107 (fun x1 => ?_)
    refine rz_aload_n 13 0 dX9_next_12 rfl rfl ?_
    refine rz_gI 16 dX9_next_13 rfl rfl fl_X9_101 (fun x2 => ?_)
    refine rz_icmp_ge 58 19 dX9_next_16 rfl rfl ?_ ?_
    · exact rz_sub [0] rfl (rX9_next_58 v d l0)
    · refine rz_aload_n 20 0 dX9_next_19 rfl rfl ?_
      refine rz_aload_n 21 0 dX9_next_20 rfl rfl ?_
      refine rz_gI 24 dX9_next_21 rfl rfl fl_X9_107 (fun x3 => ?_)
      refine rz_callV 27 dX9_next_24 rfl (tX9_look2 v (d + 0) l0 x3) rfl rfl rfl rfl ml_X9_110 im_X9_look2 se_X9_X9_look2 in_X9 co_X9_look2 rfl rfl (fun x4 => ?_)
      refine rz_bipush 29 dX9_next_27 rfl cb_10 ?_
      refine rz_icmp_eq 45 32 dX9_next_29 rfl rfl ?_ ?_
      · exact rz_sub [0] rfl (rX9_next_45 v d r8 h8 l0)
      · refine rz_aload_n 33 0 dX9_next_32 rfl rfl ?_
        refine rz_aload_n 34 0 dX9_next_33 rfl rfl ?_
        refine rz_gI 37 dX9_next_34 rfl rfl fl_X9_107 (fun x5 => ?_)
        refine rz_callV 40 dX9_next_37 rfl (tX9_look2 v (d + 0) l0 x5) rfl rfl rfl rfl ml_X9_110 im_X9_look2 se_X9_X9_look2 in_X9 co_X9_look2 rfl rfl (fun x6 => ?_)
        refine rz_bipush 42 dX9_next_40 rfl cb_32 ?_
        refine rz_icmp_ne 58 45 dX9_next_42 rfl rfl ?_ ?_
        · exact rz_sub [0] rfl (rX9_next_58 v d l0)
        · exact rz_sub [0] rfl (rX9_next_45 v d r8 h8 l0)
def fX9_next (l0 : Nat) : mM Unit := bGI 9 l0 16 (fun x1 => bPI 9 l0 15 x1 (fX9_next_8 fu l0))
set_option maxRecDepth 20000 in
theorem rX9_next (v : mE) (d : Nat) (l0 : Nat) : Rz v RX9 cX9_next 2 none false emU (d + 1) 0 [(0, vR l0)] [] (fX9_next l0) := by
  unfold fX9_next
  refine rz_aload_n 1 0 dX9_next_0 rfl rfl ?_
  refine rz_aload_n 2 0 dX9_next_1 rfl rfl ?_
  refine rz_gI 5 dX9_next_2 rfl rfl fl_X9_104 (fun x1 => ?_)
  refine rz_pI 8 dX9_next_5 rfl rfl rfl rfl fl_X9_107 ?_
  exact rz_sub [0] rfl (rX9_next_8 v d fu l0)
theorem tX9_next (v : mE) (d : Nat) (l0 : Nat) : Mt v yX9_next cX9_next 2 none emU (d + 1) [vR l0] (fX9_next l0) := mt_of rfl rfl (fun h => by cases h) rfl rfl (rX9_next v d l0)
theorem dX9_isSign_0 : decode cX9_isSign 0 = .ok (.aload_n 0, 1) := by decide +kernel
theorem dX9_isSign_1 : decode cX9_isSign 1 = .ok (.getfield 113, 3) := by decide +kernel
theorem dX9_isSign_4 : decode cX9_isSign 4 = .ok (.iconst 3, 1) := by decide +kernel
theorem dX9_isSign_5 : decode cX9_isSign 5 = .ok (.if_icmp .ne 15, 3) := by decide +kernel
theorem dX9_isSign_8 : decode cX9_isSign 8 = .ok (.aload_n 0, 1) := by decide +kernel
theorem dX9_isSign_9 : decode cX9_isSign 9 = .ok (.getfield 132, 3) := by decide +kernel
theorem dX9_isSign_12 : decode cX9_isSign 12 = .ok (.iload_n 1, 1) := by decide +kernel
theorem dX9_isSign_13 : decode cX9_isSign 13 = .ok (.if_icmp .ne 7, 3) := by decide +kernel
theorem dX9_isSign_16 : decode cX9_isSign 16 = .ok (.iconst 1, 1) := by decide +kernel
theorem dX9_isSign_17 : decode cX9_isSign 17 = .ok (.goto 4, 3) := by decide +kernel
theorem dX9_isSign_20 : decode cX9_isSign 20 = .ok (.iconst 0, 1) := by decide +kernel
theorem dX9_isSign_21 : decode cX9_isSign 21 = .ok (.ireturn, 1) := by decide +kernel
def fX9_isSign (l0 : Nat) (l1 : Int32) : mM Int32 := bGI 9 l0 14 (fun x1 => bIf (x1 = (3 : Int32)) (bGI 9 l0 17 (fun x2 => bIf (x2 = l1) (bRetZ (1 : Int32)) (bRetZ (0 : Int32)))) (bRetZ (0 : Int32)))
set_option maxRecDepth 20000 in
theorem rX9_isSign (v : mE) (d : Nat) (l0 : Nat) (l1 : Int32) : Rz v RX9 cX9_isSign 2 (some .boolean) false emI (d + 0) 0 [(0, vR l0), (1, vI l1)] [] (fX9_isSign l0 l1) := by
  unfold fX9_isSign
  refine rz_aload_n 1 0 dX9_isSign_0 rfl rfl ?_
  refine rz_gI 4 dX9_isSign_1 rfl rfl fl_X9_113 (fun x1 => ?_)
  refine rz_iconst 5 dX9_isSign_4 rfl ci_3 ?_
  refine rz_icmp_ne 20 8 dX9_isSign_5 rfl rfl ?_ ?_
  · refine rz_iconst 21 dX9_isSign_20 rfl ci_0 ?_
    exact rz_zreturn rfl rfl dX9_isSign_21
  · refine rz_aload_n 9 0 dX9_isSign_8 rfl rfl ?_
    refine rz_gI 12 dX9_isSign_9 rfl rfl fl_X9_132 (fun x2 => ?_)
    refine rz_iload_n 13 1 dX9_isSign_12 rfl rfl ?_
    refine rz_icmp_ne 20 16 dX9_isSign_13 rfl rfl ?_ ?_
    · refine rz_iconst 21 dX9_isSign_20 rfl ci_0 ?_
      exact rz_zreturn rfl rfl dX9_isSign_21
    · refine rz_iconst 17 dX9_isSign_16 rfl ci_1 ?_
      refine rz_goto 21 dX9_isSign_17 rfl ?_
      exact rz_zreturn rfl rfl dX9_isSign_21
theorem tX9_isSign (v : mE) (d : Nat) (l0 : Nat) (l1 : Int32) : Mt v yX9_isSign cX9_isSign 2 (some .boolean) emI (d + 0) [vR l0, vI l1] (fX9_isSign l0 l1) := mt_of rfl rfl (fun h => by cases h) rfl rfl (rX9_isSign v d l0 l1)
theorem dX9_spelled_0 : decode cX9_spelled 0 = .ok (.iload_n 0, 1) := by decide +kernel
theorem dX9_spelled_1 : decode cX9_spelled 1 = .ok (.i2l, 1) := by decide +kernel
theorem dX9_spelled_2 : decode cX9_spelled 2 = .ok (.ldc2_w 124, 3) := by decide +kernel
theorem dX9_spelled_5 : decode cX9_spelled 5 = .ok (.lsub, 1) := by decide +kernel
theorem dX9_spelled_6 : decode cX9_spelled 6 = .ok (.ldc2_w 122, 3) := by decide +kernel
theorem dX9_spelled_9 : decode cX9_spelled 9 = .ok (.lmul, 1) := by decide +kernel
theorem dX9_spelled_10 : decode cX9_spelled 10 = .ok (.iload_n 1, 1) := by decide +kernel
theorem dX9_spelled_11 : decode cX9_spelled 11 = .ok (.i2l, 1) := by decide +kernel
theorem dX9_spelled_12 : decode cX9_spelled 12 = .ok (.ladd, 1) := by decide +kernel
theorem dX9_spelled_13 : decode cX9_spelled 13 = .ok (.ldc2_w 124, 3) := by decide +kernel
theorem dX9_spelled_16 : decode cX9_spelled 16 = .ok (.lsub, 1) := by decide +kernel
theorem dX9_spelled_17 : decode cX9_spelled 17 = .ok (.lstore 6, 2) := by decide +kernel
theorem dX9_spelled_19 : decode cX9_spelled 19 = .ok (.iload_n 2, 1) := by decide +kernel
theorem dX9_spelled_20 : decode cX9_spelled 20 = .ok (.ifCond .le 19, 3) := by decide +kernel
theorem dX9_spelled_23 : decode cX9_spelled 23 = .ok (.lload 6, 2) := by decide +kernel
theorem dX9_spelled_25 : decode cX9_spelled 25 = .ok (.ldc2_w 122, 3) := by decide +kernel
theorem dX9_spelled_28 : decode cX9_spelled 28 = .ok (.lmul, 1) := by decide +kernel
theorem dX9_spelled_29 : decode cX9_spelled 29 = .ok (.iload_n 2, 1) := by decide +kernel
theorem dX9_spelled_30 : decode cX9_spelled 30 = .ok (.i2l, 1) := by decide +kernel
theorem dX9_spelled_31 : decode cX9_spelled 31 = .ok (.ladd, 1) := by decide +kernel
theorem dX9_spelled_32 : decode cX9_spelled 32 = .ok (.ldc2_w 124, 3) := by decide +kernel
theorem dX9_spelled_35 : decode cX9_spelled 35 = .ok (.lsub, 1) := by decide +kernel
theorem dX9_spelled_36 : decode cX9_spelled 36 = .ok (.goto 5, 3) := by decide +kernel
theorem dX9_spelled_39 : decode cX9_spelled 39 = .ok (.lload 6, 2) := by decide +kernel
theorem dX9_spelled_41 : decode cX9_spelled 41 = .ok (.lstore 6, 2) := by decide +kernel
theorem dX9_spelled_43 : decode cX9_spelled 43 = .ok (.iload_n 3, 1) := by decide +kernel
theorem dX9_spelled_44 : decode cX9_spelled 44 = .ok (.ifCond .le 19, 3) := by decide +kernel
theorem dX9_spelled_47 : decode cX9_spelled 47 = .ok (.lload 6, 2) := by decide +kernel
theorem dX9_spelled_49 : decode cX9_spelled 49 = .ok (.ldc2_w 122, 3) := by decide +kernel
theorem dX9_spelled_52 : decode cX9_spelled 52 = .ok (.lmul, 1) := by decide +kernel
theorem dX9_spelled_53 : decode cX9_spelled 53 = .ok (.iload_n 3, 1) := by decide +kernel
theorem dX9_spelled_54 : decode cX9_spelled 54 = .ok (.i2l, 1) := by decide +kernel
theorem dX9_spelled_55 : decode cX9_spelled 55 = .ok (.ladd, 1) := by decide +kernel
theorem dX9_spelled_56 : decode cX9_spelled 56 = .ok (.ldc2_w 124, 3) := by decide +kernel
theorem dX9_spelled_59 : decode cX9_spelled 59 = .ok (.lsub, 1) := by decide +kernel
theorem dX9_spelled_60 : decode cX9_spelled 60 = .ok (.goto 5, 3) := by decide +kernel
theorem dX9_spelled_63 : decode cX9_spelled 63 = .ok (.lload 6, 2) := by decide +kernel
theorem dX9_spelled_65 : decode cX9_spelled 65 = .ok (.lstore 6, 2) := by decide +kernel
theorem dX9_spelled_67 : decode cX9_spelled 67 = .ok (.iload 4, 2) := by decide +kernel
theorem dX9_spelled_69 : decode cX9_spelled 69 = .ok (.ifCond .le 20, 3) := by decide +kernel
theorem dX9_spelled_72 : decode cX9_spelled 72 = .ok (.lload 6, 2) := by decide +kernel
theorem dX9_spelled_74 : decode cX9_spelled 74 = .ok (.ldc2_w 122, 3) := by decide +kernel
theorem dX9_spelled_77 : decode cX9_spelled 77 = .ok (.lmul, 1) := by decide +kernel
theorem dX9_spelled_78 : decode cX9_spelled 78 = .ok (.iload 4, 2) := by decide +kernel
theorem dX9_spelled_80 : decode cX9_spelled 80 = .ok (.i2l, 1) := by decide +kernel
theorem dX9_spelled_81 : decode cX9_spelled 81 = .ok (.ladd, 1) := by decide +kernel
theorem dX9_spelled_82 : decode cX9_spelled 82 = .ok (.ldc2_w 124, 3) := by decide +kernel
theorem dX9_spelled_85 : decode cX9_spelled 85 = .ok (.lsub, 1) := by decide +kernel
theorem dX9_spelled_86 : decode cX9_spelled 86 = .ok (.goto 5, 3) := by decide +kernel
theorem dX9_spelled_89 : decode cX9_spelled 89 = .ok (.lload 6, 2) := by decide +kernel
theorem dX9_spelled_91 : decode cX9_spelled 91 = .ok (.lstore 6, 2) := by decide +kernel
theorem dX9_spelled_93 : decode cX9_spelled 93 = .ok (.iload 5, 2) := by decide +kernel
theorem dX9_spelled_95 : decode cX9_spelled 95 = .ok (.ifCond .le 20, 3) := by decide +kernel
theorem dX9_spelled_98 : decode cX9_spelled 98 = .ok (.lload 6, 2) := by decide +kernel
theorem dX9_spelled_100 : decode cX9_spelled 100 = .ok (.ldc2_w 122, 3) := by decide +kernel
theorem dX9_spelled_103 : decode cX9_spelled 103 = .ok (.lmul, 1) := by decide +kernel
theorem dX9_spelled_104 : decode cX9_spelled 104 = .ok (.iload 5, 2) := by decide +kernel
theorem dX9_spelled_106 : decode cX9_spelled 106 = .ok (.i2l, 1) := by decide +kernel
theorem dX9_spelled_107 : decode cX9_spelled 107 = .ok (.ladd, 1) := by decide +kernel
theorem dX9_spelled_108 : decode cX9_spelled 108 = .ok (.ldc2_w 124, 3) := by decide +kernel
theorem dX9_spelled_111 : decode cX9_spelled 111 = .ok (.lsub, 1) := by decide +kernel
theorem dX9_spelled_112 : decode cX9_spelled 112 = .ok (.goto 5, 3) := by decide +kernel
theorem dX9_spelled_115 : decode cX9_spelled 115 = .ok (.lload 6, 2) := by decide +kernel
theorem dX9_spelled_117 : decode cX9_spelled 117 = .ok (.lreturn, 1) := by decide +kernel
def fX9_spelled_91 (l5 : Int32) (s0 : Int64) : mM Int64 := bIf (l5 ≤ 0) (bRet s0) (bRet (((s0 * (32 : Int64)) + (Int32.toInt64 l5)) - (96 : Int64)))
set_option maxRecDepth 20000 in
theorem rX9_spelled_91 (v : mE) (d : Nat) (l5 : Int32) (s0 : Int64) : Rz v RX9 cX9_spelled 8 (some .long) false emL (d + 0) 91 [(5, vI l5)] [vL s0] (fX9_spelled_91 l5 s0) := by
  unfold fX9_spelled_91
  refine rz_lstore (lv' := [(6, vL s0), (5, vI l5)]) 93 dX9_spelled_91 rfl rfl rfl ?_
  refine rz_iload 95 1 dX9_spelled_93 rfl rfl ?_
  refine rz_if_le 115 98 dX9_spelled_95 rfl rfl ?_ ?_
  · refine rz_lload 117 0 dX9_spelled_115 rfl rfl ?_
    exact rz_lreturn rfl rfl dX9_spelled_117
  · refine rz_lload 100 0 dX9_spelled_98 rfl rfl ?_
    refine rz_ldc2 103 dX9_spelled_100 rfl cu_X9_122 ?_
    refine rz_lmul 104 dX9_spelled_103 rfl ?_
    refine rz_iload 106 1 dX9_spelled_104 rfl rfl ?_
    refine rz_i2l 107 dX9_spelled_106 rfl ?_
    refine rz_ladd 108 dX9_spelled_107 rfl ?_
    refine rz_ldc2 111 dX9_spelled_108 rfl cu_X9_124 ?_
    refine rz_lsub 112 dX9_spelled_111 rfl ?_
    refine rz_goto 117 dX9_spelled_112 rfl ?_
    exact rz_lreturn rfl rfl dX9_spelled_117
def fX9_spelled_65 (l4 : Int32) (l5 : Int32) (s0 : Int64) : mM Int64 := bIf (l4 ≤ 0) (fX9_spelled_91 l5 s0) (fX9_spelled_91 l5 (((s0 * (32 : Int64)) + (Int32.toInt64 l4)) - (96 : Int64)))
set_option maxRecDepth 20000 in
theorem rX9_spelled_65 (v : mE) (d : Nat) (l4 : Int32) (l5 : Int32) (s0 : Int64) : Rz v RX9 cX9_spelled 8 (some .long) false emL (d + 0) 65 [(4, vI l4), (5, vI l5)] [vL s0] (fX9_spelled_65 l4 l5 s0) := by
  unfold fX9_spelled_65
  refine rz_lstore (lv' := [(6, vL s0), (4, vI l4), (5, vI l5)]) 67 dX9_spelled_65 rfl rfl rfl ?_
  refine rz_iload 69 1 dX9_spelled_67 rfl rfl ?_
  refine rz_if_le 89 72 dX9_spelled_69 rfl rfl ?_ ?_
  · refine rz_lload 91 0 dX9_spelled_89 rfl rfl ?_
    exact rz_sub [2] rfl (rX9_spelled_91 v d l5 s0)
  · refine rz_lload 74 0 dX9_spelled_72 rfl rfl ?_
    refine rz_ldc2 77 dX9_spelled_74 rfl cu_X9_122 ?_
    refine rz_lmul 78 dX9_spelled_77 rfl ?_
    refine rz_iload 80 1 dX9_spelled_78 rfl rfl ?_
    refine rz_i2l 81 dX9_spelled_80 rfl ?_
    refine rz_ladd 82 dX9_spelled_81 rfl ?_
    refine rz_ldc2 85 dX9_spelled_82 rfl cu_X9_124 ?_
    refine rz_lsub 86 dX9_spelled_85 rfl ?_
    refine rz_goto 91 dX9_spelled_86 rfl ?_
    exact rz_sub [2] rfl (rX9_spelled_91 v d l5 (((s0 * (32 : Int64)) + (Int32.toInt64 l4)) - (96 : Int64)))
def fX9_spelled_41 (l3 : Int32) (l4 : Int32) (l5 : Int32) (s0 : Int64) : mM Int64 := bIf (l3 ≤ 0) (fX9_spelled_65 l4 l5 s0) (fX9_spelled_65 l4 l5 (((s0 * (32 : Int64)) + (Int32.toInt64 l3)) - (96 : Int64)))
set_option maxRecDepth 20000 in
theorem rX9_spelled_41 (v : mE) (d : Nat) (l3 : Int32) (l4 : Int32) (l5 : Int32) (s0 : Int64) : Rz v RX9 cX9_spelled 8 (some .long) false emL (d + 0) 41 [(3, vI l3), (4, vI l4), (5, vI l5)] [vL s0] (fX9_spelled_41 l3 l4 l5 s0) := by
  unfold fX9_spelled_41
  refine rz_lstore (lv' := [(6, vL s0), (3, vI l3), (4, vI l4), (5, vI l5)]) 43 dX9_spelled_41 rfl rfl rfl ?_
  refine rz_iload_n 44 1 dX9_spelled_43 rfl rfl ?_
  refine rz_if_le 63 47 dX9_spelled_44 rfl rfl ?_ ?_
  · refine rz_lload 65 0 dX9_spelled_63 rfl rfl ?_
    exact rz_sub [2, 3] rfl (rX9_spelled_65 v d l4 l5 s0)
  · refine rz_lload 49 0 dX9_spelled_47 rfl rfl ?_
    refine rz_ldc2 52 dX9_spelled_49 rfl cu_X9_122 ?_
    refine rz_lmul 53 dX9_spelled_52 rfl ?_
    refine rz_iload_n 54 1 dX9_spelled_53 rfl rfl ?_
    refine rz_i2l 55 dX9_spelled_54 rfl ?_
    refine rz_ladd 56 dX9_spelled_55 rfl ?_
    refine rz_ldc2 59 dX9_spelled_56 rfl cu_X9_124 ?_
    refine rz_lsub 60 dX9_spelled_59 rfl ?_
    refine rz_goto 65 dX9_spelled_60 rfl ?_
    exact rz_sub [2, 3] rfl (rX9_spelled_65 v d l4 l5 (((s0 * (32 : Int64)) + (Int32.toInt64 l3)) - (96 : Int64)))
def fX9_spelled (l0 : Int32) (l1 : Int32) (l2 : Int32) (l3 : Int32) (l4 : Int32) (l5 : Int32) : mM Int64 := bIf (l2 ≤ 0) (fX9_spelled_41 l3 l4 l5 (((((Int32.toInt64 l0) - (96 : Int64)) * (32 : Int64)) + (Int32.toInt64 l1)) - (96 : Int64))) (fX9_spelled_41 l3 l4 l5 ((((((((Int32.toInt64 l0) - (96 : Int64)) * (32 : Int64)) + (Int32.toInt64 l1)) - (96 : Int64)) * (32 : Int64)) + (Int32.toInt64 l2)) - (96 : Int64)))
set_option maxRecDepth 20000 in
theorem rX9_spelled (v : mE) (d : Nat) (l0 : Int32) (l1 : Int32) (l2 : Int32) (l3 : Int32) (l4 : Int32) (l5 : Int32) : Rz v RX9 cX9_spelled 8 (some .long) false emL (d + 0) 0 [(0, vI l0), (1, vI l1), (2, vI l2), (3, vI l3), (4, vI l4), (5, vI l5)] [] (fX9_spelled l0 l1 l2 l3 l4 l5) := by
  unfold fX9_spelled
  refine rz_iload_n 1 0 dX9_spelled_0 rfl rfl ?_
  refine rz_i2l 2 dX9_spelled_1 rfl ?_
  refine rz_ldc2 5 dX9_spelled_2 rfl cu_X9_124 ?_
  refine rz_lsub 6 dX9_spelled_5 rfl ?_
  refine rz_ldc2 9 dX9_spelled_6 rfl cu_X9_122 ?_
  refine rz_lmul 10 dX9_spelled_9 rfl ?_
  refine rz_iload_n 11 1 dX9_spelled_10 rfl rfl ?_
  refine rz_i2l 12 dX9_spelled_11 rfl ?_
  refine rz_ladd 13 dX9_spelled_12 rfl ?_
  refine rz_ldc2 16 dX9_spelled_13 rfl cu_X9_124 ?_
  refine rz_lsub 17 dX9_spelled_16 rfl ?_
  refine rz_lstore (lv' := [(6, vL (((((Int32.toInt64 l0) - (96 : Int64)) * (32 : Int64)) + (Int32.toInt64 l1)) - (96 : Int64))), (0, vI l0), (1, vI l1), (2, vI l2), (3, vI l3), (4, vI l4), (5, vI l5)]) 19 dX9_spelled_17 rfl rfl rfl ?_
  refine rz_iload_n 20 3 dX9_spelled_19 rfl rfl ?_
  refine rz_if_le 39 23 dX9_spelled_20 rfl rfl ?_ ?_
  · refine rz_lload 41 0 dX9_spelled_39 rfl rfl ?_
    exact rz_sub [4, 5, 6] rfl (rX9_spelled_41 v d l3 l4 l5 (((((Int32.toInt64 l0) - (96 : Int64)) * (32 : Int64)) + (Int32.toInt64 l1)) - (96 : Int64)))
  · refine rz_lload 25 0 dX9_spelled_23 rfl rfl ?_
    refine rz_ldc2 28 dX9_spelled_25 rfl cu_X9_122 ?_
    refine rz_lmul 29 dX9_spelled_28 rfl ?_
    refine rz_iload_n 30 3 dX9_spelled_29 rfl rfl ?_
    refine rz_i2l 31 dX9_spelled_30 rfl ?_
    refine rz_ladd 32 dX9_spelled_31 rfl ?_
    refine rz_ldc2 35 dX9_spelled_32 rfl cu_X9_124 ?_
    refine rz_lsub 36 dX9_spelled_35 rfl ?_
    refine rz_goto 41 dX9_spelled_36 rfl ?_
    exact rz_sub [4, 5, 6] rfl (rX9_spelled_41 v d l3 l4 l5 ((((((((Int32.toInt64 l0) - (96 : Int64)) * (32 : Int64)) + (Int32.toInt64 l1)) - (96 : Int64)) * (32 : Int64)) + (Int32.toInt64 l2)) - (96 : Int64)))
theorem tX9_spelled (v : mE) (d : Nat) (l0 : Int32) (l1 : Int32) (l2 : Int32) (l3 : Int32) (l4 : Int32) (l5 : Int32) : Mt v yX9_spelled cX9_spelled 8 (some .long) emL (d + 0) [vI l0, vI l1, vI l2, vI l3, vI l4, vI l5] (fX9_spelled l0 l1 l2 l3 l4 l5) := mt_of rfl rfl (fun h => by cases h) rfl rfl (rX9_spelled v d l0 l1 l2 l3 l4 l5)
theorem dX9_longer_0 : decode cX9_longer 0 = .ok (.lload_n 0, 1) := by decide +kernel
theorem dX9_longer_1 : decode cX9_longer 1 = .ok (.ldc2_w 122, 3) := by decide +kernel
theorem dX9_longer_4 : decode cX9_longer 4 = .ok (.lmul, 1) := by decide +kernel
theorem dX9_longer_5 : decode cX9_longer 5 = .ok (.iload_n 2, 1) := by decide +kernel
theorem dX9_longer_6 : decode cX9_longer 6 = .ok (.i2l, 1) := by decide +kernel
theorem dX9_longer_7 : decode cX9_longer 7 = .ok (.ladd, 1) := by decide +kernel
theorem dX9_longer_8 : decode cX9_longer 8 = .ok (.ldc2_w 124, 3) := by decide +kernel
theorem dX9_longer_11 : decode cX9_longer 11 = .ok (.lsub, 1) := by decide +kernel
theorem dX9_longer_12 : decode cX9_longer 12 = .ok (.lstore 4, 2) := by decide +kernel
theorem dX9_longer_14 : decode cX9_longer 14 = .ok (.iload_n 3, 1) := by decide +kernel
theorem dX9_longer_15 : decode cX9_longer 15 = .ok (.ifCond .le 19, 3) := by decide +kernel
theorem dX9_longer_18 : decode cX9_longer 18 = .ok (.lload 4, 2) := by decide +kernel
theorem dX9_longer_20 : decode cX9_longer 20 = .ok (.ldc2_w 122, 3) := by decide +kernel
theorem dX9_longer_23 : decode cX9_longer 23 = .ok (.lmul, 1) := by decide +kernel
theorem dX9_longer_24 : decode cX9_longer 24 = .ok (.iload_n 3, 1) := by decide +kernel
theorem dX9_longer_25 : decode cX9_longer 25 = .ok (.i2l, 1) := by decide +kernel
theorem dX9_longer_26 : decode cX9_longer 26 = .ok (.ladd, 1) := by decide +kernel
theorem dX9_longer_27 : decode cX9_longer 27 = .ok (.ldc2_w 124, 3) := by decide +kernel
theorem dX9_longer_30 : decode cX9_longer 30 = .ok (.lsub, 1) := by decide +kernel
theorem dX9_longer_31 : decode cX9_longer 31 = .ok (.goto 5, 3) := by decide +kernel
theorem dX9_longer_34 : decode cX9_longer 34 = .ok (.lload 4, 2) := by decide +kernel
theorem dX9_longer_36 : decode cX9_longer 36 = .ok (.lreturn, 1) := by decide +kernel
def fX9_longer (l0 : Int64) (l2 : Int32) (l3 : Int32) : mM Int64 := bIf (l3 ≤ 0) (bRet (((l0 * (32 : Int64)) + (Int32.toInt64 l2)) - (96 : Int64))) (bRet ((((((l0 * (32 : Int64)) + (Int32.toInt64 l2)) - (96 : Int64)) * (32 : Int64)) + (Int32.toInt64 l3)) - (96 : Int64)))
set_option maxRecDepth 20000 in
theorem rX9_longer (v : mE) (d : Nat) (l0 : Int64) (l2 : Int32) (l3 : Int32) : Rz v RX9 cX9_longer 6 (some .long) false emL (d + 0) 0 [(0, vL l0), (2, vI l2), (3, vI l3)] [] (fX9_longer l0 l2 l3) := by
  unfold fX9_longer
  refine rz_lload_n 1 0 dX9_longer_0 rfl rfl ?_
  refine rz_ldc2 4 dX9_longer_1 rfl cu_X9_122 ?_
  refine rz_lmul 5 dX9_longer_4 rfl ?_
  refine rz_iload_n 6 1 dX9_longer_5 rfl rfl ?_
  refine rz_i2l 7 dX9_longer_6 rfl ?_
  refine rz_ladd 8 dX9_longer_7 rfl ?_
  refine rz_ldc2 11 dX9_longer_8 rfl cu_X9_124 ?_
  refine rz_lsub 12 dX9_longer_11 rfl ?_
  refine rz_lstore (lv' := [(4, vL (((l0 * (32 : Int64)) + (Int32.toInt64 l2)) - (96 : Int64))), (0, vL l0), (2, vI l2), (3, vI l3)]) 14 dX9_longer_12 rfl rfl rfl ?_
  refine rz_iload_n 15 3 dX9_longer_14 rfl rfl ?_
  refine rz_if_le 34 18 dX9_longer_15 rfl rfl ?_ ?_
  · refine rz_lload 36 0 dX9_longer_34 rfl rfl ?_
    exact rz_lreturn rfl rfl dX9_longer_36
  · refine rz_lload 20 0 dX9_longer_18 rfl rfl ?_
    refine rz_ldc2 23 dX9_longer_20 rfl cu_X9_122 ?_
    refine rz_lmul 24 dX9_longer_23 rfl ?_
    refine rz_iload_n 25 3 dX9_longer_24 rfl rfl ?_
    refine rz_i2l 26 dX9_longer_25 rfl ?_
    refine rz_ladd 27 dX9_longer_26 rfl ?_
    refine rz_ldc2 30 dX9_longer_27 rfl cu_X9_124 ?_
    refine rz_lsub 31 dX9_longer_30 rfl ?_
    refine rz_goto 36 dX9_longer_31 rfl ?_
    exact rz_lreturn rfl rfl dX9_longer_36
theorem tX9_longer (v : mE) (d : Nat) (l0 : Int64) (l2 : Int32) (l3 : Int32) : Mt v yX9_longer cX9_longer 6 (some .long) emL (d + 0) [vL l0, vI l2, vI l3] (fX9_longer l0 l2 l3) := mt_of rfl rfl (fun h => by cases h) rfl rfl (rX9_longer v d l0 l2 l3)
theorem dX9_isWord_0 : decode cX9_isWord 0 = .ok (.aload_n 0, 1) := by decide +kernel
theorem dX9_isWord_1 : decode cX9_isWord 1 = .ok (.getfield 113, 3) := by decide +kernel
theorem dX9_isWord_4 : decode cX9_isWord 4 = .ok (.iconst 1, 1) := by decide +kernel
theorem dX9_isWord_5 : decode cX9_isWord 5 = .ok (.if_icmp .ne 16, 3) := by decide +kernel
theorem dX9_isWord_8 : decode cX9_isWord 8 = .ok (.aload_n 0, 1) := by decide +kernel
theorem dX9_isWord_9 : decode cX9_isWord 9 = .ok (.getfield 119, 3) := by decide +kernel
theorem dX9_isWord_12 : decode cX9_isWord 12 = .ok (.lload_n 1, 1) := by decide +kernel
theorem dX9_isWord_13 : decode cX9_isWord 13 = .ok (.lcmp, 1) := by decide +kernel
theorem dX9_isWord_14 : decode cX9_isWord 14 = .ok (.ifCond .ne 7, 3) := by decide +kernel
theorem dX9_isWord_17 : decode cX9_isWord 17 = .ok (.iconst 1, 1) := by decide +kernel
theorem dX9_isWord_18 : decode cX9_isWord 18 = .ok (.goto 4, 3) := by decide +kernel
theorem dX9_isWord_21 : decode cX9_isWord 21 = .ok (.iconst 0, 1) := by decide +kernel
theorem dX9_isWord_22 : decode cX9_isWord 22 = .ok (.ireturn, 1) := by decide +kernel
def fX9_isWord (l0 : Nat) (l1 : Int64) : mM Int32 := bGI 9 l0 14 (fun x1 => bIf (x1 = (1 : Int32)) (bGL 9 l0 22 (fun x2 => bIf ((lg_cmp x2 l1) = 0) (bRetZ (1 : Int32)) (bRetZ (0 : Int32)))) (bRetZ (0 : Int32)))
set_option maxRecDepth 20000 in
theorem rX9_isWord (v : mE) (d : Nat) (l0 : Nat) (l1 : Int64) : Rz v RX9 cX9_isWord 3 (some .boolean) false emI (d + 0) 0 [(0, vR l0), (1, vL l1)] [] (fX9_isWord l0 l1) := by
  unfold fX9_isWord
  refine rz_aload_n 1 0 dX9_isWord_0 rfl rfl ?_
  refine rz_gI 4 dX9_isWord_1 rfl rfl fl_X9_113 (fun x1 => ?_)
  refine rz_iconst 5 dX9_isWord_4 rfl ci_1 ?_
  refine rz_icmp_ne 21 8 dX9_isWord_5 rfl rfl ?_ ?_
  · refine rz_iconst 22 dX9_isWord_21 rfl ci_0 ?_
    exact rz_zreturn rfl rfl dX9_isWord_22
  · refine rz_aload_n 9 0 dX9_isWord_8 rfl rfl ?_
    refine rz_gL 12 dX9_isWord_9 rfl rfl fl_X9_119 (fun x2 => ?_)
    refine rz_lload_n 13 1 dX9_isWord_12 rfl rfl ?_
    refine rz_lcmp 14 dX9_isWord_13 rfl ?_
    refine rz_if_ne 21 17 dX9_isWord_14 rfl rfl ?_ ?_
    · refine rz_iconst 22 dX9_isWord_21 rfl ci_0 ?_
      exact rz_zreturn rfl rfl dX9_isWord_22
    · refine rz_iconst 18 dX9_isWord_17 rfl ci_1 ?_
      refine rz_goto 22 dX9_isWord_18 rfl ?_
      exact rz_zreturn rfl rfl dX9_isWord_22
theorem tX9_isWord (v : mE) (d : Nat) (l0 : Nat) (l1 : Int64) : Mt v yX9_isWord cX9_isWord 3 (some .boolean) emI (d + 0) [vR l0, vL l1] (fX9_isWord l0 l1) := mt_of rfl rfl (fun h => by cases h) rfl rfl (rX9_isWord v d l0 l1)
theorem dX9_isWater_0 : decode cX9_isWater 0 = .ok (.aload_n 0, 1) := by decide +kernel
theorem dX9_isWater_1 : decode cX9_isWater 1 = .ok (.bipush 119, 2) := by decide +kernel
theorem dX9_isWater_3 : decode cX9_isWater 3 = .ok (.bipush 97, 2) := by decide +kernel
theorem dX9_isWater_5 : decode cX9_isWater 5 = .ok (.bipush 116, 2) := by decide +kernel
theorem dX9_isWater_7 : decode cX9_isWater 7 = .ok (.bipush 101, 2) := by decide +kernel
theorem dX9_isWater_9 : decode cX9_isWater 9 = .ok (.bipush 114, 2) := by decide +kernel
theorem dX9_isWater_11 : decode cX9_isWater 11 = .ok (.iconst 0, 1) := by decide +kernel
theorem dX9_isWater_12 : decode cX9_isWater 12 = .ok (.invokestatic 138, 3) := by decide +kernel
theorem dX9_isWater_15 : decode cX9_isWater 15 = .ok (.invokevirtual 142, 3) := by decide +kernel
theorem dX9_isWater_18 : decode cX9_isWater 18 = .ok (.ireturn, 1) := by decide +kernel
def fX9_isWater (l0 : Nat) : mM Int32 := bCall (fX9_spelled (119 : Int32) (97 : Int32) (116 : Int32) (101 : Int32) (114 : Int32) (0 : Int32)) (fun x1 => bCallV 9 l0 (fX9_isWord l0 x1) (fun x2 => bRetZ x2))
set_option maxRecDepth 20000 in
theorem rX9_isWater (v : mE) (d : Nat) (l0 : Nat) : Rz v RX9 cX9_isWater 1 (some .boolean) false emI (d + 1) 0 [(0, vR l0)] [] (fX9_isWater l0) := by
  unfold fX9_isWater
  refine rz_aload_n 1 0 dX9_isWater_0 rfl rfl ?_
  refine rz_bipush 3 dX9_isWater_1 rfl cb_119 ?_
  refine rz_bipush 5 dX9_isWater_3 rfl cb_97 ?_
  refine rz_bipush 7 dX9_isWater_5 rfl cb_116 ?_
  refine rz_bipush 9 dX9_isWater_7 rfl cb_101 ?_
  refine rz_bipush 11 dX9_isWater_9 rfl cb_114 ?_
  refine rz_iconst 12 dX9_isWater_11 rfl ci_0 ?_
  refine rz_callS 15 dX9_isWater_12 rfl (tX9_spelled v (d + 0) (119 : Int32) (97 : Int32) (116 : Int32) (101 : Int32) (114 : Int32) (0 : Int32)) rfl rfl ml_X9_138 sm_X9_spelled in_X9 co_X9_spelled rfl rfl (fun x1 => ?_)
  refine rz_callV 18 dX9_isWater_15 rfl (tX9_isWord v (d + 0) l0 x1) rfl rfl rfl rfl ml_X9_142 im_X9_isWord se_X9_X9_isWord in_X9 co_X9_isWord rfl rfl (fun x2 => ?_)
  exact rz_zreturn rfl rfl dX9_isWater_18
theorem tX9_isWater (v : mE) (d : Nat) (l0 : Nat) : Mt v yX9_isWater cX9_isWater 1 (some .boolean) emI (d + 1) [vR l0] (fX9_isWater l0) := mt_of rfl rfl (fun h => by cases h) rfl rfl (rX9_isWater v d l0)
theorem dX9_isBottom_0 : decode cX9_isBottom 0 = .ok (.aload_n 0, 1) := by decide +kernel
theorem dX9_isBottom_1 : decode cX9_isBottom 1 = .ok (.bipush 98, 2) := by decide +kernel
theorem dX9_isBottom_3 : decode cX9_isBottom 3 = .ok (.bipush 111, 2) := by decide +kernel
theorem dX9_isBottom_5 : decode cX9_isBottom 5 = .ok (.bipush 116, 2) := by decide +kernel
theorem dX9_isBottom_7 : decode cX9_isBottom 7 = .ok (.bipush 116, 2) := by decide +kernel
theorem dX9_isBottom_9 : decode cX9_isBottom 9 = .ok (.bipush 111, 2) := by decide +kernel
theorem dX9_isBottom_11 : decode cX9_isBottom 11 = .ok (.bipush 109, 2) := by decide +kernel
theorem dX9_isBottom_13 : decode cX9_isBottom 13 = .ok (.invokestatic 138, 3) := by decide +kernel
theorem dX9_isBottom_16 : decode cX9_isBottom 16 = .ok (.invokevirtual 142, 3) := by decide +kernel
theorem dX9_isBottom_19 : decode cX9_isBottom 19 = .ok (.ireturn, 1) := by decide +kernel
def fX9_isBottom (l0 : Nat) : mM Int32 := bCall (fX9_spelled (98 : Int32) (111 : Int32) (116 : Int32) (116 : Int32) (111 : Int32) (109 : Int32)) (fun x1 => bCallV 9 l0 (fX9_isWord l0 x1) (fun x2 => bRetZ x2))
set_option maxRecDepth 20000 in
theorem rX9_isBottom (v : mE) (d : Nat) (l0 : Nat) : Rz v RX9 cX9_isBottom 1 (some .boolean) false emI (d + 1) 0 [(0, vR l0)] [] (fX9_isBottom l0) := by
  unfold fX9_isBottom
  refine rz_aload_n 1 0 dX9_isBottom_0 rfl rfl ?_
  refine rz_bipush 3 dX9_isBottom_1 rfl cb_98 ?_
  refine rz_bipush 5 dX9_isBottom_3 rfl cb_111 ?_
  refine rz_bipush 7 dX9_isBottom_5 rfl cb_116 ?_
  refine rz_bipush 9 dX9_isBottom_7 rfl cb_116 ?_
  refine rz_bipush 11 dX9_isBottom_9 rfl cb_111 ?_
  refine rz_bipush 13 dX9_isBottom_11 rfl cb_109 ?_
  refine rz_callS 16 dX9_isBottom_13 rfl (tX9_spelled v (d + 0) (98 : Int32) (111 : Int32) (116 : Int32) (116 : Int32) (111 : Int32) (109 : Int32)) rfl rfl ml_X9_138 sm_X9_spelled in_X9 co_X9_spelled rfl rfl (fun x1 => ?_)
  refine rz_callV 19 dX9_isBottom_16 rfl (tX9_isWord v (d + 0) l0 x1) rfl rfl rfl rfl ml_X9_142 im_X9_isWord se_X9_X9_isWord in_X9 co_X9_isWord rfl rfl (fun x2 => ?_)
  exact rz_zreturn rfl rfl dX9_isBottom_19
theorem tX9_isBottom (v : mE) (d : Nat) (l0 : Nat) : Mt v yX9_isBottom cX9_isBottom 1 (some .boolean) emI (d + 1) [vR l0] (fX9_isBottom l0) := mt_of rfl rfl (fun h => by cases h) rfl rfl (rX9_isBottom v d l0)
theorem dX9_isSinks_0 : decode cX9_isSinks 0 = .ok (.aload_n 0, 1) := by decide +kernel
theorem dX9_isSinks_1 : decode cX9_isSinks 1 = .ok (.bipush 115, 2) := by decide +kernel
theorem dX9_isSinks_3 : decode cX9_isSinks 3 = .ok (.bipush 105, 2) := by decide +kernel
theorem dX9_isSinks_5 : decode cX9_isSinks 5 = .ok (.bipush 110, 2) := by decide +kernel
theorem dX9_isSinks_7 : decode cX9_isSinks 7 = .ok (.bipush 107, 2) := by decide +kernel
theorem dX9_isSinks_9 : decode cX9_isSinks 9 = .ok (.bipush 115, 2) := by decide +kernel
theorem dX9_isSinks_11 : decode cX9_isSinks 11 = .ok (.iconst 0, 1) := by decide +kernel
theorem dX9_isSinks_12 : decode cX9_isSinks 12 = .ok (.invokestatic 138, 3) := by decide +kernel
theorem dX9_isSinks_15 : decode cX9_isSinks 15 = .ok (.invokevirtual 142, 3) := by decide +kernel
theorem dX9_isSinks_18 : decode cX9_isSinks 18 = .ok (.ireturn, 1) := by decide +kernel
def fX9_isSinks (l0 : Nat) : mM Int32 := bCall (fX9_spelled (115 : Int32) (105 : Int32) (110 : Int32) (107 : Int32) (115 : Int32) (0 : Int32)) (fun x1 => bCallV 9 l0 (fX9_isWord l0 x1) (fun x2 => bRetZ x2))
set_option maxRecDepth 20000 in
theorem rX9_isSinks (v : mE) (d : Nat) (l0 : Nat) : Rz v RX9 cX9_isSinks 1 (some .boolean) false emI (d + 1) 0 [(0, vR l0)] [] (fX9_isSinks l0) := by
  unfold fX9_isSinks
  refine rz_aload_n 1 0 dX9_isSinks_0 rfl rfl ?_
  refine rz_bipush 3 dX9_isSinks_1 rfl cb_115 ?_
  refine rz_bipush 5 dX9_isSinks_3 rfl cb_105 ?_
  refine rz_bipush 7 dX9_isSinks_5 rfl cb_110 ?_
  refine rz_bipush 9 dX9_isSinks_7 rfl cb_107 ?_
  refine rz_bipush 11 dX9_isSinks_9 rfl cb_115 ?_
  refine rz_iconst 12 dX9_isSinks_11 rfl ci_0 ?_
  refine rz_callS 15 dX9_isSinks_12 rfl (tX9_spelled v (d + 0) (115 : Int32) (105 : Int32) (110 : Int32) (107 : Int32) (115 : Int32) (0 : Int32)) rfl rfl ml_X9_138 sm_X9_spelled in_X9 co_X9_spelled rfl rfl (fun x1 => ?_)
  refine rz_callV 18 dX9_isSinks_15 rfl (tX9_isWord v (d + 0) l0 x1) rfl rfl rfl rfl ml_X9_142 im_X9_isWord se_X9_X9_isWord in_X9 co_X9_isWord rfl rfl (fun x2 => ?_)
  exact rz_zreturn rfl rfl dX9_isSinks_18
theorem tX9_isSinks (v : mE) (d : Nat) (l0 : Nat) : Mt v yX9_isSinks cX9_isSinks 1 (some .boolean) emI (d + 1) [vR l0] (fX9_isSinks l0) := mt_of rfl rfl (fun h => by cases h) rfl rfl (rX9_isSinks v d l0)
theorem dX9_isRain_0 : decode cX9_isRain 0 = .ok (.aload_n 0, 1) := by decide +kernel
theorem dX9_isRain_1 : decode cX9_isRain 1 = .ok (.bipush 114, 2) := by decide +kernel
theorem dX9_isRain_3 : decode cX9_isRain 3 = .ok (.bipush 97, 2) := by decide +kernel
theorem dX9_isRain_5 : decode cX9_isRain 5 = .ok (.bipush 105, 2) := by decide +kernel
theorem dX9_isRain_7 : decode cX9_isRain 7 = .ok (.bipush 110, 2) := by decide +kernel
theorem dX9_isRain_9 : decode cX9_isRain 9 = .ok (.iconst 0, 1) := by decide +kernel
theorem dX9_isRain_10 : decode cX9_isRain 10 = .ok (.iconst 0, 1) := by decide +kernel
theorem dX9_isRain_11 : decode cX9_isRain 11 = .ok (.invokestatic 138, 3) := by decide +kernel
theorem dX9_isRain_14 : decode cX9_isRain 14 = .ok (.invokevirtual 142, 3) := by decide +kernel
theorem dX9_isRain_17 : decode cX9_isRain 17 = .ok (.ireturn, 1) := by decide +kernel
def fX9_isRain (l0 : Nat) : mM Int32 := bCall (fX9_spelled (114 : Int32) (97 : Int32) (105 : Int32) (110 : Int32) (0 : Int32) (0 : Int32)) (fun x1 => bCallV 9 l0 (fX9_isWord l0 x1) (fun x2 => bRetZ x2))
set_option maxRecDepth 20000 in
theorem rX9_isRain (v : mE) (d : Nat) (l0 : Nat) : Rz v RX9 cX9_isRain 1 (some .boolean) false emI (d + 1) 0 [(0, vR l0)] [] (fX9_isRain l0) := by
  unfold fX9_isRain
  refine rz_aload_n 1 0 dX9_isRain_0 rfl rfl ?_
  refine rz_bipush 3 dX9_isRain_1 rfl cb_114 ?_
  refine rz_bipush 5 dX9_isRain_3 rfl cb_97 ?_
  refine rz_bipush 7 dX9_isRain_5 rfl cb_105 ?_
  refine rz_bipush 9 dX9_isRain_7 rfl cb_110 ?_
  refine rz_iconst 10 dX9_isRain_9 rfl ci_0 ?_
  refine rz_iconst 11 dX9_isRain_10 rfl ci_0 ?_
  refine rz_callS 14 dX9_isRain_11 rfl (tX9_spelled v (d + 0) (114 : Int32) (97 : Int32) (105 : Int32) (110 : Int32) (0 : Int32) (0 : Int32)) rfl rfl ml_X9_138 sm_X9_spelled in_X9 co_X9_spelled rfl rfl (fun x1 => ?_)
  refine rz_callV 17 dX9_isRain_14 rfl (tX9_isWord v (d + 0) l0 x1) rfl rfl rfl rfl ml_X9_142 im_X9_isWord se_X9_X9_isWord in_X9 co_X9_isWord rfl rfl (fun x2 => ?_)
  exact rz_zreturn rfl rfl dX9_isRain_17
theorem tX9_isRain (v : mE) (d : Nat) (l0 : Nat) : Mt v yX9_isRain cX9_isRain 1 (some .boolean) emI (d + 1) [vR l0] (fX9_isRain l0) := mt_of rfl rfl (fun h => by cases h) rfl rfl (rX9_isRain v d l0)
theorem dX9_isBy_0 : decode cX9_isBy 0 = .ok (.aload_n 0, 1) := by decide +kernel
theorem dX9_isBy_1 : decode cX9_isBy 1 = .ok (.bipush 98, 2) := by decide +kernel
theorem dX9_isBy_3 : decode cX9_isBy 3 = .ok (.bipush 121, 2) := by decide +kernel
theorem dX9_isBy_5 : decode cX9_isBy 5 = .ok (.iconst 0, 1) := by decide +kernel
theorem dX9_isBy_6 : decode cX9_isBy 6 = .ok (.iconst 0, 1) := by decide +kernel
theorem dX9_isBy_7 : decode cX9_isBy 7 = .ok (.iconst 0, 1) := by decide +kernel
theorem dX9_isBy_8 : decode cX9_isBy 8 = .ok (.iconst 0, 1) := by decide +kernel
theorem dX9_isBy_9 : decode cX9_isBy 9 = .ok (.invokestatic 138, 3) := by decide +kernel
theorem dX9_isBy_12 : decode cX9_isBy 12 = .ok (.invokevirtual 142, 3) := by decide +kernel
theorem dX9_isBy_15 : decode cX9_isBy 15 = .ok (.ireturn, 1) := by decide +kernel
def fX9_isBy (l0 : Nat) : mM Int32 := bCall (fX9_spelled (98 : Int32) (121 : Int32) (0 : Int32) (0 : Int32) (0 : Int32) (0 : Int32)) (fun x1 => bCallV 9 l0 (fX9_isWord l0 x1) (fun x2 => bRetZ x2))
set_option maxRecDepth 20000 in
theorem rX9_isBy (v : mE) (d : Nat) (l0 : Nat) : Rz v RX9 cX9_isBy 1 (some .boolean) false emI (d + 1) 0 [(0, vR l0)] [] (fX9_isBy l0) := by
  unfold fX9_isBy
  refine rz_aload_n 1 0 dX9_isBy_0 rfl rfl ?_
  refine rz_bipush 3 dX9_isBy_1 rfl cb_98 ?_
  refine rz_bipush 5 dX9_isBy_3 rfl cb_121 ?_
  refine rz_iconst 6 dX9_isBy_5 rfl ci_0 ?_
  refine rz_iconst 7 dX9_isBy_6 rfl ci_0 ?_
  refine rz_iconst 8 dX9_isBy_7 rfl ci_0 ?_
  refine rz_iconst 9 dX9_isBy_8 rfl ci_0 ?_
  refine rz_callS 12 dX9_isBy_9 rfl (tX9_spelled v (d + 0) (98 : Int32) (121 : Int32) (0 : Int32) (0 : Int32) (0 : Int32) (0 : Int32)) rfl rfl ml_X9_138 sm_X9_spelled in_X9 co_X9_spelled rfl rfl (fun x1 => ?_)
  refine rz_callV 15 dX9_isBy_12 rfl (tX9_isWord v (d + 0) l0 x1) rfl rfl rfl rfl ml_X9_142 im_X9_isWord se_X9_X9_isWord in_X9 co_X9_isWord rfl rfl (fun x2 => ?_)
  exact rz_zreturn rfl rfl dX9_isBy_15
theorem tX9_isBy (v : mE) (d : Nat) (l0 : Nat) : Mt v yX9_isBy cX9_isBy 1 (some .boolean) emI (d + 1) [vR l0] (fX9_isBy l0) := mt_of rfl rfl (fun h => by cases h) rfl rfl (rX9_isBy v d l0)
theorem dX9_isPersonWord_0 : decode cX9_isPersonWord 0 = .ok (.aload_n 0, 1) := by decide +kernel
theorem dX9_isPersonWord_1 : decode cX9_isPersonWord 1 = .ok (.bipush 112, 2) := by decide +kernel
theorem dX9_isPersonWord_3 : decode cX9_isPersonWord 3 = .ok (.bipush 101, 2) := by decide +kernel
theorem dX9_isPersonWord_5 : decode cX9_isPersonWord 5 = .ok (.bipush 114, 2) := by decide +kernel
theorem dX9_isPersonWord_7 : decode cX9_isPersonWord 7 = .ok (.bipush 115, 2) := by decide +kernel
theorem dX9_isPersonWord_9 : decode cX9_isPersonWord 9 = .ok (.bipush 111, 2) := by decide +kernel
theorem dX9_isPersonWord_11 : decode cX9_isPersonWord 11 = .ok (.bipush 110, 2) := by decide +kernel
theorem dX9_isPersonWord_13 : decode cX9_isPersonWord 13 = .ok (.invokestatic 138, 3) := by decide +kernel
theorem dX9_isPersonWord_16 : decode cX9_isPersonWord 16 = .ok (.invokevirtual 142, 3) := by decide +kernel
theorem dX9_isPersonWord_19 : decode cX9_isPersonWord 19 = .ok (.ireturn, 1) := by decide +kernel
def fX9_isPersonWord (l0 : Nat) : mM Int32 := bCall (fX9_spelled (112 : Int32) (101 : Int32) (114 : Int32) (115 : Int32) (111 : Int32) (110 : Int32)) (fun x1 => bCallV 9 l0 (fX9_isWord l0 x1) (fun x2 => bRetZ x2))
set_option maxRecDepth 20000 in
theorem rX9_isPersonWord (v : mE) (d : Nat) (l0 : Nat) : Rz v RX9 cX9_isPersonWord 1 (some .boolean) false emI (d + 1) 0 [(0, vR l0)] [] (fX9_isPersonWord l0) := by
  unfold fX9_isPersonWord
  refine rz_aload_n 1 0 dX9_isPersonWord_0 rfl rfl ?_
  refine rz_bipush 3 dX9_isPersonWord_1 rfl cb_112 ?_
  refine rz_bipush 5 dX9_isPersonWord_3 rfl cb_101 ?_
  refine rz_bipush 7 dX9_isPersonWord_5 rfl cb_114 ?_
  refine rz_bipush 9 dX9_isPersonWord_7 rfl cb_115 ?_
  refine rz_bipush 11 dX9_isPersonWord_9 rfl cb_111 ?_
  refine rz_bipush 13 dX9_isPersonWord_11 rfl cb_110 ?_
  refine rz_callS 16 dX9_isPersonWord_13 rfl (tX9_spelled v (d + 0) (112 : Int32) (101 : Int32) (114 : Int32) (115 : Int32) (111 : Int32) (110 : Int32)) rfl rfl ml_X9_138 sm_X9_spelled in_X9 co_X9_spelled rfl rfl (fun x1 => ?_)
  refine rz_callV 19 dX9_isPersonWord_16 rfl (tX9_isWord v (d + 0) l0 x1) rfl rfl rfl rfl ml_X9_142 im_X9_isWord se_X9_X9_isWord in_X9 co_X9_isWord rfl rfl (fun x2 => ?_)
  exact rz_zreturn rfl rfl dX9_isPersonWord_19
theorem tX9_isPersonWord (v : mE) (d : Nat) (l0 : Nat) : Mt v yX9_isPersonWord cX9_isPersonWord 1 (some .boolean) emI (d + 1) [vR l0] (fX9_isPersonWord l0) := mt_of rfl rfl (fun h => by cases h) rfl rfl (rX9_isPersonWord v d l0)
theorem dX9_isOf_0 : decode cX9_isOf 0 = .ok (.aload_n 0, 1) := by decide +kernel
theorem dX9_isOf_1 : decode cX9_isOf 1 = .ok (.bipush 111, 2) := by decide +kernel
theorem dX9_isOf_3 : decode cX9_isOf 3 = .ok (.bipush 102, 2) := by decide +kernel
theorem dX9_isOf_5 : decode cX9_isOf 5 = .ok (.iconst 0, 1) := by decide +kernel
theorem dX9_isOf_6 : decode cX9_isOf 6 = .ok (.iconst 0, 1) := by decide +kernel
theorem dX9_isOf_7 : decode cX9_isOf 7 = .ok (.iconst 0, 1) := by decide +kernel
theorem dX9_isOf_8 : decode cX9_isOf 8 = .ok (.iconst 0, 1) := by decide +kernel
theorem dX9_isOf_9 : decode cX9_isOf 9 = .ok (.invokestatic 138, 3) := by decide +kernel
theorem dX9_isOf_12 : decode cX9_isOf 12 = .ok (.invokevirtual 142, 3) := by decide +kernel
theorem dX9_isOf_15 : decode cX9_isOf 15 = .ok (.ireturn, 1) := by decide +kernel
def fX9_isOf (l0 : Nat) : mM Int32 := bCall (fX9_spelled (111 : Int32) (102 : Int32) (0 : Int32) (0 : Int32) (0 : Int32) (0 : Int32)) (fun x1 => bCallV 9 l0 (fX9_isWord l0 x1) (fun x2 => bRetZ x2))
set_option maxRecDepth 20000 in
theorem rX9_isOf (v : mE) (d : Nat) (l0 : Nat) : Rz v RX9 cX9_isOf 1 (some .boolean) false emI (d + 1) 0 [(0, vR l0)] [] (fX9_isOf l0) := by
  unfold fX9_isOf
  refine rz_aload_n 1 0 dX9_isOf_0 rfl rfl ?_
  refine rz_bipush 3 dX9_isOf_1 rfl cb_111 ?_
  refine rz_bipush 5 dX9_isOf_3 rfl cb_102 ?_
  refine rz_iconst 6 dX9_isOf_5 rfl ci_0 ?_
  refine rz_iconst 7 dX9_isOf_6 rfl ci_0 ?_
  refine rz_iconst 8 dX9_isOf_7 rfl ci_0 ?_
  refine rz_iconst 9 dX9_isOf_8 rfl ci_0 ?_
  refine rz_callS 12 dX9_isOf_9 rfl (tX9_spelled v (d + 0) (111 : Int32) (102 : Int32) (0 : Int32) (0 : Int32) (0 : Int32) (0 : Int32)) rfl rfl ml_X9_138 sm_X9_spelled in_X9 co_X9_spelled rfl rfl (fun x1 => ?_)
  refine rz_callV 15 dX9_isOf_12 rfl (tX9_isWord v (d + 0) l0 x1) rfl rfl rfl rfl ml_X9_142 im_X9_isWord se_X9_X9_isWord in_X9 co_X9_isWord rfl rfl (fun x2 => ?_)
  exact rz_zreturn rfl rfl dX9_isOf_15
theorem tX9_isOf (v : mE) (d : Nat) (l0 : Nat) : Mt v yX9_isOf cX9_isOf 1 (some .boolean) emI (d + 1) [vR l0] (fX9_isOf l0) := mt_of rfl rfl (fun h => by cases h) rfl rfl (rX9_isOf v d l0)
theorem dX9_isDies_0 : decode cX9_isDies 0 = .ok (.aload_n 0, 1) := by decide +kernel
theorem dX9_isDies_1 : decode cX9_isDies 1 = .ok (.bipush 100, 2) := by decide +kernel
theorem dX9_isDies_3 : decode cX9_isDies 3 = .ok (.bipush 105, 2) := by decide +kernel
theorem dX9_isDies_5 : decode cX9_isDies 5 = .ok (.bipush 101, 2) := by decide +kernel
theorem dX9_isDies_7 : decode cX9_isDies 7 = .ok (.bipush 115, 2) := by decide +kernel
theorem dX9_isDies_9 : decode cX9_isDies 9 = .ok (.iconst 0, 1) := by decide +kernel
theorem dX9_isDies_10 : decode cX9_isDies 10 = .ok (.iconst 0, 1) := by decide +kernel
theorem dX9_isDies_11 : decode cX9_isDies 11 = .ok (.invokestatic 138, 3) := by decide +kernel
theorem dX9_isDies_14 : decode cX9_isDies 14 = .ok (.invokevirtual 142, 3) := by decide +kernel
theorem dX9_isDies_17 : decode cX9_isDies 17 = .ok (.ireturn, 1) := by decide +kernel
def fX9_isDies (l0 : Nat) : mM Int32 := bCall (fX9_spelled (100 : Int32) (105 : Int32) (101 : Int32) (115 : Int32) (0 : Int32) (0 : Int32)) (fun x1 => bCallV 9 l0 (fX9_isWord l0 x1) (fun x2 => bRetZ x2))
set_option maxRecDepth 20000 in
theorem rX9_isDies (v : mE) (d : Nat) (l0 : Nat) : Rz v RX9 cX9_isDies 1 (some .boolean) false emI (d + 1) 0 [(0, vR l0)] [] (fX9_isDies l0) := by
  unfold fX9_isDies
  refine rz_aload_n 1 0 dX9_isDies_0 rfl rfl ?_
  refine rz_bipush 3 dX9_isDies_1 rfl cb_100 ?_
  refine rz_bipush 5 dX9_isDies_3 rfl cb_105 ?_
  refine rz_bipush 7 dX9_isDies_5 rfl cb_101 ?_
  refine rz_bipush 9 dX9_isDies_7 rfl cb_115 ?_
  refine rz_iconst 10 dX9_isDies_9 rfl ci_0 ?_
  refine rz_iconst 11 dX9_isDies_10 rfl ci_0 ?_
  refine rz_callS 14 dX9_isDies_11 rfl (tX9_spelled v (d + 0) (100 : Int32) (105 : Int32) (101 : Int32) (115 : Int32) (0 : Int32) (0 : Int32)) rfl rfl ml_X9_138 sm_X9_spelled in_X9 co_X9_spelled rfl rfl (fun x1 => ?_)
  refine rz_callV 17 dX9_isDies_14 rfl (tX9_isWord v (d + 0) l0 x1) rfl rfl rfl rfl ml_X9_142 im_X9_isWord se_X9_X9_isWord in_X9 co_X9_isWord rfl rfl (fun x2 => ?_)
  exact rz_zreturn rfl rfl dX9_isDies_17
theorem tX9_isDies (v : mE) (d : Nat) (l0 : Nat) : Mt v yX9_isDies cX9_isDies 1 (some .boolean) emI (d + 1) [vR l0] (fX9_isDies l0) := mt_of rfl rfl (fun h => by cases h) rfl rfl (rX9_isDies v d l0)
theorem dX9_isRopeWord_0 : decode cX9_isRopeWord 0 = .ok (.aload_n 0, 1) := by decide +kernel
theorem dX9_isRopeWord_1 : decode cX9_isRopeWord 1 = .ok (.bipush 114, 2) := by decide +kernel
theorem dX9_isRopeWord_3 : decode cX9_isRopeWord 3 = .ok (.bipush 111, 2) := by decide +kernel
theorem dX9_isRopeWord_5 : decode cX9_isRopeWord 5 = .ok (.bipush 112, 2) := by decide +kernel
theorem dX9_isRopeWord_7 : decode cX9_isRopeWord 7 = .ok (.bipush 101, 2) := by decide +kernel
theorem dX9_isRopeWord_9 : decode cX9_isRopeWord 9 = .ok (.iconst 0, 1) := by decide +kernel
theorem dX9_isRopeWord_10 : decode cX9_isRopeWord 10 = .ok (.iconst 0, 1) := by decide +kernel
theorem dX9_isRopeWord_11 : decode cX9_isRopeWord 11 = .ok (.invokestatic 138, 3) := by decide +kernel
theorem dX9_isRopeWord_14 : decode cX9_isRopeWord 14 = .ok (.invokevirtual 142, 3) := by decide +kernel
theorem dX9_isRopeWord_17 : decode cX9_isRopeWord 17 = .ok (.ireturn, 1) := by decide +kernel
def fX9_isRopeWord (l0 : Nat) : mM Int32 := bCall (fX9_spelled (114 : Int32) (111 : Int32) (112 : Int32) (101 : Int32) (0 : Int32) (0 : Int32)) (fun x1 => bCallV 9 l0 (fX9_isWord l0 x1) (fun x2 => bRetZ x2))
set_option maxRecDepth 20000 in
theorem rX9_isRopeWord (v : mE) (d : Nat) (l0 : Nat) : Rz v RX9 cX9_isRopeWord 1 (some .boolean) false emI (d + 1) 0 [(0, vR l0)] [] (fX9_isRopeWord l0) := by
  unfold fX9_isRopeWord
  refine rz_aload_n 1 0 dX9_isRopeWord_0 rfl rfl ?_
  refine rz_bipush 3 dX9_isRopeWord_1 rfl cb_114 ?_
  refine rz_bipush 5 dX9_isRopeWord_3 rfl cb_111 ?_
  refine rz_bipush 7 dX9_isRopeWord_5 rfl cb_112 ?_
  refine rz_bipush 9 dX9_isRopeWord_7 rfl cb_101 ?_
  refine rz_iconst 10 dX9_isRopeWord_9 rfl ci_0 ?_
  refine rz_iconst 11 dX9_isRopeWord_10 rfl ci_0 ?_
  refine rz_callS 14 dX9_isRopeWord_11 rfl (tX9_spelled v (d + 0) (114 : Int32) (111 : Int32) (112 : Int32) (101 : Int32) (0 : Int32) (0 : Int32)) rfl rfl ml_X9_138 sm_X9_spelled in_X9 co_X9_spelled rfl rfl (fun x1 => ?_)
  refine rz_callV 17 dX9_isRopeWord_14 rfl (tX9_isWord v (d + 0) l0 x1) rfl rfl rfl rfl ml_X9_142 im_X9_isWord se_X9_X9_isWord in_X9 co_X9_isWord rfl rfl (fun x2 => ?_)
  exact rz_zreturn rfl rfl dX9_isRopeWord_17
theorem tX9_isRopeWord (v : mE) (d : Nat) (l0 : Nat) : Mt v yX9_isRopeWord cX9_isRopeWord 1 (some .boolean) emI (d + 1) [vR l0] (fX9_isRopeWord l0) := mt_of rfl rfl (fun h => by cases h) rfl rfl (rX9_isRopeWord v d l0)
theorem dX9_isYards_0 : decode cX9_isYards 0 = .ok (.aload_n 0, 1) := by decide +kernel
theorem dX9_isYards_1 : decode cX9_isYards 1 = .ok (.bipush 121, 2) := by decide +kernel
theorem dX9_isYards_3 : decode cX9_isYards 3 = .ok (.bipush 97, 2) := by decide +kernel
theorem dX9_isYards_5 : decode cX9_isYards 5 = .ok (.bipush 114, 2) := by decide +kernel
theorem dX9_isYards_7 : decode cX9_isYards 7 = .ok (.bipush 100, 2) := by decide +kernel
theorem dX9_isYards_9 : decode cX9_isYards 9 = .ok (.bipush 115, 2) := by decide +kernel
theorem dX9_isYards_11 : decode cX9_isYards 11 = .ok (.iconst 0, 1) := by decide +kernel
theorem dX9_isYards_12 : decode cX9_isYards 12 = .ok (.invokestatic 138, 3) := by decide +kernel
theorem dX9_isYards_15 : decode cX9_isYards 15 = .ok (.invokevirtual 142, 3) := by decide +kernel
theorem dX9_isYards_18 : decode cX9_isYards 18 = .ok (.ireturn, 1) := by decide +kernel
def fX9_isYards (l0 : Nat) : mM Int32 := bCall (fX9_spelled (121 : Int32) (97 : Int32) (114 : Int32) (100 : Int32) (115 : Int32) (0 : Int32)) (fun x1 => bCallV 9 l0 (fX9_isWord l0 x1) (fun x2 => bRetZ x2))
set_option maxRecDepth 20000 in
theorem rX9_isYards (v : mE) (d : Nat) (l0 : Nat) : Rz v RX9 cX9_isYards 1 (some .boolean) false emI (d + 1) 0 [(0, vR l0)] [] (fX9_isYards l0) := by
  unfold fX9_isYards
  refine rz_aload_n 1 0 dX9_isYards_0 rfl rfl ?_
  refine rz_bipush 3 dX9_isYards_1 rfl cb_121 ?_
  refine rz_bipush 5 dX9_isYards_3 rfl cb_97 ?_
  refine rz_bipush 7 dX9_isYards_5 rfl cb_114 ?_
  refine rz_bipush 9 dX9_isYards_7 rfl cb_100 ?_
  refine rz_bipush 11 dX9_isYards_9 rfl cb_115 ?_
  refine rz_iconst 12 dX9_isYards_11 rfl ci_0 ?_
  refine rz_callS 15 dX9_isYards_12 rfl (tX9_spelled v (d + 0) (121 : Int32) (97 : Int32) (114 : Int32) (100 : Int32) (115 : Int32) (0 : Int32)) rfl rfl ml_X9_138 sm_X9_spelled in_X9 co_X9_spelled rfl rfl (fun x1 => ?_)
  refine rz_callV 18 dX9_isYards_15 rfl (tX9_isWord v (d + 0) l0 x1) rfl rfl rfl rfl ml_X9_142 im_X9_isWord se_X9_X9_isWord in_X9 co_X9_isWord rfl rfl (fun x2 => ?_)
  exact rz_zreturn rfl rfl dX9_isYards_18
theorem tX9_isYards (v : mE) (d : Nat) (l0 : Nat) : Mt v yX9_isYards cX9_isYards 1 (some .boolean) emI (d + 1) [vR l0] (fX9_isYards l0) := mt_of rfl rfl (fun h => by cases h) rfl rfl (rX9_isYards v d l0)
theorem dX9_isAge_0 : decode cX9_isAge 0 = .ok (.aload_n 0, 1) := by decide +kernel
theorem dX9_isAge_1 : decode cX9_isAge 1 = .ok (.bipush 97, 2) := by decide +kernel
theorem dX9_isAge_3 : decode cX9_isAge 3 = .ok (.bipush 103, 2) := by decide +kernel
theorem dX9_isAge_5 : decode cX9_isAge 5 = .ok (.bipush 101, 2) := by decide +kernel
theorem dX9_isAge_7 : decode cX9_isAge 7 = .ok (.iconst 0, 1) := by decide +kernel
theorem dX9_isAge_8 : decode cX9_isAge 8 = .ok (.iconst 0, 1) := by decide +kernel
theorem dX9_isAge_9 : decode cX9_isAge 9 = .ok (.iconst 0, 1) := by decide +kernel
theorem dX9_isAge_10 : decode cX9_isAge 10 = .ok (.invokestatic 138, 3) := by decide +kernel
theorem dX9_isAge_13 : decode cX9_isAge 13 = .ok (.invokevirtual 142, 3) := by decide +kernel
theorem dX9_isAge_16 : decode cX9_isAge 16 = .ok (.ireturn, 1) := by decide +kernel
def fX9_isAge (l0 : Nat) : mM Int32 := bCall (fX9_spelled (97 : Int32) (103 : Int32) (101 : Int32) (0 : Int32) (0 : Int32) (0 : Int32)) (fun x1 => bCallV 9 l0 (fX9_isWord l0 x1) (fun x2 => bRetZ x2))
set_option maxRecDepth 20000 in
theorem rX9_isAge (v : mE) (d : Nat) (l0 : Nat) : Rz v RX9 cX9_isAge 1 (some .boolean) false emI (d + 1) 0 [(0, vR l0)] [] (fX9_isAge l0) := by
  unfold fX9_isAge
  refine rz_aload_n 1 0 dX9_isAge_0 rfl rfl ?_
  refine rz_bipush 3 dX9_isAge_1 rfl cb_97 ?_
  refine rz_bipush 5 dX9_isAge_3 rfl cb_103 ?_
  refine rz_bipush 7 dX9_isAge_5 rfl cb_101 ?_
  refine rz_iconst 8 dX9_isAge_7 rfl ci_0 ?_
  refine rz_iconst 9 dX9_isAge_8 rfl ci_0 ?_
  refine rz_iconst 10 dX9_isAge_9 rfl ci_0 ?_
  refine rz_callS 13 dX9_isAge_10 rfl (tX9_spelled v (d + 0) (97 : Int32) (103 : Int32) (101 : Int32) (0 : Int32) (0 : Int32) (0 : Int32)) rfl rfl ml_X9_138 sm_X9_spelled in_X9 co_X9_spelled rfl rfl (fun x1 => ?_)
  refine rz_callV 16 dX9_isAge_13 rfl (tX9_isWord v (d + 0) l0 x1) rfl rfl rfl rfl ml_X9_142 im_X9_isWord se_X9_X9_isWord in_X9 co_X9_isWord rfl rfl (fun x2 => ?_)
  exact rz_zreturn rfl rfl dX9_isAge_16
theorem tX9_isAge (v : mE) (d : Nat) (l0 : Nat) : Mt v yX9_isAge cX9_isAge 1 (some .boolean) emI (d + 1) [vR l0] (fX9_isAge l0) := mt_of rfl rfl (fun h => by cases h) rfl rfl (rX9_isAge v d l0)
theorem dX9_isHoly_0 : decode cX9_isHoly 0 = .ok (.aload_n 0, 1) := by decide +kernel
theorem dX9_isHoly_1 : decode cX9_isHoly 1 = .ok (.bipush 104, 2) := by decide +kernel
theorem dX9_isHoly_3 : decode cX9_isHoly 3 = .ok (.bipush 111, 2) := by decide +kernel
theorem dX9_isHoly_5 : decode cX9_isHoly 5 = .ok (.bipush 108, 2) := by decide +kernel
theorem dX9_isHoly_7 : decode cX9_isHoly 7 = .ok (.bipush 121, 2) := by decide +kernel
theorem dX9_isHoly_9 : decode cX9_isHoly 9 = .ok (.iconst 0, 1) := by decide +kernel
theorem dX9_isHoly_10 : decode cX9_isHoly 10 = .ok (.iconst 0, 1) := by decide +kernel
theorem dX9_isHoly_11 : decode cX9_isHoly 11 = .ok (.invokestatic 138, 3) := by decide +kernel
theorem dX9_isHoly_14 : decode cX9_isHoly 14 = .ok (.invokevirtual 142, 3) := by decide +kernel
theorem dX9_isHoly_17 : decode cX9_isHoly 17 = .ok (.ireturn, 1) := by decide +kernel
def fX9_isHoly (l0 : Nat) : mM Int32 := bCall (fX9_spelled (104 : Int32) (111 : Int32) (108 : Int32) (121 : Int32) (0 : Int32) (0 : Int32)) (fun x1 => bCallV 9 l0 (fX9_isWord l0 x1) (fun x2 => bRetZ x2))
set_option maxRecDepth 20000 in
theorem rX9_isHoly (v : mE) (d : Nat) (l0 : Nat) : Rz v RX9 cX9_isHoly 1 (some .boolean) false emI (d + 1) 0 [(0, vR l0)] [] (fX9_isHoly l0) := by
  unfold fX9_isHoly
  refine rz_aload_n 1 0 dX9_isHoly_0 rfl rfl ?_
  refine rz_bipush 3 dX9_isHoly_1 rfl cb_104 ?_
  refine rz_bipush 5 dX9_isHoly_3 rfl cb_111 ?_
  refine rz_bipush 7 dX9_isHoly_5 rfl cb_108 ?_
  refine rz_bipush 9 dX9_isHoly_7 rfl cb_121 ?_
  refine rz_iconst 10 dX9_isHoly_9 rfl ci_0 ?_
  refine rz_iconst 11 dX9_isHoly_10 rfl ci_0 ?_
  refine rz_callS 14 dX9_isHoly_11 rfl (tX9_spelled v (d + 0) (104 : Int32) (111 : Int32) (108 : Int32) (121 : Int32) (0 : Int32) (0 : Int32)) rfl rfl ml_X9_138 sm_X9_spelled in_X9 co_X9_spelled rfl rfl (fun x1 => ?_)
  refine rz_callV 17 dX9_isHoly_14 rfl (tX9_isWord v (d + 0) l0 x1) rfl rfl rfl rfl ml_X9_142 im_X9_isWord se_X9_X9_isWord in_X9 co_X9_isWord rfl rfl (fun x2 => ?_)
  exact rz_zreturn rfl rfl dX9_isHoly_17
theorem tX9_isHoly (v : mE) (d : Nat) (l0 : Nat) : Mt v yX9_isHoly cX9_isHoly 1 (some .boolean) emI (d + 1) [vR l0] (fX9_isHoly l0) := mt_of rfl rfl (fun h => by cases h) rfl rfl (rX9_isHoly v d l0)
theorem dX9_isSlips_0 : decode cX9_isSlips 0 = .ok (.aload_n 0, 1) := by decide +kernel
theorem dX9_isSlips_1 : decode cX9_isSlips 1 = .ok (.bipush 115, 2) := by decide +kernel
theorem dX9_isSlips_3 : decode cX9_isSlips 3 = .ok (.bipush 108, 2) := by decide +kernel
theorem dX9_isSlips_5 : decode cX9_isSlips 5 = .ok (.bipush 105, 2) := by decide +kernel
theorem dX9_isSlips_7 : decode cX9_isSlips 7 = .ok (.bipush 112, 2) := by decide +kernel
theorem dX9_isSlips_9 : decode cX9_isSlips 9 = .ok (.bipush 115, 2) := by decide +kernel
theorem dX9_isSlips_11 : decode cX9_isSlips 11 = .ok (.iconst 0, 1) := by decide +kernel
theorem dX9_isSlips_12 : decode cX9_isSlips 12 = .ok (.invokestatic 138, 3) := by decide +kernel
theorem dX9_isSlips_15 : decode cX9_isSlips 15 = .ok (.invokevirtual 142, 3) := by decide +kernel
theorem dX9_isSlips_18 : decode cX9_isSlips 18 = .ok (.ireturn, 1) := by decide +kernel
def fX9_isSlips (l0 : Nat) : mM Int32 := bCall (fX9_spelled (115 : Int32) (108 : Int32) (105 : Int32) (112 : Int32) (115 : Int32) (0 : Int32)) (fun x1 => bCallV 9 l0 (fX9_isWord l0 x1) (fun x2 => bRetZ x2))
set_option maxRecDepth 20000 in
theorem rX9_isSlips (v : mE) (d : Nat) (l0 : Nat) : Rz v RX9 cX9_isSlips 1 (some .boolean) false emI (d + 1) 0 [(0, vR l0)] [] (fX9_isSlips l0) := by
  unfold fX9_isSlips
  refine rz_aload_n 1 0 dX9_isSlips_0 rfl rfl ?_
  refine rz_bipush 3 dX9_isSlips_1 rfl cb_115 ?_
  refine rz_bipush 5 dX9_isSlips_3 rfl cb_108 ?_
  refine rz_bipush 7 dX9_isSlips_5 rfl cb_105 ?_
  refine rz_bipush 9 dX9_isSlips_7 rfl cb_112 ?_
  refine rz_bipush 11 dX9_isSlips_9 rfl cb_115 ?_
  refine rz_iconst 12 dX9_isSlips_11 rfl ci_0 ?_
  refine rz_callS 15 dX9_isSlips_12 rfl (tX9_spelled v (d + 0) (115 : Int32) (108 : Int32) (105 : Int32) (112 : Int32) (115 : Int32) (0 : Int32)) rfl rfl ml_X9_138 sm_X9_spelled in_X9 co_X9_spelled rfl rfl (fun x1 => ?_)
  refine rz_callV 18 dX9_isSlips_15 rfl (tX9_isWord v (d + 0) l0 x1) rfl rfl rfl rfl ml_X9_142 im_X9_isWord se_X9_X9_isWord in_X9 co_X9_isWord rfl rfl (fun x2 => ?_)
  exact rz_zreturn rfl rfl dX9_isSlips_18
theorem tX9_isSlips (v : mE) (d : Nat) (l0 : Nat) : Mt v yX9_isSlips cX9_isSlips 1 (some .boolean) emI (d + 1) [vR l0] (fX9_isSlips l0) := mt_of rfl rfl (fun h => by cases h) rfl rfl (rX9_isSlips v d l0)
theorem dX9_isFlood_0 : decode cX9_isFlood 0 = .ok (.aload_n 0, 1) := by decide +kernel
theorem dX9_isFlood_1 : decode cX9_isFlood 1 = .ok (.bipush 102, 2) := by decide +kernel
theorem dX9_isFlood_3 : decode cX9_isFlood 3 = .ok (.bipush 108, 2) := by decide +kernel
theorem dX9_isFlood_5 : decode cX9_isFlood 5 = .ok (.bipush 111, 2) := by decide +kernel
theorem dX9_isFlood_7 : decode cX9_isFlood 7 = .ok (.bipush 111, 2) := by decide +kernel
theorem dX9_isFlood_9 : decode cX9_isFlood 9 = .ok (.bipush 100, 2) := by decide +kernel
theorem dX9_isFlood_11 : decode cX9_isFlood 11 = .ok (.iconst 0, 1) := by decide +kernel
theorem dX9_isFlood_12 : decode cX9_isFlood 12 = .ok (.invokestatic 138, 3) := by decide +kernel
theorem dX9_isFlood_15 : decode cX9_isFlood 15 = .ok (.invokevirtual 142, 3) := by decide +kernel
theorem dX9_isFlood_18 : decode cX9_isFlood 18 = .ok (.ireturn, 1) := by decide +kernel
def fX9_isFlood (l0 : Nat) : mM Int32 := bCall (fX9_spelled (102 : Int32) (108 : Int32) (111 : Int32) (111 : Int32) (100 : Int32) (0 : Int32)) (fun x1 => bCallV 9 l0 (fX9_isWord l0 x1) (fun x2 => bRetZ x2))
set_option maxRecDepth 20000 in
theorem rX9_isFlood (v : mE) (d : Nat) (l0 : Nat) : Rz v RX9 cX9_isFlood 1 (some .boolean) false emI (d + 1) 0 [(0, vR l0)] [] (fX9_isFlood l0) := by
  unfold fX9_isFlood
  refine rz_aload_n 1 0 dX9_isFlood_0 rfl rfl ?_
  refine rz_bipush 3 dX9_isFlood_1 rfl cb_102 ?_
  refine rz_bipush 5 dX9_isFlood_3 rfl cb_108 ?_
  refine rz_bipush 7 dX9_isFlood_5 rfl cb_111 ?_
  refine rz_bipush 9 dX9_isFlood_7 rfl cb_111 ?_
  refine rz_bipush 11 dX9_isFlood_9 rfl cb_100 ?_
  refine rz_iconst 12 dX9_isFlood_11 rfl ci_0 ?_
  refine rz_callS 15 dX9_isFlood_12 rfl (tX9_spelled v (d + 0) (102 : Int32) (108 : Int32) (111 : Int32) (111 : Int32) (100 : Int32) (0 : Int32)) rfl rfl ml_X9_138 sm_X9_spelled in_X9 co_X9_spelled rfl rfl (fun x1 => ?_)
  refine rz_callV 18 dX9_isFlood_15 rfl (tX9_isWord v (d + 0) l0 x1) rfl rfl rfl rfl ml_X9_142 im_X9_isWord se_X9_X9_isWord in_X9 co_X9_isWord rfl rfl (fun x2 => ?_)
  exact rz_zreturn rfl rfl dX9_isFlood_18
theorem tX9_isFlood (v : mE) (d : Nat) (l0 : Nat) : Mt v yX9_isFlood cX9_isFlood 1 (some .boolean) emI (d + 1) [vR l0] (fX9_isFlood l0) := mt_of rfl rfl (fun h => by cases h) rfl rfl (rX9_isFlood v d l0)
theorem dX9_isTo_0 : decode cX9_isTo 0 = .ok (.aload_n 0, 1) := by decide +kernel
theorem dX9_isTo_1 : decode cX9_isTo 1 = .ok (.bipush 116, 2) := by decide +kernel
theorem dX9_isTo_3 : decode cX9_isTo 3 = .ok (.bipush 111, 2) := by decide +kernel
theorem dX9_isTo_5 : decode cX9_isTo 5 = .ok (.iconst 0, 1) := by decide +kernel
theorem dX9_isTo_6 : decode cX9_isTo 6 = .ok (.iconst 0, 1) := by decide +kernel
theorem dX9_isTo_7 : decode cX9_isTo 7 = .ok (.iconst 0, 1) := by decide +kernel
theorem dX9_isTo_8 : decode cX9_isTo 8 = .ok (.iconst 0, 1) := by decide +kernel
theorem dX9_isTo_9 : decode cX9_isTo 9 = .ok (.invokestatic 138, 3) := by decide +kernel
theorem dX9_isTo_12 : decode cX9_isTo 12 = .ok (.invokevirtual 142, 3) := by decide +kernel
theorem dX9_isTo_15 : decode cX9_isTo 15 = .ok (.ireturn, 1) := by decide +kernel
def fX9_isTo (l0 : Nat) : mM Int32 := bCall (fX9_spelled (116 : Int32) (111 : Int32) (0 : Int32) (0 : Int32) (0 : Int32) (0 : Int32)) (fun x1 => bCallV 9 l0 (fX9_isWord l0 x1) (fun x2 => bRetZ x2))
set_option maxRecDepth 20000 in
theorem rX9_isTo (v : mE) (d : Nat) (l0 : Nat) : Rz v RX9 cX9_isTo 1 (some .boolean) false emI (d + 1) 0 [(0, vR l0)] [] (fX9_isTo l0) := by
  unfold fX9_isTo
  refine rz_aload_n 1 0 dX9_isTo_0 rfl rfl ?_
  refine rz_bipush 3 dX9_isTo_1 rfl cb_116 ?_
  refine rz_bipush 5 dX9_isTo_3 rfl cb_111 ?_
  refine rz_iconst 6 dX9_isTo_5 rfl ci_0 ?_
  refine rz_iconst 7 dX9_isTo_6 rfl ci_0 ?_
  refine rz_iconst 8 dX9_isTo_7 rfl ci_0 ?_
  refine rz_iconst 9 dX9_isTo_8 rfl ci_0 ?_
  refine rz_callS 12 dX9_isTo_9 rfl (tX9_spelled v (d + 0) (116 : Int32) (111 : Int32) (0 : Int32) (0 : Int32) (0 : Int32) (0 : Int32)) rfl rfl ml_X9_138 sm_X9_spelled in_X9 co_X9_spelled rfl rfl (fun x1 => ?_)
  refine rz_callV 15 dX9_isTo_12 rfl (tX9_isWord v (d + 0) l0 x1) rfl rfl rfl rfl ml_X9_142 im_X9_isWord se_X9_X9_isWord in_X9 co_X9_isWord rfl rfl (fun x2 => ?_)
  exact rz_zreturn rfl rfl dX9_isTo_15
theorem tX9_isTo (v : mE) (d : Nat) (l0 : Nat) : Mt v yX9_isTo cX9_isTo 1 (some .boolean) emI (d + 1) [vR l0] (fX9_isTo l0) := mt_of rfl rfl (fun h => by cases h) rfl rfl (rX9_isTo v d l0)
theorem dX9_isIf_0 : decode cX9_isIf 0 = .ok (.aload_n 0, 1) := by decide +kernel
theorem dX9_isIf_1 : decode cX9_isIf 1 = .ok (.bipush 105, 2) := by decide +kernel
theorem dX9_isIf_3 : decode cX9_isIf 3 = .ok (.bipush 102, 2) := by decide +kernel
theorem dX9_isIf_5 : decode cX9_isIf 5 = .ok (.iconst 0, 1) := by decide +kernel
theorem dX9_isIf_6 : decode cX9_isIf 6 = .ok (.iconst 0, 1) := by decide +kernel
theorem dX9_isIf_7 : decode cX9_isIf 7 = .ok (.iconst 0, 1) := by decide +kernel
theorem dX9_isIf_8 : decode cX9_isIf 8 = .ok (.iconst 0, 1) := by decide +kernel
theorem dX9_isIf_9 : decode cX9_isIf 9 = .ok (.invokestatic 138, 3) := by decide +kernel
theorem dX9_isIf_12 : decode cX9_isIf 12 = .ok (.invokevirtual 142, 3) := by decide +kernel
theorem dX9_isIf_15 : decode cX9_isIf 15 = .ok (.ireturn, 1) := by decide +kernel
def fX9_isIf (l0 : Nat) : mM Int32 := bCall (fX9_spelled (105 : Int32) (102 : Int32) (0 : Int32) (0 : Int32) (0 : Int32) (0 : Int32)) (fun x1 => bCallV 9 l0 (fX9_isWord l0 x1) (fun x2 => bRetZ x2))
set_option maxRecDepth 20000 in
theorem rX9_isIf (v : mE) (d : Nat) (l0 : Nat) : Rz v RX9 cX9_isIf 1 (some .boolean) false emI (d + 1) 0 [(0, vR l0)] [] (fX9_isIf l0) := by
  unfold fX9_isIf
  refine rz_aload_n 1 0 dX9_isIf_0 rfl rfl ?_
  refine rz_bipush 3 dX9_isIf_1 rfl cb_105 ?_
  refine rz_bipush 5 dX9_isIf_3 rfl cb_102 ?_
  refine rz_iconst 6 dX9_isIf_5 rfl ci_0 ?_
  refine rz_iconst 7 dX9_isIf_6 rfl ci_0 ?_
  refine rz_iconst 8 dX9_isIf_7 rfl ci_0 ?_
  refine rz_iconst 9 dX9_isIf_8 rfl ci_0 ?_
  refine rz_callS 12 dX9_isIf_9 rfl (tX9_spelled v (d + 0) (105 : Int32) (102 : Int32) (0 : Int32) (0 : Int32) (0 : Int32) (0 : Int32)) rfl rfl ml_X9_138 sm_X9_spelled in_X9 co_X9_spelled rfl rfl (fun x1 => ?_)
  refine rz_callV 15 dX9_isIf_12 rfl (tX9_isWord v (d + 0) l0 x1) rfl rfl rfl rfl ml_X9_142 im_X9_isWord se_X9_X9_isWord in_X9 co_X9_isWord rfl rfl (fun x2 => ?_)
  exact rz_zreturn rfl rfl dX9_isIf_15
theorem tX9_isIf (v : mE) (d : Nat) (l0 : Nat) : Mt v yX9_isIf cX9_isIf 1 (some .boolean) emI (d + 1) [vR l0] (fX9_isIf l0) := mt_of rfl rfl (fun h => by cases h) rfl rfl (rX9_isIf v d l0)
theorem dX9_isGive_0 : decode cX9_isGive 0 = .ok (.aload_n 0, 1) := by decide +kernel
theorem dX9_isGive_1 : decode cX9_isGive 1 = .ok (.bipush 103, 2) := by decide +kernel
theorem dX9_isGive_3 : decode cX9_isGive 3 = .ok (.bipush 105, 2) := by decide +kernel
theorem dX9_isGive_5 : decode cX9_isGive 5 = .ok (.bipush 118, 2) := by decide +kernel
theorem dX9_isGive_7 : decode cX9_isGive 7 = .ok (.bipush 101, 2) := by decide +kernel
theorem dX9_isGive_9 : decode cX9_isGive 9 = .ok (.iconst 0, 1) := by decide +kernel
theorem dX9_isGive_10 : decode cX9_isGive 10 = .ok (.iconst 0, 1) := by decide +kernel
theorem dX9_isGive_11 : decode cX9_isGive 11 = .ok (.invokestatic 138, 3) := by decide +kernel
theorem dX9_isGive_14 : decode cX9_isGive 14 = .ok (.invokevirtual 142, 3) := by decide +kernel
theorem dX9_isGive_17 : decode cX9_isGive 17 = .ok (.ireturn, 1) := by decide +kernel
def fX9_isGive (l0 : Nat) : mM Int32 := bCall (fX9_spelled (103 : Int32) (105 : Int32) (118 : Int32) (101 : Int32) (0 : Int32) (0 : Int32)) (fun x1 => bCallV 9 l0 (fX9_isWord l0 x1) (fun x2 => bRetZ x2))
set_option maxRecDepth 20000 in
theorem rX9_isGive (v : mE) (d : Nat) (l0 : Nat) : Rz v RX9 cX9_isGive 1 (some .boolean) false emI (d + 1) 0 [(0, vR l0)] [] (fX9_isGive l0) := by
  unfold fX9_isGive
  refine rz_aload_n 1 0 dX9_isGive_0 rfl rfl ?_
  refine rz_bipush 3 dX9_isGive_1 rfl cb_103 ?_
  refine rz_bipush 5 dX9_isGive_3 rfl cb_105 ?_
  refine rz_bipush 7 dX9_isGive_5 rfl cb_118 ?_
  refine rz_bipush 9 dX9_isGive_7 rfl cb_101 ?_
  refine rz_iconst 10 dX9_isGive_9 rfl ci_0 ?_
  refine rz_iconst 11 dX9_isGive_10 rfl ci_0 ?_
  refine rz_callS 14 dX9_isGive_11 rfl (tX9_spelled v (d + 0) (103 : Int32) (105 : Int32) (118 : Int32) (101 : Int32) (0 : Int32) (0 : Int32)) rfl rfl ml_X9_138 sm_X9_spelled in_X9 co_X9_spelled rfl rfl (fun x1 => ?_)
  refine rz_callV 17 dX9_isGive_14 rfl (tX9_isWord v (d + 0) l0 x1) rfl rfl rfl rfl ml_X9_142 im_X9_isWord se_X9_X9_isWord in_X9 co_X9_isWord rfl rfl (fun x2 => ?_)
  exact rz_zreturn rfl rfl dX9_isGive_17
theorem tX9_isGive (v : mE) (d : Nat) (l0 : Nat) : Mt v yX9_isGive cX9_isGive 1 (some .boolean) emI (d + 1) [vR l0] (fX9_isGive l0) := mt_of rfl rfl (fun h => by cases h) rfl rfl (rX9_isGive v d l0)
theorem dX9_isOr_0 : decode cX9_isOr 0 = .ok (.aload_n 0, 1) := by decide +kernel
theorem dX9_isOr_1 : decode cX9_isOr 1 = .ok (.bipush 111, 2) := by decide +kernel
theorem dX9_isOr_3 : decode cX9_isOr 3 = .ok (.bipush 114, 2) := by decide +kernel
theorem dX9_isOr_5 : decode cX9_isOr 5 = .ok (.iconst 0, 1) := by decide +kernel
theorem dX9_isOr_6 : decode cX9_isOr 6 = .ok (.iconst 0, 1) := by decide +kernel
theorem dX9_isOr_7 : decode cX9_isOr 7 = .ok (.iconst 0, 1) := by decide +kernel
theorem dX9_isOr_8 : decode cX9_isOr 8 = .ok (.iconst 0, 1) := by decide +kernel
theorem dX9_isOr_9 : decode cX9_isOr 9 = .ok (.invokestatic 138, 3) := by decide +kernel
theorem dX9_isOr_12 : decode cX9_isOr 12 = .ok (.invokevirtual 142, 3) := by decide +kernel
theorem dX9_isOr_15 : decode cX9_isOr 15 = .ok (.ireturn, 1) := by decide +kernel
def fX9_isOr (l0 : Nat) : mM Int32 := bCall (fX9_spelled (111 : Int32) (114 : Int32) (0 : Int32) (0 : Int32) (0 : Int32) (0 : Int32)) (fun x1 => bCallV 9 l0 (fX9_isWord l0 x1) (fun x2 => bRetZ x2))
set_option maxRecDepth 20000 in
theorem rX9_isOr (v : mE) (d : Nat) (l0 : Nat) : Rz v RX9 cX9_isOr 1 (some .boolean) false emI (d + 1) 0 [(0, vR l0)] [] (fX9_isOr l0) := by
  unfold fX9_isOr
  refine rz_aload_n 1 0 dX9_isOr_0 rfl rfl ?_
  refine rz_bipush 3 dX9_isOr_1 rfl cb_111 ?_
  refine rz_bipush 5 dX9_isOr_3 rfl cb_114 ?_
  refine rz_iconst 6 dX9_isOr_5 rfl ci_0 ?_
  refine rz_iconst 7 dX9_isOr_6 rfl ci_0 ?_
  refine rz_iconst 8 dX9_isOr_7 rfl ci_0 ?_
  refine rz_iconst 9 dX9_isOr_8 rfl ci_0 ?_
  refine rz_callS 12 dX9_isOr_9 rfl (tX9_spelled v (d + 0) (111 : Int32) (114 : Int32) (0 : Int32) (0 : Int32) (0 : Int32) (0 : Int32)) rfl rfl ml_X9_138 sm_X9_spelled in_X9 co_X9_spelled rfl rfl (fun x1 => ?_)
  refine rz_callV 15 dX9_isOr_12 rfl (tX9_isWord v (d + 0) l0 x1) rfl rfl rfl rfl ml_X9_142 im_X9_isWord se_X9_X9_isWord in_X9 co_X9_isWord rfl rfl (fun x2 => ?_)
  exact rz_zreturn rfl rfl dX9_isOr_15
theorem tX9_isOr (v : mE) (d : Nat) (l0 : Nat) : Mt v yX9_isOr cX9_isOr 1 (some .boolean) emI (d + 1) [vR l0] (fX9_isOr l0) := mt_of rfl rfl (fun h => by cases h) rfl rfl (rX9_isOr v d l0)
theorem dX9_isAnd_0 : decode cX9_isAnd 0 = .ok (.aload_n 0, 1) := by decide +kernel
theorem dX9_isAnd_1 : decode cX9_isAnd 1 = .ok (.bipush 97, 2) := by decide +kernel
theorem dX9_isAnd_3 : decode cX9_isAnd 3 = .ok (.bipush 110, 2) := by decide +kernel
theorem dX9_isAnd_5 : decode cX9_isAnd 5 = .ok (.bipush 100, 2) := by decide +kernel
theorem dX9_isAnd_7 : decode cX9_isAnd 7 = .ok (.iconst 0, 1) := by decide +kernel
theorem dX9_isAnd_8 : decode cX9_isAnd 8 = .ok (.iconst 0, 1) := by decide +kernel
theorem dX9_isAnd_9 : decode cX9_isAnd 9 = .ok (.iconst 0, 1) := by decide +kernel
theorem dX9_isAnd_10 : decode cX9_isAnd 10 = .ok (.invokestatic 138, 3) := by decide +kernel
theorem dX9_isAnd_13 : decode cX9_isAnd 13 = .ok (.invokevirtual 142, 3) := by decide +kernel
theorem dX9_isAnd_16 : decode cX9_isAnd 16 = .ok (.ireturn, 1) := by decide +kernel
def fX9_isAnd (l0 : Nat) : mM Int32 := bCall (fX9_spelled (97 : Int32) (110 : Int32) (100 : Int32) (0 : Int32) (0 : Int32) (0 : Int32)) (fun x1 => bCallV 9 l0 (fX9_isWord l0 x1) (fun x2 => bRetZ x2))
set_option maxRecDepth 20000 in
theorem rX9_isAnd (v : mE) (d : Nat) (l0 : Nat) : Rz v RX9 cX9_isAnd 1 (some .boolean) false emI (d + 1) 0 [(0, vR l0)] [] (fX9_isAnd l0) := by
  unfold fX9_isAnd
  refine rz_aload_n 1 0 dX9_isAnd_0 rfl rfl ?_
  refine rz_bipush 3 dX9_isAnd_1 rfl cb_97 ?_
  refine rz_bipush 5 dX9_isAnd_3 rfl cb_110 ?_
  refine rz_bipush 7 dX9_isAnd_5 rfl cb_100 ?_
  refine rz_iconst 8 dX9_isAnd_7 rfl ci_0 ?_
  refine rz_iconst 9 dX9_isAnd_8 rfl ci_0 ?_
  refine rz_iconst 10 dX9_isAnd_9 rfl ci_0 ?_
  refine rz_callS 13 dX9_isAnd_10 rfl (tX9_spelled v (d + 0) (97 : Int32) (110 : Int32) (100 : Int32) (0 : Int32) (0 : Int32) (0 : Int32)) rfl rfl ml_X9_138 sm_X9_spelled in_X9 co_X9_spelled rfl rfl (fun x1 => ?_)
  refine rz_callV 16 dX9_isAnd_13 rfl (tX9_isWord v (d + 0) l0 x1) rfl rfl rfl rfl ml_X9_142 im_X9_isWord se_X9_X9_isWord in_X9 co_X9_isWord rfl rfl (fun x2 => ?_)
  exact rz_zreturn rfl rfl dX9_isAnd_16
theorem tX9_isAnd (v : mE) (d : Nat) (l0 : Nat) : Mt v yX9_isAnd cX9_isAnd 1 (some .boolean) emI (d + 1) [vR l0] (fX9_isAnd l0) := mt_of rfl rfl (fun h => by cases h) rfl rfl (rX9_isAnd v d l0)
theorem dX9_isNot_0 : decode cX9_isNot 0 = .ok (.aload_n 0, 1) := by decide +kernel
theorem dX9_isNot_1 : decode cX9_isNot 1 = .ok (.bipush 110, 2) := by decide +kernel
theorem dX9_isNot_3 : decode cX9_isNot 3 = .ok (.bipush 111, 2) := by decide +kernel
theorem dX9_isNot_5 : decode cX9_isNot 5 = .ok (.bipush 116, 2) := by decide +kernel
theorem dX9_isNot_7 : decode cX9_isNot 7 = .ok (.iconst 0, 1) := by decide +kernel
theorem dX9_isNot_8 : decode cX9_isNot 8 = .ok (.iconst 0, 1) := by decide +kernel
theorem dX9_isNot_9 : decode cX9_isNot 9 = .ok (.iconst 0, 1) := by decide +kernel
theorem dX9_isNot_10 : decode cX9_isNot 10 = .ok (.invokestatic 138, 3) := by decide +kernel
theorem dX9_isNot_13 : decode cX9_isNot 13 = .ok (.invokevirtual 142, 3) := by decide +kernel
theorem dX9_isNot_16 : decode cX9_isNot 16 = .ok (.ireturn, 1) := by decide +kernel
def fX9_isNot (l0 : Nat) : mM Int32 := bCall (fX9_spelled (110 : Int32) (111 : Int32) (116 : Int32) (0 : Int32) (0 : Int32) (0 : Int32)) (fun x1 => bCallV 9 l0 (fX9_isWord l0 x1) (fun x2 => bRetZ x2))
set_option maxRecDepth 20000 in
theorem rX9_isNot (v : mE) (d : Nat) (l0 : Nat) : Rz v RX9 cX9_isNot 1 (some .boolean) false emI (d + 1) 0 [(0, vR l0)] [] (fX9_isNot l0) := by
  unfold fX9_isNot
  refine rz_aload_n 1 0 dX9_isNot_0 rfl rfl ?_
  refine rz_bipush 3 dX9_isNot_1 rfl cb_110 ?_
  refine rz_bipush 5 dX9_isNot_3 rfl cb_111 ?_
  refine rz_bipush 7 dX9_isNot_5 rfl cb_116 ?_
  refine rz_iconst 8 dX9_isNot_7 rfl ci_0 ?_
  refine rz_iconst 9 dX9_isNot_8 rfl ci_0 ?_
  refine rz_iconst 10 dX9_isNot_9 rfl ci_0 ?_
  refine rz_callS 13 dX9_isNot_10 rfl (tX9_spelled v (d + 0) (110 : Int32) (111 : Int32) (116 : Int32) (0 : Int32) (0 : Int32) (0 : Int32)) rfl rfl ml_X9_138 sm_X9_spelled in_X9 co_X9_spelled rfl rfl (fun x1 => ?_)
  refine rz_callV 16 dX9_isNot_13 rfl (tX9_isWord v (d + 0) l0 x1) rfl rfl rfl rfl ml_X9_142 im_X9_isWord se_X9_X9_isWord in_X9 co_X9_isWord rfl rfl (fun x2 => ?_)
  exact rz_zreturn rfl rfl dX9_isNot_16
theorem tX9_isNot (v : mE) (d : Nat) (l0 : Nat) : Mt v yX9_isNot cX9_isNot 1 (some .boolean) emI (d + 1) [vR l0] (fX9_isNot l0) := mt_of rfl rfl (fun h => by cases h) rfl rfl (rX9_isNot v d l0)
theorem dX9_caseWord_0 : decode cX9_caseWord 0 = .ok (.aload_n 0, 1) := by decide +kernel
theorem dX9_caseWord_1 : decode cX9_caseWord 1 = .ok (.invokevirtual 146, 3) := by decide +kernel
theorem dX9_caseWord_4 : decode cX9_caseWord 4 = .ok (.ifCond .eq 5, 3) := by decide +kernel
theorem dX9_caseWord_7 : decode cX9_caseWord 7 = .ok (.iconst 0, 1) := by decide +kernel
theorem dX9_caseWord_8 : decode cX9_caseWord 8 = .ok (.ireturn, 1) := by decide +kernel
theorem dX9_caseWord_9 : decode cX9_caseWord 9 = .ok (.aload_n 0, 1) := by decide +kernel
theorem dX9_caseWord_10 : decode cX9_caseWord 10 = .ok (.bipush 114, 2) := by decide +kernel
theorem dX9_caseWord_12 : decode cX9_caseWord 12 = .ok (.bipush 101, 2) := by decide +kernel
theorem dX9_caseWord_14 : decode cX9_caseWord 14 = .ok (.bipush 97, 2) := by decide +kernel
theorem dX9_caseWord_16 : decode cX9_caseWord 16 = .ok (.bipush 99, 2) := by decide +kernel
theorem dX9_caseWord_18 : decode cX9_caseWord 18 = .ok (.bipush 104, 2) := by decide +kernel
theorem dX9_caseWord_20 : decode cX9_caseWord 20 = .ok (.bipush 101, 2) := by decide +kernel
theorem dX9_caseWord_22 : decode cX9_caseWord 22 = .ok (.invokestatic 138, 3) := by decide +kernel
theorem dX9_caseWord_25 : decode cX9_caseWord 25 = .ok (.bipush 115, 2) := by decide +kernel
theorem dX9_caseWord_27 : decode cX9_caseWord 27 = .ok (.iconst 0, 1) := by decide +kernel
theorem dX9_caseWord_28 : decode cX9_caseWord 28 = .ok (.invokestatic 150, 3) := by decide +kernel
theorem dX9_caseWord_31 : decode cX9_caseWord 31 = .ok (.invokevirtual 142, 3) := by decide +kernel
theorem dX9_caseWord_34 : decode cX9_caseWord 34 = .ok (.ifCond .eq 5, 3) := by decide +kernel
theorem dX9_caseWord_37 : decode cX9_caseWord 37 = .ok (.iconst 1, 1) := by decide +kernel
theorem dX9_caseWord_38 : decode cX9_caseWord 38 = .ok (.ireturn, 1) := by decide +kernel
theorem dX9_caseWord_39 : decode cX9_caseWord 39 = .ok (.aload_n 0, 1) := by decide +kernel
theorem dX9_caseWord_40 : decode cX9_caseWord 40 = .ok (.invokevirtual 154, 3) := by decide +kernel
theorem dX9_caseWord_43 : decode cX9_caseWord 43 = .ok (.ifCond .eq 5, 3) := by decide +kernel
theorem dX9_caseWord_46 : decode cX9_caseWord 46 = .ok (.iconst 2, 1) := by decide +kernel
theorem dX9_caseWord_47 : decode cX9_caseWord 47 = .ok (.ireturn, 1) := by decide +kernel
theorem dX9_caseWord_48 : decode cX9_caseWord 48 = .ok (.aload_n 0, 1) := by decide +kernel
theorem dX9_caseWord_49 : decode cX9_caseWord 49 = .ok (.bipush 114, 2) := by decide +kernel
theorem dX9_caseWord_51 : decode cX9_caseWord 51 = .ok (.bipush 101, 2) := by decide +kernel
theorem dX9_caseWord_53 : decode cX9_caseWord 53 = .ok (.bipush 97, 2) := by decide +kernel
theorem dX9_caseWord_55 : decode cX9_caseWord 55 = .ok (.bipush 99, 2) := by decide +kernel
theorem dX9_caseWord_57 : decode cX9_caseWord 57 = .ok (.bipush 104, 2) := by decide +kernel
theorem dX9_caseWord_59 : decode cX9_caseWord 59 = .ok (.iconst 0, 1) := by decide +kernel
theorem dX9_caseWord_60 : decode cX9_caseWord 60 = .ok (.invokestatic 138, 3) := by decide +kernel
theorem dX9_caseWord_63 : decode cX9_caseWord 63 = .ok (.invokevirtual 142, 3) := by decide +kernel
theorem dX9_caseWord_66 : decode cX9_caseWord 66 = .ok (.ifCond .eq 5, 3) := by decide +kernel
theorem dX9_caseWord_69 : decode cX9_caseWord 69 = .ok (.iconst 3, 1) := by decide +kernel
theorem dX9_caseWord_70 : decode cX9_caseWord 70 = .ok (.ireturn, 1) := by decide +kernel
theorem dX9_caseWord_71 : decode cX9_caseWord 71 = .ok (.aload_n 0, 1) := by decide +kernel
theorem dX9_caseWord_72 : decode cX9_caseWord 72 = .ok (.bipush 107, 2) := by decide +kernel
theorem dX9_caseWord_74 : decode cX9_caseWord 74 = .ok (.bipush 110, 2) := by decide +kernel
theorem dX9_caseWord_76 : decode cX9_caseWord 76 = .ok (.bipush 111, 2) := by decide +kernel
theorem dX9_caseWord_78 : decode cX9_caseWord 78 = .ok (.bipush 116, 2) := by decide +kernel
theorem dX9_caseWord_80 : decode cX9_caseWord 80 = .ok (.bipush 115, 2) := by decide +kernel
theorem dX9_caseWord_82 : decode cX9_caseWord 82 = .ok (.iconst 0, 1) := by decide +kernel
theorem dX9_caseWord_83 : decode cX9_caseWord 83 = .ok (.invokestatic 138, 3) := by decide +kernel
theorem dX9_caseWord_86 : decode cX9_caseWord 86 = .ok (.invokevirtual 142, 3) := by decide +kernel
theorem dX9_caseWord_89 : decode cX9_caseWord 89 = .ok (.ifCond .eq 5, 3) := by decide +kernel
theorem dX9_caseWord_92 : decode cX9_caseWord 92 = .ok (.iconst 4, 1) := by decide +kernel
theorem dX9_caseWord_93 : decode cX9_caseWord 93 = .ok (.ireturn, 1) := by decide +kernel
theorem dX9_caseWord_94 : decode cX9_caseWord 94 = .ok (.aload_n 0, 1) := by decide +kernel
theorem dX9_caseWord_95 : decode cX9_caseWord 95 = .ok (.invokevirtual 157, 3) := by decide +kernel
theorem dX9_caseWord_98 : decode cX9_caseWord 98 = .ok (.ifCond .eq 5, 3) := by decide +kernel
theorem dX9_caseWord_101 : decode cX9_caseWord 101 = .ok (.iconst 5, 1) := by decide +kernel
theorem dX9_caseWord_102 : decode cX9_caseWord 102 = .ok (.ireturn, 1) := by decide +kernel
theorem dX9_caseWord_103 : decode cX9_caseWord 103 = .ok (.aload_n 0, 1) := by decide +kernel
theorem dX9_caseWord_104 : decode cX9_caseWord 104 = .ok (.bipush 104, 2) := by decide +kernel
theorem dX9_caseWord_106 : decode cX9_caseWord 106 = .ok (.bipush 101, 2) := by decide +kernel
theorem dX9_caseWord_108 : decode cX9_caseWord 108 = .ok (.bipush 105, 2) := by decide +kernel
theorem dX9_caseWord_110 : decode cX9_caseWord 110 = .ok (.bipush 114, 2) := by decide +kernel
theorem dX9_caseWord_112 : decode cX9_caseWord 112 = .ok (.bipush 115, 2) := by decide +kernel
theorem dX9_caseWord_114 : decode cX9_caseWord 114 = .ok (.iconst 0, 1) := by decide +kernel
theorem dX9_caseWord_115 : decode cX9_caseWord 115 = .ok (.invokestatic 138, 3) := by decide +kernel
theorem dX9_caseWord_118 : decode cX9_caseWord 118 = .ok (.invokevirtual 142, 3) := by decide +kernel
theorem dX9_caseWord_121 : decode cX9_caseWord 121 = .ok (.ifCond .eq 6, 3) := by decide +kernel
theorem dX9_caseWord_124 : decode cX9_caseWord 124 = .ok (.bipush 6, 2) := by decide +kernel
theorem dX9_caseWord_126 : decode cX9_caseWord 126 = .ok (.ireturn, 1) := by decide +kernel
theorem dX9_caseWord_127 : decode cX9_caseWord 127 = .ok (.aload_n 0, 1) := by decide +kernel
theorem dX9_caseWord_128 : decode cX9_caseWord 128 = .ok (.bipush 121, 2) := by decide +kernel
theorem dX9_caseWord_130 : decode cX9_caseWord 130 = .ok (.bipush 101, 2) := by decide +kernel
theorem dX9_caseWord_132 : decode cX9_caseWord 132 = .ok (.bipush 97, 2) := by decide +kernel
theorem dX9_caseWord_134 : decode cX9_caseWord 134 = .ok (.bipush 114, 2) := by decide +kernel
theorem dX9_caseWord_136 : decode cX9_caseWord 136 = .ok (.iconst 0, 1) := by decide +kernel
theorem dX9_caseWord_137 : decode cX9_caseWord 137 = .ok (.iconst 0, 1) := by decide +kernel
theorem dX9_caseWord_138 : decode cX9_caseWord 138 = .ok (.invokestatic 138, 3) := by decide +kernel
theorem dX9_caseWord_141 : decode cX9_caseWord 141 = .ok (.invokevirtual 142, 3) := by decide +kernel
theorem dX9_caseWord_144 : decode cX9_caseWord 144 = .ok (.ifCond .eq 8, 3) := by decide +kernel
theorem dX9_caseWord_147 : decode cX9_caseWord 147 = .ok (.bipush 7, 2) := by decide +kernel
theorem dX9_caseWord_149 : decode cX9_caseWord 149 = .ok (.goto 4, 3) := by decide +kernel
theorem dX9_caseWord_152 : decode cX9_caseWord 152 = .ok (.iconst (-1), 1) := by decide +kernel
theorem dX9_caseWord_153 : decode cX9_caseWord 153 = .ok (.ireturn, 1) := by decide +kernel
def fX9_caseWord (l0 : Nat) : mM Int32 := bCallV 9 l0 (fX9_isHoly l0) (fun x1 => bIf (x1 = 0) (bCall (fX9_spelled (114 : Int32) (101 : Int32) (97 : Int32) (99 : Int32) (104 : Int32) (101 : Int32)) (fun x2 => bCall (fX9_longer x2 (115 : Int32) (0 : Int32)) (fun x3 => bCallV 9 l0 (fX9_isWord l0 x3) (fun x4 => bIf (x4 = 0) (bCallV 9 l0 (fX9_isYards l0) (fun x5 => bIf (x5 = 0) (bCall (fX9_spelled (114 : Int32) (101 : Int32) (97 : Int32) (99 : Int32) (104 : Int32) (0 : Int32)) (fun x6 => bCallV 9 l0 (fX9_isWord l0 x6) (fun x7 => bIf (x7 = 0) (bCall (fX9_spelled (107 : Int32) (110 : Int32) (111 : Int32) (116 : Int32) (115 : Int32) (0 : Int32)) (fun x8 => bCallV 9 l0 (fX9_isWord l0 x8) (fun x9 => bIf (x9 = 0) (bCallV 9 l0 (fX9_isAge l0) (fun x10 => bIf (x10 = 0) (bCall (fX9_spelled (104 : Int32) (101 : Int32) (105 : Int32) (114 : Int32) (115 : Int32) (0 : Int32)) (fun x11 => bCallV 9 l0 (fX9_isWord l0 x11) (fun x12 => bIf (x12 = 0) (bCall (fX9_spelled (121 : Int32) (101 : Int32) (97 : Int32) (114 : Int32) (0 : Int32) (0 : Int32)) (fun x13 => bCallV 9 l0 (fX9_isWord l0 x13) (fun x14 => bIf (x14 = 0) (bRet (-1 : Int32)) (bRet (7 : Int32))))) (bRet (6 : Int32))))) (bRet (5 : Int32)))) (bRet (4 : Int32))))) (bRet (3 : Int32))))) (bRet (2 : Int32)))) (bRet (1 : Int32)))))) (bRet (0 : Int32)))
set_option maxRecDepth 20000 in
theorem rX9_caseWord (v : mE) (d : Nat) (l0 : Nat) : Rz v RX9 cX9_caseWord 1 (some .int) false emI (d + 2) 0 [(0, vR l0)] [] (fX9_caseWord l0) := by
  unfold fX9_caseWord
  refine rz_aload_n 1 0 dX9_caseWord_0 rfl rfl ?_
  refine rz_callV 4 dX9_caseWord_1 rfl (tX9_isHoly v (d + 0) l0) rfl rfl rfl rfl ml_X9_146 im_X9_isHoly se_X9_X9_isHoly in_X9 co_X9_isHoly rfl rfl (fun x1 => ?_)
  refine rz_if_eq 9 7 dX9_caseWord_4 rfl rfl ?_ ?_
  · refine rz_aload_n 10 0 dX9_caseWord_9 rfl rfl ?_
    refine rz_bipush 12 dX9_caseWord_10 rfl cb_114 ?_
    refine rz_bipush 14 dX9_caseWord_12 rfl cb_101 ?_
    refine rz_bipush 16 dX9_caseWord_14 rfl cb_97 ?_
    refine rz_bipush 18 dX9_caseWord_16 rfl cb_99 ?_
    refine rz_bipush 20 dX9_caseWord_18 rfl cb_104 ?_
    refine rz_bipush 22 dX9_caseWord_20 rfl cb_101 ?_
    refine rz_callS 25 dX9_caseWord_22 rfl (tX9_spelled v (d + 1) (114 : Int32) (101 : Int32) (97 : Int32) (99 : Int32) (104 : Int32) (101 : Int32)) rfl rfl ml_X9_138 sm_X9_spelled in_X9 co_X9_spelled rfl rfl (fun x2 => ?_)
    refine rz_bipush 27 dX9_caseWord_25 rfl cb_115 ?_
    refine rz_iconst 28 dX9_caseWord_27 rfl ci_0 ?_
    refine rz_callS 31 dX9_caseWord_28 rfl (tX9_longer v (d + 1) x2 (115 : Int32) (0 : Int32)) rfl rfl ml_X9_150 sm_X9_longer in_X9 co_X9_longer rfl rfl (fun x3 => ?_)
    refine rz_callV 34 dX9_caseWord_31 rfl (tX9_isWord v (d + 1) l0 x3) rfl rfl rfl rfl ml_X9_142 im_X9_isWord se_X9_X9_isWord in_X9 co_X9_isWord rfl rfl (fun x4 => ?_)
    refine rz_if_eq 39 37 dX9_caseWord_34 rfl rfl ?_ ?_
    · refine rz_aload_n 40 0 dX9_caseWord_39 rfl rfl ?_
      refine rz_callV 43 dX9_caseWord_40 rfl (tX9_isYards v (d + 0) l0) rfl rfl rfl rfl ml_X9_154 im_X9_isYards se_X9_X9_isYards in_X9 co_X9_isYards rfl rfl (fun x5 => ?_)
      refine rz_if_eq 48 46 dX9_caseWord_43 rfl rfl ?_ ?_
      · refine rz_aload_n 49 0 dX9_caseWord_48 rfl rfl ?_
        refine rz_bipush 51 dX9_caseWord_49 rfl cb_114 ?_
        refine rz_bipush 53 dX9_caseWord_51 rfl cb_101 ?_
        refine rz_bipush 55 dX9_caseWord_53 rfl cb_97 ?_
        refine rz_bipush 57 dX9_caseWord_55 rfl cb_99 ?_
        refine rz_bipush 59 dX9_caseWord_57 rfl cb_104 ?_
        refine rz_iconst 60 dX9_caseWord_59 rfl ci_0 ?_
        refine rz_callS 63 dX9_caseWord_60 rfl (tX9_spelled v (d + 1) (114 : Int32) (101 : Int32) (97 : Int32) (99 : Int32) (104 : Int32) (0 : Int32)) rfl rfl ml_X9_138 sm_X9_spelled in_X9 co_X9_spelled rfl rfl (fun x6 => ?_)
        refine rz_callV 66 dX9_caseWord_63 rfl (tX9_isWord v (d + 1) l0 x6) rfl rfl rfl rfl ml_X9_142 im_X9_isWord se_X9_X9_isWord in_X9 co_X9_isWord rfl rfl (fun x7 => ?_)
        refine rz_if_eq 71 69 dX9_caseWord_66 rfl rfl ?_ ?_
        · refine rz_aload_n 72 0 dX9_caseWord_71 rfl rfl ?_
          refine rz_bipush 74 dX9_caseWord_72 rfl cb_107 ?_
          refine rz_bipush 76 dX9_caseWord_74 rfl cb_110 ?_
          refine rz_bipush 78 dX9_caseWord_76 rfl cb_111 ?_
          refine rz_bipush 80 dX9_caseWord_78 rfl cb_116 ?_
          refine rz_bipush 82 dX9_caseWord_80 rfl cb_115 ?_
          refine rz_iconst 83 dX9_caseWord_82 rfl ci_0 ?_
          refine rz_callS 86 dX9_caseWord_83 rfl (tX9_spelled v (d + 1) (107 : Int32) (110 : Int32) (111 : Int32) (116 : Int32) (115 : Int32) (0 : Int32)) rfl rfl ml_X9_138 sm_X9_spelled in_X9 co_X9_spelled rfl rfl (fun x8 => ?_)
          refine rz_callV 89 dX9_caseWord_86 rfl (tX9_isWord v (d + 1) l0 x8) rfl rfl rfl rfl ml_X9_142 im_X9_isWord se_X9_X9_isWord in_X9 co_X9_isWord rfl rfl (fun x9 => ?_)
          refine rz_if_eq 94 92 dX9_caseWord_89 rfl rfl ?_ ?_
          · refine rz_aload_n 95 0 dX9_caseWord_94 rfl rfl ?_
            refine rz_callV 98 dX9_caseWord_95 rfl (tX9_isAge v (d + 0) l0) rfl rfl rfl rfl ml_X9_157 im_X9_isAge se_X9_X9_isAge in_X9 co_X9_isAge rfl rfl (fun x10 => ?_)
            refine rz_if_eq 103 101 dX9_caseWord_98 rfl rfl ?_ ?_
            · refine rz_aload_n 104 0 dX9_caseWord_103 rfl rfl ?_
              refine rz_bipush 106 dX9_caseWord_104 rfl cb_104 ?_
              refine rz_bipush 108 dX9_caseWord_106 rfl cb_101 ?_
              refine rz_bipush 110 dX9_caseWord_108 rfl cb_105 ?_
              refine rz_bipush 112 dX9_caseWord_110 rfl cb_114 ?_
              refine rz_bipush 114 dX9_caseWord_112 rfl cb_115 ?_
              refine rz_iconst 115 dX9_caseWord_114 rfl ci_0 ?_
              refine rz_callS 118 dX9_caseWord_115 rfl (tX9_spelled v (d + 1) (104 : Int32) (101 : Int32) (105 : Int32) (114 : Int32) (115 : Int32) (0 : Int32)) rfl rfl ml_X9_138 sm_X9_spelled in_X9 co_X9_spelled rfl rfl (fun x11 => ?_)
              refine rz_callV 121 dX9_caseWord_118 rfl (tX9_isWord v (d + 1) l0 x11) rfl rfl rfl rfl ml_X9_142 im_X9_isWord se_X9_X9_isWord in_X9 co_X9_isWord rfl rfl (fun x12 => ?_)
              refine rz_if_eq 127 124 dX9_caseWord_121 rfl rfl ?_ ?_
              · refine rz_aload_n 128 0 dX9_caseWord_127 rfl rfl ?_
                refine rz_bipush 130 dX9_caseWord_128 rfl cb_121 ?_
                refine rz_bipush 132 dX9_caseWord_130 rfl cb_101 ?_
                refine rz_bipush 134 dX9_caseWord_132 rfl cb_97 ?_
                refine rz_bipush 136 dX9_caseWord_134 rfl cb_114 ?_
                refine rz_iconst 137 dX9_caseWord_136 rfl ci_0 ?_
                refine rz_iconst 138 dX9_caseWord_137 rfl ci_0 ?_
                refine rz_callS 141 dX9_caseWord_138 rfl (tX9_spelled v (d + 1) (121 : Int32) (101 : Int32) (97 : Int32) (114 : Int32) (0 : Int32) (0 : Int32)) rfl rfl ml_X9_138 sm_X9_spelled in_X9 co_X9_spelled rfl rfl (fun x13 => ?_)
                refine rz_callV 144 dX9_caseWord_141 rfl (tX9_isWord v (d + 1) l0 x13) rfl rfl rfl rfl ml_X9_142 im_X9_isWord se_X9_X9_isWord in_X9 co_X9_isWord rfl rfl (fun x14 => ?_)
                refine rz_if_eq 152 147 dX9_caseWord_144 rfl rfl ?_ ?_
                · refine rz_iconst 153 dX9_caseWord_152 rfl ci_m1 ?_
                  exact rz_ireturn rfl rfl dX9_caseWord_153
                · refine rz_bipush 149 dX9_caseWord_147 rfl cb_7 ?_
                  refine rz_goto 153 dX9_caseWord_149 rfl ?_
                  exact rz_ireturn rfl rfl dX9_caseWord_153
              · refine rz_bipush 126 dX9_caseWord_124 rfl cb_6 ?_
                exact rz_ireturn rfl rfl dX9_caseWord_126
            · refine rz_iconst 102 dX9_caseWord_101 rfl ci_5 ?_
              exact rz_ireturn rfl rfl dX9_caseWord_102
          · refine rz_iconst 93 dX9_caseWord_92 rfl ci_4 ?_
            exact rz_ireturn rfl rfl dX9_caseWord_93
        · refine rz_iconst 70 dX9_caseWord_69 rfl ci_3 ?_
          exact rz_ireturn rfl rfl dX9_caseWord_70
      · refine rz_iconst 47 dX9_caseWord_46 rfl ci_2 ?_
        exact rz_ireturn rfl rfl dX9_caseWord_47
    · refine rz_iconst 38 dX9_caseWord_37 rfl ci_1 ?_
      exact rz_ireturn rfl rfl dX9_caseWord_38
  · refine rz_iconst 8 dX9_caseWord_7 rfl ci_0 ?_
    exact rz_ireturn rfl rfl dX9_caseWord_8
theorem tX9_caseWord (v : mE) (d : Nat) (l0 : Nat) : Mt v yX9_caseWord cX9_caseWord 1 (some .int) emI (d + 2) [vR l0] (fX9_caseWord l0) := mt_of rfl rfl (fun h => by cases h) rfl rfl (rX9_caseWord v d l0)
theorem dX9_whomWord_0 : decode cX9_whomWord 0 = .ok (.aload_n 0, 1) := by decide +kernel
theorem dX9_whomWord_1 : decode cX9_whomWord 1 = .ok (.bipush 101, 2) := by decide +kernel
theorem dX9_whomWord_3 : decode cX9_whomWord 3 = .ok (.bipush 108, 2) := by decide +kernel
theorem dX9_whomWord_5 : decode cX9_whomWord 5 = .ok (.bipush 100, 2) := by decide +kernel
theorem dX9_whomWord_7 : decode cX9_whomWord 7 = .ok (.bipush 101, 2) := by decide +kernel
theorem dX9_whomWord_9 : decode cX9_whomWord 9 = .ok (.bipush 115, 2) := by decide +kernel
theorem dX9_whomWord_11 : decode cX9_whomWord 11 = .ok (.bipush 116, 2) := by decide +kernel
theorem dX9_whomWord_13 : decode cX9_whomWord 13 = .ok (.invokestatic 138, 3) := by decide +kernel
theorem dX9_whomWord_16 : decode cX9_whomWord 16 = .ok (.invokevirtual 142, 3) := by decide +kernel
theorem dX9_whomWord_19 : decode cX9_whomWord 19 = .ok (.ifCond .eq 5, 3) := by decide +kernel
theorem dX9_whomWord_22 : decode cX9_whomWord 22 = .ok (.iconst 0, 1) := by decide +kernel
theorem dX9_whomWord_23 : decode cX9_whomWord 23 = .ok (.ireturn, 1) := by decide +kernel
theorem dX9_whomWord_24 : decode cX9_whomWord 24 = .ok (.aload_n 0, 1) := by decide +kernel
theorem dX9_whomWord_25 : decode cX9_whomWord 25 = .ok (.bipush 121, 2) := by decide +kernel
theorem dX9_whomWord_27 : decode cX9_whomWord 27 = .ok (.bipush 111, 2) := by decide +kernel
theorem dX9_whomWord_29 : decode cX9_whomWord 29 = .ok (.bipush 117, 2) := by decide +kernel
theorem dX9_whomWord_31 : decode cX9_whomWord 31 = .ok (.bipush 110, 2) := by decide +kernel
theorem dX9_whomWord_33 : decode cX9_whomWord 33 = .ok (.bipush 103, 2) := by decide +kernel
theorem dX9_whomWord_35 : decode cX9_whomWord 35 = .ok (.bipush 101, 2) := by decide +kernel
theorem dX9_whomWord_37 : decode cX9_whomWord 37 = .ok (.invokestatic 138, 3) := by decide +kernel
theorem dX9_whomWord_40 : decode cX9_whomWord 40 = .ok (.bipush 115, 2) := by decide +kernel
theorem dX9_whomWord_42 : decode cX9_whomWord 42 = .ok (.bipush 116, 2) := by decide +kernel
theorem dX9_whomWord_44 : decode cX9_whomWord 44 = .ok (.invokestatic 150, 3) := by decide +kernel
theorem dX9_whomWord_47 : decode cX9_whomWord 47 = .ok (.invokevirtual 142, 3) := by decide +kernel
theorem dX9_whomWord_50 : decode cX9_whomWord 50 = .ok (.ifCond .eq 5, 3) := by decide +kernel
theorem dX9_whomWord_53 : decode cX9_whomWord 53 = .ok (.iconst 1, 1) := by decide +kernel
theorem dX9_whomWord_54 : decode cX9_whomWord 54 = .ok (.ireturn, 1) := by decide +kernel
theorem dX9_whomWord_55 : decode cX9_whomWord 55 = .ok (.aload_n 0, 1) := by decide +kernel
theorem dX9_whomWord_56 : decode cX9_whomWord 56 = .ok (.bipush 112, 2) := by decide +kernel
theorem dX9_whomWord_58 : decode cX9_whomWord 58 = .ok (.bipush 111, 2) := by decide +kernel
theorem dX9_whomWord_60 : decode cX9_whomWord 60 = .ok (.bipush 111, 2) := by decide +kernel
theorem dX9_whomWord_62 : decode cX9_whomWord 62 = .ok (.bipush 114, 2) := by decide +kernel
theorem dX9_whomWord_64 : decode cX9_whomWord 64 = .ok (.bipush 101, 2) := by decide +kernel
theorem dX9_whomWord_66 : decode cX9_whomWord 66 = .ok (.bipush 115, 2) := by decide +kernel
theorem dX9_whomWord_68 : decode cX9_whomWord 68 = .ok (.invokestatic 138, 3) := by decide +kernel
theorem dX9_whomWord_71 : decode cX9_whomWord 71 = .ok (.bipush 116, 2) := by decide +kernel
theorem dX9_whomWord_73 : decode cX9_whomWord 73 = .ok (.iconst 0, 1) := by decide +kernel
theorem dX9_whomWord_74 : decode cX9_whomWord 74 = .ok (.invokestatic 150, 3) := by decide +kernel
theorem dX9_whomWord_77 : decode cX9_whomWord 77 = .ok (.invokevirtual 142, 3) := by decide +kernel
theorem dX9_whomWord_80 : decode cX9_whomWord 80 = .ok (.ifCond .eq 5, 3) := by decide +kernel
theorem dX9_whomWord_83 : decode cX9_whomWord 83 = .ok (.iconst 2, 1) := by decide +kernel
theorem dX9_whomWord_84 : decode cX9_whomWord 84 = .ok (.ireturn, 1) := by decide +kernel
theorem dX9_whomWord_85 : decode cX9_whomWord 85 = .ok (.aload_n 0, 1) := by decide +kernel
theorem dX9_whomWord_86 : decode cX9_whomWord 86 = .ok (.bipush 101, 2) := by decide +kernel
theorem dX9_whomWord_88 : decode cX9_whomWord 88 = .ok (.bipush 97, 2) := by decide +kernel
theorem dX9_whomWord_90 : decode cX9_whomWord 90 = .ok (.bipush 99, 2) := by decide +kernel
theorem dX9_whomWord_92 : decode cX9_whomWord 92 = .ok (.bipush 104, 2) := by decide +kernel
theorem dX9_whomWord_94 : decode cX9_whomWord 94 = .ok (.iconst 0, 1) := by decide +kernel
theorem dX9_whomWord_95 : decode cX9_whomWord 95 = .ok (.iconst 0, 1) := by decide +kernel
theorem dX9_whomWord_96 : decode cX9_whomWord 96 = .ok (.invokestatic 138, 3) := by decide +kernel
theorem dX9_whomWord_99 : decode cX9_whomWord 99 = .ok (.invokevirtual 142, 3) := by decide +kernel
theorem dX9_whomWord_102 : decode cX9_whomWord 102 = .ok (.ifCond .eq 5, 3) := by decide +kernel
theorem dX9_whomWord_105 : decode cX9_whomWord 105 = .ok (.iconst 3, 1) := by decide +kernel
theorem dX9_whomWord_106 : decode cX9_whomWord 106 = .ok (.ireturn, 1) := by decide +kernel
theorem dX9_whomWord_107 : decode cX9_whomWord 107 = .ok (.aload_n 0, 1) := by decide +kernel
theorem dX9_whomWord_108 : decode cX9_whomWord 108 = .ok (.bipush 119, 2) := by decide +kernel
theorem dX9_whomWord_110 : decode cX9_whomWord 110 = .ok (.bipush 101, 2) := by decide +kernel
theorem dX9_whomWord_112 : decode cX9_whomWord 112 = .ok (.bipush 108, 2) := by decide +kernel
theorem dX9_whomWord_114 : decode cX9_whomWord 114 = .ok (.bipush 108, 2) := by decide +kernel
theorem dX9_whomWord_116 : decode cX9_whomWord 116 = .ok (.iconst 0, 1) := by decide +kernel
theorem dX9_whomWord_117 : decode cX9_whomWord 117 = .ok (.iconst 0, 1) := by decide +kernel
theorem dX9_whomWord_118 : decode cX9_whomWord 118 = .ok (.invokestatic 138, 3) := by decide +kernel
theorem dX9_whomWord_121 : decode cX9_whomWord 121 = .ok (.invokevirtual 142, 3) := by decide +kernel
theorem dX9_whomWord_124 : decode cX9_whomWord 124 = .ok (.ifCond .eq 7, 3) := by decide +kernel
theorem dX9_whomWord_127 : decode cX9_whomWord 127 = .ok (.iconst 4, 1) := by decide +kernel
theorem dX9_whomWord_128 : decode cX9_whomWord 128 = .ok (.goto 4, 3) := by decide +kernel
theorem dX9_whomWord_131 : decode cX9_whomWord 131 = .ok (.iconst (-1), 1) := by decide +kernel
theorem dX9_whomWord_132 : decode cX9_whomWord 132 = .ok (.ireturn, 1) := by decide +kernel
def fX9_whomWord (l0 : Nat) : mM Int32 := bCall (fX9_spelled (101 : Int32) (108 : Int32) (100 : Int32) (101 : Int32) (115 : Int32) (116 : Int32)) (fun x1 => bCallV 9 l0 (fX9_isWord l0 x1) (fun x2 => bIf (x2 = 0) (bCall (fX9_spelled (121 : Int32) (111 : Int32) (117 : Int32) (110 : Int32) (103 : Int32) (101 : Int32)) (fun x3 => bCall (fX9_longer x3 (115 : Int32) (116 : Int32)) (fun x4 => bCallV 9 l0 (fX9_isWord l0 x4) (fun x5 => bIf (x5 = 0) (bCall (fX9_spelled (112 : Int32) (111 : Int32) (111 : Int32) (114 : Int32) (101 : Int32) (115 : Int32)) (fun x6 => bCall (fX9_longer x6 (116 : Int32) (0 : Int32)) (fun x7 => bCallV 9 l0 (fX9_isWord l0 x7) (fun x8 => bIf (x8 = 0) (bCall (fX9_spelled (101 : Int32) (97 : Int32) (99 : Int32) (104 : Int32) (0 : Int32) (0 : Int32)) (fun x9 => bCallV 9 l0 (fX9_isWord l0 x9) (fun x10 => bIf (x10 = 0) (bCall (fX9_spelled (119 : Int32) (101 : Int32) (108 : Int32) (108 : Int32) (0 : Int32) (0 : Int32)) (fun x11 => bCallV 9 l0 (fX9_isWord l0 x11) (fun x12 => bIf (x12 = 0) (bRet (-1 : Int32)) (bRet (4 : Int32))))) (bRet (3 : Int32))))) (bRet (2 : Int32)))))) (bRet (1 : Int32)))))) (bRet (0 : Int32))))
set_option maxRecDepth 20000 in
theorem rX9_whomWord (v : mE) (d : Nat) (l0 : Nat) : Rz v RX9 cX9_whomWord 1 (some .int) false emI (d + 1) 0 [(0, vR l0)] [] (fX9_whomWord l0) := by
  unfold fX9_whomWord
  refine rz_aload_n 1 0 dX9_whomWord_0 rfl rfl ?_
  refine rz_bipush 3 dX9_whomWord_1 rfl cb_101 ?_
  refine rz_bipush 5 dX9_whomWord_3 rfl cb_108 ?_
  refine rz_bipush 7 dX9_whomWord_5 rfl cb_100 ?_
  refine rz_bipush 9 dX9_whomWord_7 rfl cb_101 ?_
  refine rz_bipush 11 dX9_whomWord_9 rfl cb_115 ?_
  refine rz_bipush 13 dX9_whomWord_11 rfl cb_116 ?_
  refine rz_callS 16 dX9_whomWord_13 rfl (tX9_spelled v (d + 0) (101 : Int32) (108 : Int32) (100 : Int32) (101 : Int32) (115 : Int32) (116 : Int32)) rfl rfl ml_X9_138 sm_X9_spelled in_X9 co_X9_spelled rfl rfl (fun x1 => ?_)
  refine rz_callV 19 dX9_whomWord_16 rfl (tX9_isWord v (d + 0) l0 x1) rfl rfl rfl rfl ml_X9_142 im_X9_isWord se_X9_X9_isWord in_X9 co_X9_isWord rfl rfl (fun x2 => ?_)
  refine rz_if_eq 24 22 dX9_whomWord_19 rfl rfl ?_ ?_
  · refine rz_aload_n 25 0 dX9_whomWord_24 rfl rfl ?_
    refine rz_bipush 27 dX9_whomWord_25 rfl cb_121 ?_
    refine rz_bipush 29 dX9_whomWord_27 rfl cb_111 ?_
    refine rz_bipush 31 dX9_whomWord_29 rfl cb_117 ?_
    refine rz_bipush 33 dX9_whomWord_31 rfl cb_110 ?_
    refine rz_bipush 35 dX9_whomWord_33 rfl cb_103 ?_
    refine rz_bipush 37 dX9_whomWord_35 rfl cb_101 ?_
    refine rz_callS 40 dX9_whomWord_37 rfl (tX9_spelled v (d + 0) (121 : Int32) (111 : Int32) (117 : Int32) (110 : Int32) (103 : Int32) (101 : Int32)) rfl rfl ml_X9_138 sm_X9_spelled in_X9 co_X9_spelled rfl rfl (fun x3 => ?_)
    refine rz_bipush 42 dX9_whomWord_40 rfl cb_115 ?_
    refine rz_bipush 44 dX9_whomWord_42 rfl cb_116 ?_
    refine rz_callS 47 dX9_whomWord_44 rfl (tX9_longer v (d + 0) x3 (115 : Int32) (116 : Int32)) rfl rfl ml_X9_150 sm_X9_longer in_X9 co_X9_longer rfl rfl (fun x4 => ?_)
    refine rz_callV 50 dX9_whomWord_47 rfl (tX9_isWord v (d + 0) l0 x4) rfl rfl rfl rfl ml_X9_142 im_X9_isWord se_X9_X9_isWord in_X9 co_X9_isWord rfl rfl (fun x5 => ?_)
    refine rz_if_eq 55 53 dX9_whomWord_50 rfl rfl ?_ ?_
    · refine rz_aload_n 56 0 dX9_whomWord_55 rfl rfl ?_
      refine rz_bipush 58 dX9_whomWord_56 rfl cb_112 ?_
      refine rz_bipush 60 dX9_whomWord_58 rfl cb_111 ?_
      refine rz_bipush 62 dX9_whomWord_60 rfl cb_111 ?_
      refine rz_bipush 64 dX9_whomWord_62 rfl cb_114 ?_
      refine rz_bipush 66 dX9_whomWord_64 rfl cb_101 ?_
      refine rz_bipush 68 dX9_whomWord_66 rfl cb_115 ?_
      refine rz_callS 71 dX9_whomWord_68 rfl (tX9_spelled v (d + 0) (112 : Int32) (111 : Int32) (111 : Int32) (114 : Int32) (101 : Int32) (115 : Int32)) rfl rfl ml_X9_138 sm_X9_spelled in_X9 co_X9_spelled rfl rfl (fun x6 => ?_)
      refine rz_bipush 73 dX9_whomWord_71 rfl cb_116 ?_
      refine rz_iconst 74 dX9_whomWord_73 rfl ci_0 ?_
      refine rz_callS 77 dX9_whomWord_74 rfl (tX9_longer v (d + 0) x6 (116 : Int32) (0 : Int32)) rfl rfl ml_X9_150 sm_X9_longer in_X9 co_X9_longer rfl rfl (fun x7 => ?_)
      refine rz_callV 80 dX9_whomWord_77 rfl (tX9_isWord v (d + 0) l0 x7) rfl rfl rfl rfl ml_X9_142 im_X9_isWord se_X9_X9_isWord in_X9 co_X9_isWord rfl rfl (fun x8 => ?_)
      refine rz_if_eq 85 83 dX9_whomWord_80 rfl rfl ?_ ?_
      · refine rz_aload_n 86 0 dX9_whomWord_85 rfl rfl ?_
        refine rz_bipush 88 dX9_whomWord_86 rfl cb_101 ?_
        refine rz_bipush 90 dX9_whomWord_88 rfl cb_97 ?_
        refine rz_bipush 92 dX9_whomWord_90 rfl cb_99 ?_
        refine rz_bipush 94 dX9_whomWord_92 rfl cb_104 ?_
        refine rz_iconst 95 dX9_whomWord_94 rfl ci_0 ?_
        refine rz_iconst 96 dX9_whomWord_95 rfl ci_0 ?_
        refine rz_callS 99 dX9_whomWord_96 rfl (tX9_spelled v (d + 0) (101 : Int32) (97 : Int32) (99 : Int32) (104 : Int32) (0 : Int32) (0 : Int32)) rfl rfl ml_X9_138 sm_X9_spelled in_X9 co_X9_spelled rfl rfl (fun x9 => ?_)
        refine rz_callV 102 dX9_whomWord_99 rfl (tX9_isWord v (d + 0) l0 x9) rfl rfl rfl rfl ml_X9_142 im_X9_isWord se_X9_X9_isWord in_X9 co_X9_isWord rfl rfl (fun x10 => ?_)
        refine rz_if_eq 107 105 dX9_whomWord_102 rfl rfl ?_ ?_
        · refine rz_aload_n 108 0 dX9_whomWord_107 rfl rfl ?_
          refine rz_bipush 110 dX9_whomWord_108 rfl cb_119 ?_
          refine rz_bipush 112 dX9_whomWord_110 rfl cb_101 ?_
          refine rz_bipush 114 dX9_whomWord_112 rfl cb_108 ?_
          refine rz_bipush 116 dX9_whomWord_114 rfl cb_108 ?_
          refine rz_iconst 117 dX9_whomWord_116 rfl ci_0 ?_
          refine rz_iconst 118 dX9_whomWord_117 rfl ci_0 ?_
          refine rz_callS 121 dX9_whomWord_118 rfl (tX9_spelled v (d + 0) (119 : Int32) (101 : Int32) (108 : Int32) (108 : Int32) (0 : Int32) (0 : Int32)) rfl rfl ml_X9_138 sm_X9_spelled in_X9 co_X9_spelled rfl rfl (fun x11 => ?_)
          refine rz_callV 124 dX9_whomWord_121 rfl (tX9_isWord v (d + 0) l0 x11) rfl rfl rfl rfl ml_X9_142 im_X9_isWord se_X9_X9_isWord in_X9 co_X9_isWord rfl rfl (fun x12 => ?_)
          refine rz_if_eq 131 127 dX9_whomWord_124 rfl rfl ?_ ?_
          · refine rz_iconst 132 dX9_whomWord_131 rfl ci_m1 ?_
            exact rz_ireturn rfl rfl dX9_whomWord_132
          · refine rz_iconst 128 dX9_whomWord_127 rfl ci_4 ?_
            refine rz_goto 132 dX9_whomWord_128 rfl ?_
            exact rz_ireturn rfl rfl dX9_whomWord_132
        · refine rz_iconst 106 dX9_whomWord_105 rfl ci_3 ?_
          exact rz_ireturn rfl rfl dX9_whomWord_106
      · refine rz_iconst 84 dX9_whomWord_83 rfl ci_2 ?_
        exact rz_ireturn rfl rfl dX9_whomWord_84
    · refine rz_iconst 54 dX9_whomWord_53 rfl ci_1 ?_
      exact rz_ireturn rfl rfl dX9_whomWord_54
  · refine rz_iconst 23 dX9_whomWord_22 rfl ci_0 ?_
    exact rz_ireturn rfl rfl dX9_whomWord_23
theorem tX9_whomWord (v : mE) (d : Nat) (l0 : Nat) : Mt v yX9_whomWord cX9_whomWord 1 (some .int) emI (d + 1) [vR l0] (fX9_whomWord l0) := mt_of rfl rfl (fun h => by cases h) rfl rfl (rX9_whomWord v d l0)
theorem dX9_isKept_0 : decode cX9_isKept 0 = .ok (.aload_n 0, 1) := by decide +kernel
theorem dX9_isKept_1 : decode cX9_isKept 1 = .ok (.invokevirtual 160, 3) := by decide +kernel
theorem dX9_isKept_4 : decode cX9_isKept 4 = .ok (.ifCond .ne 80, 3) := by decide +kernel
theorem dX9_isKept_7 : decode cX9_isKept 7 = .ok (.aload_n 0, 1) := by decide +kernel
theorem dX9_isKept_8 : decode cX9_isKept 8 = .ok (.invokevirtual 163, 3) := by decide +kernel
theorem dX9_isKept_11 : decode cX9_isKept 11 = .ok (.ifCond .ne 73, 3) := by decide +kernel
theorem dX9_isKept_14 : decode cX9_isKept 14 = .ok (.aload_n 0, 1) := by decide +kernel
theorem dX9_isKept_15 : decode cX9_isKept 15 = .ok (.invokevirtual 166, 3) := by decide +kernel
theorem dX9_isKept_18 : decode cX9_isKept 18 = .ok (.ifCond .ne 66, 3) := by decide +kernel
theorem dX9_isKept_21 : decode cX9_isKept 21 = .ok (.aload_n 0, 1) := by decide +kernel
theorem dX9_isKept_22 : decode cX9_isKept 22 = .ok (.invokevirtual 169, 3) := by decide +kernel
theorem dX9_isKept_25 : decode cX9_isKept 25 = .ok (.ifCond .ne 59, 3) := by decide +kernel
theorem dX9_isKept_28 : decode cX9_isKept 28 = .ok (.aload_n 0, 1) := by decide +kernel
theorem dX9_isKept_29 : decode cX9_isKept 29 = .ok (.invokevirtual 172, 3) := by decide +kernel
theorem dX9_isKept_32 : decode cX9_isKept 32 = .ok (.ifCond .ne 52, 3) := by decide +kernel
theorem dX9_isKept_35 : decode cX9_isKept 35 = .ok (.aload_n 0, 1) := by decide +kernel
theorem dX9_isKept_36 : decode cX9_isKept 36 = .ok (.invokevirtual 175, 3) := by decide +kernel
theorem dX9_isKept_39 : decode cX9_isKept 39 = .ok (.ifCond .ne 45, 3) := by decide +kernel
theorem dX9_isKept_42 : decode cX9_isKept 42 = .ok (.aload_n 0, 1) := by decide +kernel
theorem dX9_isKept_43 : decode cX9_isKept 43 = .ok (.invokevirtual 178, 3) := by decide +kernel
theorem dX9_isKept_46 : decode cX9_isKept 46 = .ok (.ifCond .ne 38, 3) := by decide +kernel
theorem dX9_isKept_49 : decode cX9_isKept 49 = .ok (.aload_n 0, 1) := by decide +kernel
theorem dX9_isKept_50 : decode cX9_isKept 50 = .ok (.invokevirtual 181, 3) := by decide +kernel
theorem dX9_isKept_53 : decode cX9_isKept 53 = .ok (.ifCond .ne 31, 3) := by decide +kernel
theorem dX9_isKept_56 : decode cX9_isKept 56 = .ok (.aload_n 0, 1) := by decide +kernel
theorem dX9_isKept_57 : decode cX9_isKept 57 = .ok (.invokevirtual 184, 3) := by decide +kernel
theorem dX9_isKept_60 : decode cX9_isKept 60 = .ok (.ifCond .ne 24, 3) := by decide +kernel
theorem dX9_isKept_63 : decode cX9_isKept 63 = .ok (.aload_n 0, 1) := by decide +kernel
theorem dX9_isKept_64 : decode cX9_isKept 64 = .ok (.invokevirtual 187, 3) := by decide +kernel
theorem dX9_isKept_67 : decode cX9_isKept 67 = .ok (.ifCond .ne 17, 3) := by decide +kernel
theorem dX9_isKept_70 : decode cX9_isKept 70 = .ok (.aload_n 0, 1) := by decide +kernel
theorem dX9_isKept_71 : decode cX9_isKept 71 = .ok (.invokevirtual 190, 3) := by decide +kernel
theorem dX9_isKept_74 : decode cX9_isKept 74 = .ok (.ifCond .ne 10, 3) := by decide +kernel
theorem dX9_isKept_77 : decode cX9_isKept 77 = .ok (.aload_n 0, 1) := by decide +kernel
theorem dX9_isKept_78 : decode cX9_isKept 78 = .ok (.invokevirtual 193, 3) := by decide +kernel
theorem dX9_isKept_81 : decode cX9_isKept 81 = .ok (.ifCond .eq 5, 3) := by decide +kernel
theorem dX9_isKept_84 : decode cX9_isKept 84 = .ok (.iconst 1, 1) := by decide +kernel
theorem dX9_isKept_85 : decode cX9_isKept 85 = .ok (.ireturn, 1) := by decide +kernel
theorem dX9_isKept_86 : decode cX9_isKept 86 = .ok (.aload_n 0, 1) := by decide +kernel
theorem dX9_isKept_87 : decode cX9_isKept 87 = .ok (.invokevirtual 196, 3) := by decide +kernel
theorem dX9_isKept_90 : decode cX9_isKept 90 = .ok (.ifCond .ne 45, 3) := by decide +kernel
theorem dX9_isKept_93 : decode cX9_isKept 93 = .ok (.aload_n 0, 1) := by decide +kernel
theorem dX9_isKept_94 : decode cX9_isKept 94 = .ok (.invokevirtual 199, 3) := by decide +kernel
theorem dX9_isKept_97 : decode cX9_isKept 97 = .ok (.ifCond .ne 38, 3) := by decide +kernel
theorem dX9_isKept_100 : decode cX9_isKept 100 = .ok (.aload_n 0, 1) := by decide +kernel
theorem dX9_isKept_101 : decode cX9_isKept 101 = .ok (.invokevirtual 202, 3) := by decide +kernel
theorem dX9_isKept_104 : decode cX9_isKept 104 = .ok (.ifCond .ne 31, 3) := by decide +kernel
theorem dX9_isKept_107 : decode cX9_isKept 107 = .ok (.aload_n 0, 1) := by decide +kernel
theorem dX9_isKept_108 : decode cX9_isKept 108 = .ok (.invokevirtual 205, 3) := by decide +kernel
theorem dX9_isKept_111 : decode cX9_isKept 111 = .ok (.ifCond .ne 24, 3) := by decide +kernel
theorem dX9_isKept_114 : decode cX9_isKept 114 = .ok (.aload_n 0, 1) := by decide +kernel
theorem dX9_isKept_115 : decode cX9_isKept 115 = .ok (.invokevirtual 208, 3) := by decide +kernel
theorem dX9_isKept_118 : decode cX9_isKept 118 = .ok (.ifCond .ne 17, 3) := by decide +kernel
theorem dX9_isKept_121 : decode cX9_isKept 121 = .ok (.aload_n 0, 1) := by decide +kernel
theorem dX9_isKept_122 : decode cX9_isKept 122 = .ok (.invokevirtual 211, 3) := by decide +kernel
theorem dX9_isKept_125 : decode cX9_isKept 125 = .ok (.ifCond .ge 10, 3) := by decide +kernel
theorem dX9_isKept_128 : decode cX9_isKept 128 = .ok (.aload_n 0, 1) := by decide +kernel
theorem dX9_isKept_129 : decode cX9_isKept 129 = .ok (.invokevirtual 215, 3) := by decide +kernel
theorem dX9_isKept_132 : decode cX9_isKept 132 = .ok (.ifCond .lt 7, 3) := by decide +kernel
theorem dX9_isKept_135 : decode cX9_isKept 135 = .ok (.iconst 1, 1) := by decide +kernel
theorem dX9_isKept_136 : decode cX9_isKept 136 = .ok (.goto 4, 3) := by decide +kernel
theorem dX9_isKept_139 : decode cX9_isKept 139 = .ok (.iconst 0, 1) := by decide +kernel
theorem dX9_isKept_140 : decode cX9_isKept 140 = .ok (.ireturn, 1) := by decide +kernel
def fX9_isKept (l0 : Nat) : mM Int32 := bCallV 9 l0 (fX9_isWater l0) (fun x1 => bIf (x1 = 0) (bCallV 9 l0 (fX9_isBottom l0) (fun x2 => bIf (x2 = 0) (bCallV 9 l0 (fX9_isSinks l0) (fun x3 => bIf (x3 = 0) (bCallV 9 l0 (fX9_isRain l0) (fun x4 => bIf (x4 = 0) (bCallV 9 l0 (fX9_isBy l0) (fun x5 => bIf (x5 = 0) (bCallV 9 l0 (fX9_isPersonWord l0) (fun x6 => bIf (x6 = 0) (bCallV 9 l0 (fX9_isOf l0) (fun x7 => bIf (x7 = 0) (bCallV 9 l0 (fX9_isDies l0) (fun x8 => bIf (x8 = 0) (bCallV 9 l0 (fX9_isRopeWord l0) (fun x9 => bIf (x9 = 0) (bCallV 9 l0 (fX9_isSlips l0) (fun x10 => bIf (x10 = 0) (bCallV 9 l0 (fX9_isFlood l0) (fun x11 => bIf (x11 = 0) (bCallV 9 l0 (fX9_isTo l0) (fun x12 => bIf (x12 = 0) (bCallV 9 l0 (fX9_isIf l0) (fun x13 => bIf (x13 = 0) (bCallV 9 l0 (fX9_isGive l0) (fun x14 => bIf (x14 = 0) (bCallV 9 l0 (fX9_isOr l0) (fun x15 => bIf (x15 = 0) (bCallV 9 l0 (fX9_isAnd l0) (fun x16 => bIf (x16 = 0) (bCallV 9 l0 (fX9_isNot l0) (fun x17 => bIf (x17 = 0) (bCallV 9 l0 (fX9_caseWord l0) (fun x18 => bIf (0 ≤ x18) (bRetZ (1 : Int32)) (bCallV 9 l0 (fX9_whomWord l0) (fun x19 => bIf (x19 < 0) (bRetZ (0 : Int32)) (bRetZ (1 : Int32)))))) (bRetZ (1 : Int32)))) (bRetZ (1 : Int32)))) (bRetZ (1 : Int32)))) (bRetZ (1 : Int32)))) (bRetZ (1 : Int32)))) (bRetZ (1 : Int32)))) (bRetZ (1 : Int32)))) (bRetZ (1 : Int32)))) (bRetZ (1 : Int32)))) (bRetZ (1 : Int32)))) (bRetZ (1 : Int32)))) (bRetZ (1 : Int32)))) (bRetZ (1 : Int32)))) (bRetZ (1 : Int32)))) (bRetZ (1 : Int32)))) (bRetZ (1 : Int32)))) (bRetZ (1 : Int32)))
set_option maxRecDepth 20000 in
theorem rX9_isKept (v : mE) (d : Nat) (l0 : Nat) : Rz v RX9 cX9_isKept 1 (some .boolean) false emI (d + 3) 0 [(0, vR l0)] [] (fX9_isKept l0) := by
  unfold fX9_isKept
  refine rz_aload_n 1 0 dX9_isKept_0 rfl rfl ?_
  refine rz_callV 4 dX9_isKept_1 rfl (tX9_isWater v (d + 1) l0) rfl rfl rfl rfl ml_X9_160 im_X9_isWater se_X9_X9_isWater in_X9 co_X9_isWater rfl rfl (fun x1 => ?_)
  refine rz_if_ne 84 7 dX9_isKept_4 rfl rfl ?_ ?_
  · refine rz_iconst 85 dX9_isKept_84 rfl ci_1 ?_
    exact rz_zreturn rfl rfl dX9_isKept_85
  · refine rz_aload_n 8 0 dX9_isKept_7 rfl rfl ?_
    refine rz_callV 11 dX9_isKept_8 rfl (tX9_isBottom v (d + 1) l0) rfl rfl rfl rfl ml_X9_163 im_X9_isBottom se_X9_X9_isBottom in_X9 co_X9_isBottom rfl rfl (fun x2 => ?_)
    refine rz_if_ne 84 14 dX9_isKept_11 rfl rfl ?_ ?_
    · refine rz_iconst 85 dX9_isKept_84 rfl ci_1 ?_
      exact rz_zreturn rfl rfl dX9_isKept_85
    · refine rz_aload_n 15 0 dX9_isKept_14 rfl rfl ?_
      refine rz_callV 18 dX9_isKept_15 rfl (tX9_isSinks v (d + 1) l0) rfl rfl rfl rfl ml_X9_166 im_X9_isSinks se_X9_X9_isSinks in_X9 co_X9_isSinks rfl rfl (fun x3 => ?_)
      refine rz_if_ne 84 21 dX9_isKept_18 rfl rfl ?_ ?_
      · refine rz_iconst 85 dX9_isKept_84 rfl ci_1 ?_
        exact rz_zreturn rfl rfl dX9_isKept_85
      · refine rz_aload_n 22 0 dX9_isKept_21 rfl rfl ?_
        refine rz_callV 25 dX9_isKept_22 rfl (tX9_isRain v (d + 1) l0) rfl rfl rfl rfl ml_X9_169 im_X9_isRain se_X9_X9_isRain in_X9 co_X9_isRain rfl rfl (fun x4 => ?_)
        refine rz_if_ne 84 28 dX9_isKept_25 rfl rfl ?_ ?_
        · refine rz_iconst 85 dX9_isKept_84 rfl ci_1 ?_
          exact rz_zreturn rfl rfl dX9_isKept_85
        · refine rz_aload_n 29 0 dX9_isKept_28 rfl rfl ?_
          refine rz_callV 32 dX9_isKept_29 rfl (tX9_isBy v (d + 1) l0) rfl rfl rfl rfl ml_X9_172 im_X9_isBy se_X9_X9_isBy in_X9 co_X9_isBy rfl rfl (fun x5 => ?_)
          refine rz_if_ne 84 35 dX9_isKept_32 rfl rfl ?_ ?_
          · refine rz_iconst 85 dX9_isKept_84 rfl ci_1 ?_
            exact rz_zreturn rfl rfl dX9_isKept_85
          · refine rz_aload_n 36 0 dX9_isKept_35 rfl rfl ?_
            refine rz_callV 39 dX9_isKept_36 rfl (tX9_isPersonWord v (d + 1) l0) rfl rfl rfl rfl ml_X9_175 im_X9_isPersonWord se_X9_X9_isPersonWord in_X9 co_X9_isPersonWord rfl rfl (fun x6 => ?_)
            refine rz_if_ne 84 42 dX9_isKept_39 rfl rfl ?_ ?_
            · refine rz_iconst 85 dX9_isKept_84 rfl ci_1 ?_
              exact rz_zreturn rfl rfl dX9_isKept_85
            · refine rz_aload_n 43 0 dX9_isKept_42 rfl rfl ?_
              refine rz_callV 46 dX9_isKept_43 rfl (tX9_isOf v (d + 1) l0) rfl rfl rfl rfl ml_X9_178 im_X9_isOf se_X9_X9_isOf in_X9 co_X9_isOf rfl rfl (fun x7 => ?_)
              refine rz_if_ne 84 49 dX9_isKept_46 rfl rfl ?_ ?_
              · refine rz_iconst 85 dX9_isKept_84 rfl ci_1 ?_
                exact rz_zreturn rfl rfl dX9_isKept_85
              · refine rz_aload_n 50 0 dX9_isKept_49 rfl rfl ?_
                refine rz_callV 53 dX9_isKept_50 rfl (tX9_isDies v (d + 1) l0) rfl rfl rfl rfl ml_X9_181 im_X9_isDies se_X9_X9_isDies in_X9 co_X9_isDies rfl rfl (fun x8 => ?_)
                refine rz_if_ne 84 56 dX9_isKept_53 rfl rfl ?_ ?_
                · refine rz_iconst 85 dX9_isKept_84 rfl ci_1 ?_
                  exact rz_zreturn rfl rfl dX9_isKept_85
                · refine rz_aload_n 57 0 dX9_isKept_56 rfl rfl ?_
                  refine rz_callV 60 dX9_isKept_57 rfl (tX9_isRopeWord v (d + 1) l0) rfl rfl rfl rfl ml_X9_184 im_X9_isRopeWord se_X9_X9_isRopeWord in_X9 co_X9_isRopeWord rfl rfl (fun x9 => ?_)
                  refine rz_if_ne 84 63 dX9_isKept_60 rfl rfl ?_ ?_
                  · refine rz_iconst 85 dX9_isKept_84 rfl ci_1 ?_
                    exact rz_zreturn rfl rfl dX9_isKept_85
                  · refine rz_aload_n 64 0 dX9_isKept_63 rfl rfl ?_
                    refine rz_callV 67 dX9_isKept_64 rfl (tX9_isSlips v (d + 1) l0) rfl rfl rfl rfl ml_X9_187 im_X9_isSlips se_X9_X9_isSlips in_X9 co_X9_isSlips rfl rfl (fun x10 => ?_)
                    refine rz_if_ne 84 70 dX9_isKept_67 rfl rfl ?_ ?_
                    · refine rz_iconst 85 dX9_isKept_84 rfl ci_1 ?_
                      exact rz_zreturn rfl rfl dX9_isKept_85
                    · refine rz_aload_n 71 0 dX9_isKept_70 rfl rfl ?_
                      refine rz_callV 74 dX9_isKept_71 rfl (tX9_isFlood v (d + 1) l0) rfl rfl rfl rfl ml_X9_190 im_X9_isFlood se_X9_X9_isFlood in_X9 co_X9_isFlood rfl rfl (fun x11 => ?_)
                      refine rz_if_ne 84 77 dX9_isKept_74 rfl rfl ?_ ?_
                      · refine rz_iconst 85 dX9_isKept_84 rfl ci_1 ?_
                        exact rz_zreturn rfl rfl dX9_isKept_85
                      · refine rz_aload_n 78 0 dX9_isKept_77 rfl rfl ?_
                        refine rz_callV 81 dX9_isKept_78 rfl (tX9_isTo v (d + 1) l0) rfl rfl rfl rfl ml_X9_193 im_X9_isTo se_X9_X9_isTo in_X9 co_X9_isTo rfl rfl (fun x12 => ?_)
                        refine rz_if_eq 86 84 dX9_isKept_81 rfl rfl ?_ ?_
                        · refine rz_aload_n 87 0 dX9_isKept_86 rfl rfl ?_
                          refine rz_callV 90 dX9_isKept_87 rfl (tX9_isIf v (d + 1) l0) rfl rfl rfl rfl ml_X9_196 im_X9_isIf se_X9_X9_isIf in_X9 co_X9_isIf rfl rfl (fun x13 => ?_)
                          refine rz_if_ne 135 93 dX9_isKept_90 rfl rfl ?_ ?_
                          · refine rz_iconst 136 dX9_isKept_135 rfl ci_1 ?_
                            refine rz_goto 140 dX9_isKept_136 rfl ?_
                            exact rz_zreturn rfl rfl dX9_isKept_140
                          · refine rz_aload_n 94 0 dX9_isKept_93 rfl rfl ?_
                            refine rz_callV 97 dX9_isKept_94 rfl (tX9_isGive v (d + 1) l0) rfl rfl rfl rfl ml_X9_199 im_X9_isGive se_X9_X9_isGive in_X9 co_X9_isGive rfl rfl (fun x14 => ?_)
                            refine rz_if_ne 135 100 dX9_isKept_97 rfl rfl ?_ ?_
                            · refine rz_iconst 136 dX9_isKept_135 rfl ci_1 ?_
                              refine rz_goto 140 dX9_isKept_136 rfl ?_
                              exact rz_zreturn rfl rfl dX9_isKept_140
                            · refine rz_aload_n 101 0 dX9_isKept_100 rfl rfl ?_
                              refine rz_callV 104 dX9_isKept_101 rfl (tX9_isOr v (d + 1) l0) rfl rfl rfl rfl ml_X9_202 im_X9_isOr se_X9_X9_isOr in_X9 co_X9_isOr rfl rfl (fun x15 => ?_)
                              refine rz_if_ne 135 107 dX9_isKept_104 rfl rfl ?_ ?_
                              · refine rz_iconst 136 dX9_isKept_135 rfl ci_1 ?_
                                refine rz_goto 140 dX9_isKept_136 rfl ?_
                                exact rz_zreturn rfl rfl dX9_isKept_140
                              · refine rz_aload_n 108 0 dX9_isKept_107 rfl rfl ?_
                                refine rz_callV 111 dX9_isKept_108 rfl (tX9_isAnd v (d + 1) l0) rfl rfl rfl rfl ml_X9_205 im_X9_isAnd se_X9_X9_isAnd in_X9 co_X9_isAnd rfl rfl (fun x16 => ?_)
                                refine rz_if_ne 135 114 dX9_isKept_111 rfl rfl ?_ ?_
                                · refine rz_iconst 136 dX9_isKept_135 rfl ci_1 ?_
                                  refine rz_goto 140 dX9_isKept_136 rfl ?_
                                  exact rz_zreturn rfl rfl dX9_isKept_140
                                · refine rz_aload_n 115 0 dX9_isKept_114 rfl rfl ?_
                                  refine rz_callV 118 dX9_isKept_115 rfl (tX9_isNot v (d + 1) l0) rfl rfl rfl rfl ml_X9_208 im_X9_isNot se_X9_X9_isNot in_X9 co_X9_isNot rfl rfl (fun x17 => ?_)
                                  refine rz_if_ne 135 121 dX9_isKept_118 rfl rfl ?_ ?_
                                  · refine rz_iconst 136 dX9_isKept_135 rfl ci_1 ?_
                                    refine rz_goto 140 dX9_isKept_136 rfl ?_
                                    exact rz_zreturn rfl rfl dX9_isKept_140
                                  · refine rz_aload_n 122 0 dX9_isKept_121 rfl rfl ?_
                                    refine rz_callV 125 dX9_isKept_122 rfl (tX9_caseWord v (d + 0) l0) rfl rfl rfl rfl ml_X9_211 im_X9_caseWord se_X9_X9_caseWord in_X9 co_X9_caseWord rfl rfl (fun x18 => ?_)
                                    refine rz_if_ge 135 128 dX9_isKept_125 rfl rfl ?_ ?_
                                    · refine rz_iconst 136 dX9_isKept_135 rfl ci_1 ?_
                                      refine rz_goto 140 dX9_isKept_136 rfl ?_
                                      exact rz_zreturn rfl rfl dX9_isKept_140
                                    · refine rz_aload_n 129 0 dX9_isKept_128 rfl rfl ?_
                                      refine rz_callV 132 dX9_isKept_129 rfl (tX9_whomWord v (d + 1) l0) rfl rfl rfl rfl ml_X9_215 im_X9_whomWord se_X9_X9_whomWord in_X9 co_X9_whomWord rfl rfl (fun x19 => ?_)
                                      refine rz_if_lt 139 135 dX9_isKept_132 rfl rfl ?_ ?_
                                      · refine rz_iconst 140 dX9_isKept_139 rfl ci_0 ?_
                                        exact rz_zreturn rfl rfl dX9_isKept_140
                                      · refine rz_iconst 136 dX9_isKept_135 rfl ci_1 ?_
                                        refine rz_goto 140 dX9_isKept_136 rfl ?_
                                        exact rz_zreturn rfl rfl dX9_isKept_140
                        · refine rz_iconst 85 dX9_isKept_84 rfl ci_1 ?_
                          exact rz_zreturn rfl rfl dX9_isKept_85
theorem tX9_isKept (v : mE) (d : Nat) (l0 : Nat) : Mt v yX9_isKept cX9_isKept 1 (some .boolean) emI (d + 3) [vR l0] (fX9_isKept l0) := mt_of rfl rfl (fun h => by cases h) rfl rfl (rX9_isKept v d l0)
theorem dX9_isName_0 : decode cX9_isName 0 = .ok (.aload_n 0, 1) := by decide +kernel
theorem dX9_isName_1 : decode cX9_isName 1 = .ok (.getfield 113, 3) := by decide +kernel
theorem dX9_isName_4 : decode cX9_isName 4 = .ok (.iconst 1, 1) := by decide +kernel
theorem dX9_isName_5 : decode cX9_isName 5 = .ok (.if_icmp .ne 23, 3) := by decide +kernel
theorem dX9_isName_8 : decode cX9_isName 8 = .ok (.aload_n 0, 1) := by decide +kernel
theorem dX9_isName_9 : decode cX9_isName 9 = .ok (.getfield 126, 3) := by decide +kernel
theorem dX9_isName_12 : decode cX9_isName 12 = .ok (.bipush 8, 2) := by decide +kernel
theorem dX9_isName_14 : decode cX9_isName 14 = .ok (.if_icmp .gt 14, 3) := by decide +kernel
theorem dX9_isName_17 : decode cX9_isName 17 = .ok (.aload_n 0, 1) := by decide +kernel
theorem dX9_isName_18 : decode cX9_isName 18 = .ok (.invokevirtual 218, 3) := by decide +kernel
theorem dX9_isName_21 : decode cX9_isName 21 = .ok (.ifCond .ne 7, 3) := by decide +kernel
theorem dX9_isName_24 : decode cX9_isName 24 = .ok (.iconst 1, 1) := by decide +kernel
theorem dX9_isName_25 : decode cX9_isName 25 = .ok (.goto 4, 3) := by decide +kernel
theorem dX9_isName_28 : decode cX9_isName 28 = .ok (.iconst 0, 1) := by decide +kernel
theorem dX9_isName_29 : decode cX9_isName 29 = .ok (.ireturn, 1) := by decide +kernel
def fX9_isName (l0 : Nat) : mM Int32 := bGI 9 l0 14 (fun x1 => bIf (x1 = (1 : Int32)) (bGI 9 l0 18 (fun x2 => bIf ((8 : Int32) < x2) (bRetZ (0 : Int32)) (bCallV 9 l0 (fX9_isKept l0) (fun x3 => bIf (x3 = 0) (bRetZ (1 : Int32)) (bRetZ (0 : Int32)))))) (bRetZ (0 : Int32)))
set_option maxRecDepth 20000 in
theorem rX9_isName (v : mE) (d : Nat) (l0 : Nat) : Rz v RX9 cX9_isName 1 (some .boolean) false emI (d + 4) 0 [(0, vR l0)] [] (fX9_isName l0) := by
  unfold fX9_isName
  refine rz_aload_n 1 0 dX9_isName_0 rfl rfl ?_
  refine rz_gI 4 dX9_isName_1 rfl rfl fl_X9_113 (fun x1 => ?_)
  refine rz_iconst 5 dX9_isName_4 rfl ci_1 ?_
  refine rz_icmp_ne 28 8 dX9_isName_5 rfl rfl ?_ ?_
  · refine rz_iconst 29 dX9_isName_28 rfl ci_0 ?_
    exact rz_zreturn rfl rfl dX9_isName_29
  · refine rz_aload_n 9 0 dX9_isName_8 rfl rfl ?_
    refine rz_gI 12 dX9_isName_9 rfl rfl fl_X9_126 (fun x2 => ?_)
    refine rz_bipush 14 dX9_isName_12 rfl cb_8 ?_
    refine rz_icmp_gt 28 17 dX9_isName_14 rfl rfl ?_ ?_
    · refine rz_iconst 29 dX9_isName_28 rfl ci_0 ?_
      exact rz_zreturn rfl rfl dX9_isName_29
    · refine rz_aload_n 18 0 dX9_isName_17 rfl rfl ?_
      refine rz_callV 21 dX9_isName_18 rfl (tX9_isKept v (d + 0) l0) rfl rfl rfl rfl ml_X9_218 im_X9_isKept se_X9_X9_isKept in_X9 co_X9_isKept rfl rfl (fun x3 => ?_)
      refine rz_if_ne 28 24 dX9_isName_21 rfl rfl ?_ ?_
      · refine rz_iconst 29 dX9_isName_28 rfl ci_0 ?_
        exact rz_zreturn rfl rfl dX9_isName_29
      · refine rz_iconst 25 dX9_isName_24 rfl ci_1 ?_
        refine rz_goto 29 dX9_isName_25 rfl ?_
        exact rz_zreturn rfl rfl dX9_isName_29
theorem tX9_isName (v : mE) (d : Nat) (l0 : Nat) : Mt v yX9_isName cX9_isName 1 (some .boolean) emI (d + 4) [vR l0] (fX9_isName l0) := mt_of rfl rfl (fun h => by cases h) rfl rfl (rX9_isName v d l0)
theorem dX9_fail_0 : decode cX9_fail 0 = .ok (.aload_n 0, 1) := by decide +kernel
theorem dX9_fail_1 : decode cX9_fail 1 = .ok (.getfield 221, 3) := by decide +kernel
theorem dX9_fail_4 : decode cX9_fail 4 = .ok (.ifCond .le 4, 3) := by decide +kernel
theorem dX9_fail_7 : decode cX9_fail 7 = .ok (.return_, 1) := by decide +kernel
theorem dX9_fail_8 : decode cX9_fail 8 = .ok (.aload_n 0, 1) := by decide +kernel
theorem dX9_fail_9 : decode cX9_fail 9 = .ok (.iload_n 1, 1) := by decide +kernel
theorem dX9_fail_10 : decode cX9_fail 10 = .ok (.putfield 221, 3) := by decide +kernel
theorem dX9_fail_13 : decode cX9_fail 13 = .ok (.aload_n 0, 1) := by decide +kernel
theorem dX9_fail_14 : decode cX9_fail 14 = .ok (.iload_n 2, 1) := by decide +kernel
theorem dX9_fail_15 : decode cX9_fail 15 = .ok (.putfield 224, 3) := by decide +kernel
theorem dX9_fail_18 : decode cX9_fail 18 = .ok (.return_, 1) := by decide +kernel
def fX9_fail (l0 : Nat) (l1 : Int32) (l2 : Int32) : mM Unit := bGI 9 l0 12 (fun x1 => bIf (x1 ≤ 0) (bPI 9 l0 12 l1 (bPI 9 l0 13 l2 (bRet ()))) (bRet ()))
set_option maxRecDepth 20000 in
theorem rX9_fail (v : mE) (d : Nat) (l0 : Nat) (l1 : Int32) (l2 : Int32) : Rz v RX9 cX9_fail 3 none false emU (d + 0) 0 [(0, vR l0), (1, vI l1), (2, vI l2)] [] (fX9_fail l0 l1 l2) := by
  unfold fX9_fail
  refine rz_aload_n 1 0 dX9_fail_0 rfl rfl ?_
  refine rz_gI 4 dX9_fail_1 rfl rfl fl_X9_221 (fun x1 => ?_)
  refine rz_if_le 8 7 dX9_fail_4 rfl rfl ?_ ?_
  · refine rz_aload_n 9 0 dX9_fail_8 rfl rfl ?_
    refine rz_iload_n 10 1 dX9_fail_9 rfl rfl ?_
    refine rz_pI 13 dX9_fail_10 rfl rfl rfl rfl fl_X9_221 ?_
    refine rz_aload_n 14 0 dX9_fail_13 rfl rfl ?_
    refine rz_iload_n 15 2 dX9_fail_14 rfl rfl ?_
    refine rz_pI 18 dX9_fail_15 rfl rfl rfl rfl fl_X9_224 ?_
    exact rz_return rfl rfl dX9_fail_18
  · exact rz_return rfl rfl dX9_fail_7
theorem tX9_fail (v : mE) (d : Nat) (l0 : Nat) (l1 : Int32) (l2 : Int32) : Mt v yX9_fail cX9_fail 3 none emU (d + 0) [vR l0, vI l1, vI l2] (fX9_fail l0 l1 l2) := mt_of rfl rfl (fun h => by cases h) rfl rfl (rX9_fail v d l0 l1 l2)
theorem dX9_wrong_0 : decode cX9_wrong 0 = .ok (.aload_n 0, 1) := by decide +kernel
theorem dX9_wrong_1 : decode cX9_wrong 1 = .ok (.aload_n 0, 1) := by decide +kernel
theorem dX9_wrong_2 : decode cX9_wrong 2 = .ok (.getfield 113, 3) := by decide +kernel
theorem dX9_wrong_5 : decode cX9_wrong 5 = .ok (.iconst 4, 1) := by decide +kernel
theorem dX9_wrong_6 : decode cX9_wrong 6 = .ok (.if_icmp .ne 7, 3) := by decide +kernel
theorem dX9_wrong_9 : decode cX9_wrong 9 = .ok (.iconst 1, 1) := by decide +kernel
theorem dX9_wrong_10 : decode cX9_wrong 10 = .ok (.goto 4, 3) := by decide +kernel
theorem dX9_wrong_13 : decode cX9_wrong 13 = .ok (.iconst 2, 1) := by decide +kernel
theorem dX9_wrong_14 : decode cX9_wrong 14 = .ok (.aload_n 0, 1) := by decide +kernel
theorem dX9_wrong_15 : decode cX9_wrong 15 = .ok (.getfield 107, 3) := by decide +kernel
theorem dX9_wrong_18 : decode cX9_wrong 18 = .ok (.invokevirtual 227, 3) := by decide +kernel
theorem dX9_wrong_21 : decode cX9_wrong 21 = .ok (.return_, 1) := by decide +kernel
def fX9_wrong_14 (l0 : Nat) (s0 : Int32) (s1 : Nat) : mM Unit := bGI 9 l0 15 (fun x1 => bCallV 9 s1 (fX9_fail s1 s0 x1) (fun _ => bRet ()))
set_option maxRecDepth 20000 in
theorem rX9_wrong_14 (v : mE) (d : Nat) (l0 : Nat) (s0 : Int32) (s1 : Nat) : Rz v RX9 cX9_wrong 1 none false emU (d + 1) 14 [(0, vR l0)] [vI s0, vR s1] (fX9_wrong_14 l0 s0 s1) := by
  unfold fX9_wrong_14
  refine rz_aload_n 15 0 dX9_wrong_14 rfl rfl ?_
  refine rz_gI 18 dX9_wrong_15 rfl rfl fl_X9_107 (fun x1 => ?_)
  refine rz_callV 21 dX9_wrong_18 rfl (tX9_fail v (d + 0) s1 s0 x1) rfl rfl rfl rfl ml_X9_227 im_X9_fail se_X9_X9_fail in_X9 co_X9_fail rfl rfl (fun _ => ?_)
  exact rz_return rfl rfl dX9_wrong_21
def fX9_wrong (l0 : Nat) : mM Unit := bGI 9 l0 14 (fun x1 => bIf (x1 = (4 : Int32)) (fX9_wrong_14 l0 (1 : Int32) l0) (fX9_wrong_14 l0 (2 : Int32) l0))
set_option maxRecDepth 20000 in
theorem rX9_wrong (v : mE) (d : Nat) (l0 : Nat) : Rz v RX9 cX9_wrong 1 none false emU (d + 1) 0 [(0, vR l0)] [] (fX9_wrong l0) := by
  unfold fX9_wrong
  refine rz_aload_n 1 0 dX9_wrong_0 rfl rfl ?_
  refine rz_aload_n 2 0 dX9_wrong_1 rfl rfl ?_
  refine rz_gI 5 dX9_wrong_2 rfl rfl fl_X9_113 (fun x1 => ?_)
  refine rz_iconst 6 dX9_wrong_5 rfl ci_4 ?_
  refine rz_icmp_ne 13 9 dX9_wrong_6 rfl rfl ?_ ?_
  · refine rz_iconst 14 dX9_wrong_13 rfl ci_2 ?_
    exact rz_sub [0] rfl (rX9_wrong_14 v d l0 (2 : Int32) l0)
  · refine rz_iconst 10 dX9_wrong_9 rfl ci_1 ?_
    refine rz_goto 14 dX9_wrong_10 rfl ?_
    exact rz_sub [0] rfl (rX9_wrong_14 v d l0 (1 : Int32) l0)
theorem tX9_wrong (v : mE) (d : Nat) (l0 : Nat) : Mt v yX9_wrong cX9_wrong 1 none emU (d + 1) [vR l0] (fX9_wrong l0) := mt_of rfl rfl (fun h => by cases h) rfl rfl (rX9_wrong v d l0)
theorem dX9_must_0 : decode cX9_must 0 = .ok (.aload_n 0, 1) := by decide +kernel
theorem dX9_must_1 : decode cX9_must 1 = .ok (.getfield 221, 3) := by decide +kernel
theorem dX9_must_4 : decode cX9_must 4 = .ok (.ifCond .le 4, 3) := by decide +kernel
theorem dX9_must_7 : decode cX9_must 7 = .ok (.return_, 1) := by decide +kernel
theorem dX9_must_8 : decode cX9_must 8 = .ok (.iload_n 1, 1) := by decide +kernel
theorem dX9_must_9 : decode cX9_must 9 = .ok (.ifCond .eq 10, 3) := by decide +kernel
theorem dX9_must_12 : decode cX9_must 12 = .ok (.aload_n 0, 1) := by decide +kernel
theorem dX9_must_13 : decode cX9_must 13 = .ok (.invokevirtual 231, 3) := by decide +kernel
theorem dX9_must_16 : decode cX9_must 16 = .ok (.goto 7, 3) := by decide +kernel
theorem dX9_must_19 : decode cX9_must 19 = .ok (.aload_n 0, 1) := by decide +kernel
theorem dX9_must_20 : decode cX9_must 20 = .ok (.invokevirtual 234, 3) := by decide +kernel
theorem dX9_must_23 : decode cX9_must 23 = .ok (.return_, 1) := by decide +kernel
def fX9_must (l0 : Nat) (l1 : Int32) : mM Unit := bGI 9 l0 12 (fun x1 => bIf (x1 ≤ 0) (bIf (l1 = 0) (bCallV 9 l0 (fX9_wrong l0) (fun _ => bRet ())) (bCallV 9 l0 (fX9_next l0) (fun _ => bRet ()))) (bRet ()))
set_option maxRecDepth 20000 in
theorem rX9_must (v : mE) (d : Nat) (l0 : Nat) (l1 : Int32) : Rz v RX9 cX9_must 2 none false emU (d + 2) 0 [(0, vR l0), (1, vI l1)] [] (fX9_must l0 l1) := by
  unfold fX9_must
  refine rz_aload_n 1 0 dX9_must_0 rfl rfl ?_
  refine rz_gI 4 dX9_must_1 rfl rfl fl_X9_221 (fun x1 => ?_)
  refine rz_if_le 8 7 dX9_must_4 rfl rfl ?_ ?_
  · refine rz_iload_n 9 1 dX9_must_8 rfl rfl ?_
    refine rz_if_eq 19 12 dX9_must_9 rfl rfl ?_ ?_
    · refine rz_aload_n 20 0 dX9_must_19 rfl rfl ?_
      refine rz_callV 23 dX9_must_20 rfl (tX9_wrong v (d + 0) l0) rfl rfl rfl rfl ml_X9_234 im_X9_wrong se_X9_X9_wrong in_X9 co_X9_wrong rfl rfl (fun _ => ?_)
      exact rz_return rfl rfl dX9_must_23
    · refine rz_aload_n 13 0 dX9_must_12 rfl rfl ?_
      refine rz_callV 16 dX9_must_13 rfl (tX9_next v (d + 0) l0) rfl rfl rfl rfl ml_X9_231 im_X9_next se_X9_X9_next in_X9 co_X9_next rfl rfl (fun _ => ?_)
      refine rz_goto 23 dX9_must_16 rfl ?_
      exact rz_return rfl rfl dX9_must_23
  · exact rz_return rfl rfl dX9_must_7
theorem tX9_must (v : mE) (d : Nat) (l0 : Nat) (l1 : Int32) : Mt v yX9_must cX9_must 2 none emU (d + 2) [vR l0, vI l1] (fX9_must l0 l1) := mt_of rfl rfl (fun h => by cases h) rfl rfl (rX9_must v d l0 l1)
theorem dX9_count_0 : decode cX9_count 0 = .ok (.aload_n 0, 1) := by decide +kernel
theorem dX9_count_1 : decode cX9_count 1 = .ok (.getfield 221, 3) := by decide +kernel
theorem dX9_count_4 : decode cX9_count 4 = .ok (.ifCond .ne 15, 3) := by decide +kernel
theorem dX9_count_7 : decode cX9_count 7 = .ok (.aload_n 0, 1) := by decide +kernel
theorem dX9_count_8 : decode cX9_count 8 = .ok (.getfield 113, 3) := by decide +kernel
theorem dX9_count_11 : decode cX9_count 11 = .ok (.iconst 2, 1) := by decide +kernel
theorem dX9_count_12 : decode cX9_count 12 = .ok (.if_icmp .eq 7, 3) := by decide +kernel
theorem dX9_count_15 : decode cX9_count 15 = .ok (.aload_n 0, 1) := by decide +kernel
theorem dX9_count_16 : decode cX9_count 16 = .ok (.invokevirtual 234, 3) := by decide +kernel
theorem dX9_count_19 : decode cX9_count 19 = .ok (.aload_n 0, 1) := by decide +kernel
theorem dX9_count_20 : decode cX9_count 20 = .ok (.getfield 221, 3) := by decide +kernel
theorem dX9_count_23 : decode cX9_count 23 = .ok (.ifCond .ne 27, 3) := by decide +kernel
theorem dX9_count_26 : decode cX9_count 26 = .ok (.aload_n 0, 1) := by decide +kernel
theorem dX9_count_27 : decode cX9_count 27 = .ok (.getfield 132, 3) := by decide +kernel
theorem dX9_count_30 : decode cX9_count 30 = .ok (.i2l, 1) := by decide +kernel
theorem dX9_count_31 : decode cX9_count 31 = .ok (.iload_n 1, 1) := by decide +kernel
theorem dX9_count_32 : decode cX9_count 32 = .ok (.i2l, 1) := by decide +kernel
theorem dX9_count_33 : decode cX9_count 33 = .ok (.iload_n 2, 1) := by decide +kernel
theorem dX9_count_34 : decode cX9_count 34 = .ok (.i2l, 1) := by decide +kernel
theorem dX9_count_35 : decode cX9_count 35 = .ok (.invokestatic 97, 3) := by decide +kernel
theorem dX9_count_38 : decode cX9_count 38 = .ok (.ifCond .ne 12, 3) := by decide +kernel
theorem dX9_count_41 : decode cX9_count 41 = .ok (.aload_n 0, 1) := by decide +kernel
theorem dX9_count_42 : decode cX9_count 42 = .ok (.iconst 4, 1) := by decide +kernel
theorem dX9_count_43 : decode cX9_count 43 = .ok (.aload_n 0, 1) := by decide +kernel
theorem dX9_count_44 : decode cX9_count 44 = .ok (.getfield 107, 3) := by decide +kernel
theorem dX9_count_47 : decode cX9_count 47 = .ok (.invokevirtual 227, 3) := by decide +kernel
theorem dX9_count_50 : decode cX9_count 50 = .ok (.aload_n 0, 1) := by decide +kernel
theorem dX9_count_51 : decode cX9_count 51 = .ok (.getfield 221, 3) := by decide +kernel
theorem dX9_count_54 : decode cX9_count 54 = .ok (.ifCond .le 5, 3) := by decide +kernel
theorem dX9_count_57 : decode cX9_count 57 = .ok (.iconst 0, 1) := by decide +kernel
theorem dX9_count_58 : decode cX9_count 58 = .ok (.ireturn, 1) := by decide +kernel
theorem dX9_count_59 : decode cX9_count 59 = .ok (.aload_n 0, 1) := by decide +kernel
theorem dX9_count_60 : decode cX9_count 60 = .ok (.getfield 132, 3) := by decide +kernel
theorem dX9_count_63 : decode cX9_count 63 = .ok (.istore_n 3, 1) := by decide +kernel
theorem dX9_count_64 : decode cX9_count 64 = .ok (.aload_n 0, 1) := by decide +kernel
theorem dX9_count_65 : decode cX9_count 65 = .ok (.invokevirtual 231, 3) := by decide +kernel
theorem dX9_count_68 : decode cX9_count 68 = .ok (.iload_n 3, 1) := by decide +kernel
theorem dX9_count_69 : decode cX9_count 69 = .ok (.ireturn, 1) := by decide +kernel
def fX9_count_50 (l0 : Nat) : mM Int32 := bGI 9 l0 12 (fun x1 => bIf (x1 ≤ 0) (bGI 9 l0 17 (fun x2 => bCallV 9 l0 (fX9_next l0) (fun _ => bRet x2))) (bRet (0 : Int32)))
set_option maxRecDepth 20000 in
theorem rX9_count_50 (v : mE) (d : Nat) (l0 : Nat) : Rz v RX9 cX9_count 4 (some .int) false emI (d + 2) 50 [(0, vR l0)] [] (fX9_count_50 l0) := by
  unfold fX9_count_50
  refine rz_aload_n 51 0 dX9_count_50 rfl rfl ?_
  refine rz_gI 54 dX9_count_51 rfl rfl fl_X9_221 (fun x1 => ?_)
  refine rz_if_le 59 57 dX9_count_54 rfl rfl ?_ ?_
  · refine rz_aload_n 60 0 dX9_count_59 rfl rfl ?_
    refine rz_gI 63 dX9_count_60 rfl rfl fl_X9_132 (fun x2 => ?_)
    refine rz_istore_n (lv' := [(3, vI x2), (0, vR l0)]) 64 dX9_count_63 rfl rfl rfl ?_
    refine rz_aload_n 65 1 dX9_count_64 rfl rfl ?_
    refine rz_callV 68 dX9_count_65 rfl (tX9_next v (d + 0) l0) rfl rfl rfl rfl ml_X9_231 im_X9_next se_X9_X9_next in_X9 co_X9_next rfl rfl (fun _ => ?_)
    refine rz_iload_n 69 0 dX9_count_68 rfl rfl ?_
    exact rz_ireturn rfl rfl dX9_count_69
  · refine rz_iconst 58 dX9_count_57 rfl ci_0 ?_
    exact rz_ireturn rfl rfl dX9_count_58
def fX9_count_19 (l0 : Nat) (l1 : Int32) (l2 : Int32) : mM Int32 := bGI 9 l0 12 (fun x1 => bIf (x1 = 0) (bGI 9 l0 17 (fun x2 => bCall (fX9_isIn (Int32.toInt64 x2) (Int32.toInt64 l1) (Int32.toInt64 l2)) (fun x3 => bIf (x3 = 0) (bGI 9 l0 15 (fun x4 => bCallV 9 l0 (fX9_fail l0 (4 : Int32) x4) (fun _ => fX9_count_50 l0))) (fX9_count_50 l0)))) (fX9_count_50 l0))
set_option maxRecDepth 20000 in
theorem rX9_count_19 (v : mE) (d : Nat) (l0 : Nat) (l1 : Int32) (l2 : Int32) : Rz v RX9 cX9_count 4 (some .int) false emI (d + 2) 19 [(0, vR l0), (1, vI l1), (2, vI l2)] [] (fX9_count_19 l0 l1 l2) := by
  unfold fX9_count_19
  refine rz_aload_n 20 0 dX9_count_19 rfl rfl ?_
  refine rz_gI 23 dX9_count_20 rfl rfl fl_X9_221 (fun x1 => ?_)
  refine rz_if_ne 50 26 dX9_count_23 rfl rfl ?_ ?_
  · exact rz_sub [0] rfl (rX9_count_50 v d l0)
  · refine rz_aload_n 27 0 dX9_count_26 rfl rfl ?_
    refine rz_gI 30 dX9_count_27 rfl rfl fl_X9_132 (fun x2 => ?_)
    refine rz_i2l 31 dX9_count_30 rfl ?_
    refine rz_iload_n 32 1 dX9_count_31 rfl rfl ?_
    refine rz_i2l 33 dX9_count_32 rfl ?_
    refine rz_iload_n 34 2 dX9_count_33 rfl rfl ?_
    refine rz_i2l 35 dX9_count_34 rfl ?_
    refine rz_callS 38 dX9_count_35 rfl (tX9_isIn v (d + 1) (Int32.toInt64 x2) (Int32.toInt64 l1) (Int32.toInt64 l2)) rfl rfl ml_X9_97 sm_X9_isIn in_X9 co_X9_isIn rfl rfl (fun x3 => ?_)
    refine rz_if_ne 50 41 dX9_count_38 rfl rfl ?_ ?_
    · exact rz_sub [0] rfl (rX9_count_50 v d l0)
    · refine rz_aload_n 42 0 dX9_count_41 rfl rfl ?_
      refine rz_iconst 43 dX9_count_42 rfl ci_4 ?_
      refine rz_aload_n 44 0 dX9_count_43 rfl rfl ?_
      refine rz_gI 47 dX9_count_44 rfl rfl fl_X9_107 (fun x4 => ?_)
      refine rz_callV 50 dX9_count_47 rfl (tX9_fail v (d + 1) l0 (4 : Int32) x4) rfl rfl rfl rfl ml_X9_227 im_X9_fail se_X9_X9_fail in_X9 co_X9_fail rfl rfl (fun _ => ?_)
      exact rz_sub [0] rfl (rX9_count_50 v d l0)
def fX9_count (l0 : Nat) (l1 : Int32) (l2 : Int32) : mM Int32 := bGI 9 l0 12 (fun x1 => bIf (x1 = 0) (bGI 9 l0 14 (fun x2 => bIf (x2 = (2 : Int32)) (fX9_count_19 l0 l1 l2) (bCallV 9 l0 (fX9_wrong l0) (fun _ => fX9_count_19 l0 l1 l2)))) (fX9_count_19 l0 l1 l2))
set_option maxRecDepth 20000 in
theorem rX9_count (v : mE) (d : Nat) (l0 : Nat) (l1 : Int32) (l2 : Int32) : Rz v RX9 cX9_count 4 (some .int) false emI (d + 2) 0 [(0, vR l0), (1, vI l1), (2, vI l2)] [] (fX9_count l0 l1 l2) := by
  unfold fX9_count
  refine rz_aload_n 1 0 dX9_count_0 rfl rfl ?_
  refine rz_gI 4 dX9_count_1 rfl rfl fl_X9_221 (fun x1 => ?_)
  refine rz_if_ne 19 7 dX9_count_4 rfl rfl ?_ ?_
  · exact rz_sub [0, 1, 2] rfl (rX9_count_19 v d l0 l1 l2)
  · refine rz_aload_n 8 0 dX9_count_7 rfl rfl ?_
    refine rz_gI 11 dX9_count_8 rfl rfl fl_X9_113 (fun x2 => ?_)
    refine rz_iconst 12 dX9_count_11 rfl ci_2 ?_
    refine rz_icmp_eq 19 15 dX9_count_12 rfl rfl ?_ ?_
    · exact rz_sub [0, 1, 2] rfl (rX9_count_19 v d l0 l1 l2)
    · refine rz_aload_n 16 0 dX9_count_15 rfl rfl ?_
      refine rz_callV 19 dX9_count_16 rfl (tX9_wrong v (d + 0) l0) rfl rfl rfl rfl ml_X9_234 im_X9_wrong se_X9_X9_wrong in_X9 co_X9_wrong rfl rfl (fun _ => ?_)
      exact rz_sub [0, 1, 2] rfl (rX9_count_19 v d l0 l1 l2)
theorem tX9_count (v : mE) (d : Nat) (l0 : Nat) (l1 : Int32) (l2 : Int32) : Mt v yX9_count cX9_count 4 (some .int) emI (d + 2) [vR l0, vI l1, vI l2] (fX9_count l0 l1 l2) := mt_of rfl rfl (fun h => by cases h) rfl rfl (rX9_count v d l0 l1 l2)
theorem dX9_lay_0 : decode cX9_lay 0 = .ok (.iconst 3, 1) := by decide +kernel
theorem dX9_lay_1 : decode cX9_lay 1 = .ok (.istore_n 2, 1) := by decide +kernel
theorem dX9_lay_2 : decode cX9_lay 2 = .ok (.iload_n 2, 1) := by decide +kernel
theorem dX9_lay_3 : decode cX9_lay 3 = .ok (.ifCond .lt 35, 3) := by decide +kernel
theorem dX9_lay_6 : decode cX9_lay 6 = .ok (.aload_n 0, 1) := by decide +kernel
theorem dX9_lay_7 : decode cX9_lay 7 = .ok (.getfield 24, 3) := by decide +kernel
theorem dX9_lay_10 : decode cX9_lay 10 = .ok (.aload_n 0, 1) := by decide +kernel
theorem dX9_lay_11 : decode cX9_lay 11 = .ok (.getfield 237, 3) := by decide +kernel
theorem dX9_lay_14 : decode cX9_lay 14 = .ok (.iload_n 1, 1) := by decide +kernel
theorem dX9_lay_15 : decode cX9_lay 15 = .ok (.bipush 8, 2) := by decide +kernel
theorem dX9_lay_17 : decode cX9_lay 17 = .ok (.iload_n 2, 1) := by decide +kernel
theorem dX9_lay_18 : decode cX9_lay 18 = .ok (.imul, 1) := by decide +kernel
theorem dX9_lay_19 : decode cX9_lay 19 = .ok (.ishr, 1) := by decide +kernel
theorem dX9_lay_20 : decode cX9_lay 20 = .ok (.i2b, 1) := by decide +kernel
theorem dX9_lay_21 : decode cX9_lay 21 = .ok (.bastore, 1) := by decide +kernel
theorem dX9_lay_22 : decode cX9_lay 22 = .ok (.aload_n 0, 1) := by decide +kernel
theorem dX9_lay_23 : decode cX9_lay 23 = .ok (.dup, 1) := by decide +kernel
theorem dX9_lay_24 : decode cX9_lay 24 = .ok (.getfield 237, 3) := by decide +kernel
theorem dX9_lay_27 : decode cX9_lay 27 = .ok (.iconst 1, 1) := by decide +kernel
theorem dX9_lay_28 : decode cX9_lay 28 = .ok (.iadd, 1) := by decide +kernel
theorem dX9_lay_29 : decode cX9_lay 29 = .ok (.putfield 237, 3) := by decide +kernel
theorem dX9_lay_32 : decode cX9_lay 32 = .ok (.iinc 2 (-1), 3) := by decide +kernel
theorem dX9_lay_35 : decode cX9_lay 35 = .ok (.goto (-33), 3) := by decide +kernel
theorem dX9_lay_38 : decode cX9_lay 38 = .ok (.return_, 1) := by decide +kernel
def fX9_lay_2 : Nat → Nat → Int32 → Int32 → mM Unit
  | 0 => fun _ _ _ => fun _ => none
  | n + 1 => fun l0 l1 l2 => let r2 := fX9_lay_2 n; bIf (l2 < 0) (bRet ()) (bGR 9 l0 7 (fun x1 => bGI 9 l0 8 (fun x2 => bSB x1 x2 ((Int32.toInt8 (l1 >>> (((8 : Int32) * l2) &&& 31))).toInt32) (bGI 9 l0 8 (fun x3 => bPI 9 l0 8 (x3 + (1 : Int32)) (r2 l0 l1 (l2 + (-1))))))))
theorem qX9_lay_2  (n : Nat) (l0 : Nat) (l1 : Int32) (l2 : Int32) : fX9_lay_2 (n + 1) l0 l1 l2 = bIf (l2 < 0) (bRet ()) (bGR 9 l0 7 (fun x1 => bGI 9 l0 8 (fun x2 => bSB x1 x2 ((Int32.toInt8 (l1 >>> (((8 : Int32) * l2) &&& 31))).toInt32) (bGI 9 l0 8 (fun x3 => bPI 9 l0 8 (x3 + (1 : Int32)) ((fX9_lay_2 n) l0 l1 (l2 + (-1)))))))) := rfl
set_option maxRecDepth 20000 in
theorem rX9_lay_2 (v : mE) (d : Nat) : ∀ (n : Nat) (l0 : Nat) (l1 : Int32) (l2 : Int32), Rz v RX9 cX9_lay 3 none false emU (d + 0) 2 [(0, vR l0), (1, vI l1), (2, vI l2)] [] (fX9_lay_2 n l0 l1 l2)
  | 0, _, _, _ => fun _ _ _ hm => by cases hm
  | n + 1, l0, l1, l2 => by
    have h2 := rX9_lay_2 v d n
    unfold fX9_lay_2
    generalize fX9_lay_2 n = r2 at h2 ⊢
    refine rz_iload_n 3 2 dX9_lay_2 rfl rfl ?_
    refine rz_if_lt 38 6 dX9_lay_3 rfl rfl ?_ ?_
    · exact rz_return rfl rfl dX9_lay_38
    · refine rz_aload_n 7 0 dX9_lay_6 rfl rfl ?_
      refine rz_gR 10 dX9_lay_7 rfl rfl fl_X9_24 (fun x1 => ?_)
      refine rz_aload_n 11 0 dX9_lay_10 rfl rfl ?_
      refine rz_gI 14 dX9_lay_11 rfl rfl fl_X9_237 (fun x2 => ?_)
      refine rz_iload_n 15 1 dX9_lay_14 rfl rfl ?_
      refine rz_bipush 17 dX9_lay_15 rfl cb_8 ?_
      refine rz_iload_n 18 2 dX9_lay_17 rfl rfl ?_
      refine rz_imul 19 dX9_lay_18 rfl ?_
      refine rz_ishr 20 dX9_lay_19 rfl ?_
      refine rz_i2b 21 dX9_lay_20 rfl ?_
      refine rz_bast 22 dX9_lay_21 rfl ?_
      refine rz_aload_n 23 0 dX9_lay_22 rfl rfl ?_
      refine rz_dup 24 dX9_lay_23 rfl rfl ?_
      refine rz_gI 27 dX9_lay_24 rfl rfl fl_X9_237 (fun x3 => ?_)
      refine rz_iconst 28 dX9_lay_27 rfl ci_1 ?_
      refine rz_iadd 29 dX9_lay_28 rfl ?_
      refine rz_pI 32 dX9_lay_29 rfl rfl rfl rfl fl_X9_237 ?_
      refine rz_iinc (lv' := [(2, vI (l2 + (-1))), (0, vR l0), (1, vI l1)]) 35 2 dX9_lay_32 rfl rfl (cn_m1 _) rfl rfl ?_
      refine rz_goto 2 dX9_lay_35 rfl ?_
      exact rz_sub [1, 2, 0] rfl (h2 l0 l1 (l2 + (-1)))
def fX9_lay (l0 : Nat) (l1 : Int32) : mM Unit := fX9_lay_2 fu l0 l1 (3 : Int32)
set_option maxRecDepth 20000 in
theorem rX9_lay (v : mE) (d : Nat) (l0 : Nat) (l1 : Int32) : Rz v RX9 cX9_lay 3 none false emU (d + 0) 0 [(0, vR l0), (1, vI l1)] [] (fX9_lay l0 l1) := by
  unfold fX9_lay
  refine rz_iconst 1 dX9_lay_0 rfl ci_3 ?_
  refine rz_istore_n (lv' := [(2, vI (3 : Int32)), (0, vR l0), (1, vI l1)]) 2 dX9_lay_1 rfl rfl rfl ?_
  exact rz_sub [1, 2, 0] rfl (rX9_lay_2 v d fu l0 l1 (3 : Int32))
theorem tX9_lay (v : mE) (d : Nat) (l0 : Nat) (l1 : Int32) : Mt v yX9_lay cX9_lay 3 none emU (d + 0) [vR l0, vI l1] (fX9_lay l0 l1) := mt_of rfl rfl (fun h => by cases h) rfl rfl (rX9_lay v d l0 l1)
theorem dX9_feed_0 : decode cX9_feed 0 = .ok (.aload_n 0, 1) := by decide +kernel
theorem dX9_feed_1 : decode cX9_feed 1 = .ok (.iconst 0, 1) := by decide +kernel
theorem dX9_feed_2 : decode cX9_feed 2 = .ok (.putfield 62, 3) := by decide +kernel
theorem dX9_feed_5 : decode cX9_feed 5 = .ok (.aload_n 0, 1) := by decide +kernel
theorem dX9_feed_6 : decode cX9_feed 6 = .ok (.getfield 237, 3) := by decide +kernel
theorem dX9_feed_9 : decode cX9_feed 9 = .ok (.bipush 20, 2) := by decide +kernel
theorem dX9_feed_11 : decode cX9_feed 11 = .ok (.iadd, 1) := by decide +kernel
theorem dX9_feed_12 : decode cX9_feed 12 = .ok (.sipush 900, 3) := by decide +kernel
theorem dX9_feed_15 : decode cX9_feed 15 = .ok (.if_icmp .le 5, 3) := by decide +kernel
theorem dX9_feed_18 : decode cX9_feed 18 = .ok (.iconst (-1), 1) := by decide +kernel
theorem dX9_feed_19 : decode cX9_feed 19 = .ok (.ireturn, 1) := by decide +kernel
theorem dX9_feed_20 : decode cX9_feed 20 = .ok (.aload_n 0, 1) := by decide +kernel
theorem dX9_feed_21 : decode cX9_feed 21 = .ok (.iload_n 1, 1) := by decide +kernel
theorem dX9_feed_22 : decode cX9_feed 22 = .ok (.invokevirtual 240, 3) := by decide +kernel
theorem dX9_feed_25 : decode cX9_feed 25 = .ok (.aload_n 0, 1) := by decide +kernel
theorem dX9_feed_26 : decode cX9_feed 26 = .ok (.iload_n 2, 1) := by decide +kernel
theorem dX9_feed_27 : decode cX9_feed 27 = .ok (.invokevirtual 240, 3) := by decide +kernel
theorem dX9_feed_30 : decode cX9_feed 30 = .ok (.aload_n 0, 1) := by decide +kernel
theorem dX9_feed_31 : decode cX9_feed 31 = .ok (.iload_n 3, 1) := by decide +kernel
theorem dX9_feed_32 : decode cX9_feed 32 = .ok (.invokevirtual 240, 3) := by decide +kernel
theorem dX9_feed_35 : decode cX9_feed 35 = .ok (.aload_n 0, 1) := by decide +kernel
theorem dX9_feed_36 : decode cX9_feed 36 = .ok (.iload 4, 2) := by decide +kernel
theorem dX9_feed_38 : decode cX9_feed 38 = .ok (.invokevirtual 240, 3) := by decide +kernel
theorem dX9_feed_41 : decode cX9_feed 41 = .ok (.aload_n 0, 1) := by decide +kernel
theorem dX9_feed_42 : decode cX9_feed 42 = .ok (.iload 5, 2) := by decide +kernel
theorem dX9_feed_44 : decode cX9_feed 44 = .ok (.invokevirtual 240, 3) := by decide +kernel
theorem dX9_feed_47 : decode cX9_feed 47 = .ok (.aload_n 0, 1) := by decide +kernel
theorem dX9_feed_48 : decode cX9_feed 48 = .ok (.getfield 237, 3) := by decide +kernel
theorem dX9_feed_51 : decode cX9_feed 51 = .ok (.ireturn, 1) := by decide +kernel
def fX9_feed (l0 : Nat) (l1 : Int32) (l2 : Int32) (l3 : Int32) (l4 : Int32) (l5 : Int32) : mM Int32 := bPI 9 l0 1 (0 : Int32) (bGI 9 l0 8 (fun x1 => bIf ((x1 + (20 : Int32)) ≤ (900 : Int32)) (bCallV 9 l0 (fX9_lay l0 l1) (fun _ => bCallV 9 l0 (fX9_lay l0 l2) (fun _ => bCallV 9 l0 (fX9_lay l0 l3) (fun _ => bCallV 9 l0 (fX9_lay l0 l4) (fun _ => bCallV 9 l0 (fX9_lay l0 l5) (fun _ => bGI 9 l0 8 (fun x2 => bRet x2))))))) (bRet (-1 : Int32))))
set_option maxRecDepth 20000 in
theorem rX9_feed (v : mE) (d : Nat) (l0 : Nat) (l1 : Int32) (l2 : Int32) (l3 : Int32) (l4 : Int32) (l5 : Int32) : Rz v RX9 cX9_feed 6 (some .int) false emI (d + 1) 0 [(0, vR l0), (1, vI l1), (2, vI l2), (3, vI l3), (4, vI l4), (5, vI l5)] [] (fX9_feed l0 l1 l2 l3 l4 l5) := by
  unfold fX9_feed
  refine rz_aload_n 1 0 dX9_feed_0 rfl rfl ?_
  refine rz_iconst 2 dX9_feed_1 rfl ci_0 ?_
  refine rz_pI 5 dX9_feed_2 rfl rfl rfl rfl fl_X9_62 ?_
  refine rz_aload_n 6 0 dX9_feed_5 rfl rfl ?_
  refine rz_gI 9 dX9_feed_6 rfl rfl fl_X9_237 (fun x1 => ?_)
  refine rz_bipush 11 dX9_feed_9 rfl cb_20 ?_
  refine rz_iadd 12 dX9_feed_11 rfl ?_
  refine rz_sipush 15 dX9_feed_12 rfl cs_900 ?_
  refine rz_icmp_le 20 18 dX9_feed_15 rfl rfl ?_ ?_
  · refine rz_aload_n 21 0 dX9_feed_20 rfl rfl ?_
    refine rz_iload_n 22 1 dX9_feed_21 rfl rfl ?_
    refine rz_callV 25 dX9_feed_22 rfl (tX9_lay v (d + 0) l0 l1) rfl rfl rfl rfl ml_X9_240 im_X9_lay se_X9_X9_lay in_X9 co_X9_lay rfl rfl (fun _ => ?_)
    refine rz_aload_n 26 0 dX9_feed_25 rfl rfl ?_
    refine rz_iload_n 27 2 dX9_feed_26 rfl rfl ?_
    refine rz_callV 30 dX9_feed_27 rfl (tX9_lay v (d + 0) l0 l2) rfl rfl rfl rfl ml_X9_240 im_X9_lay se_X9_X9_lay in_X9 co_X9_lay rfl rfl (fun _ => ?_)
    refine rz_aload_n 31 0 dX9_feed_30 rfl rfl ?_
    refine rz_iload_n 32 3 dX9_feed_31 rfl rfl ?_
    refine rz_callV 35 dX9_feed_32 rfl (tX9_lay v (d + 0) l0 l3) rfl rfl rfl rfl ml_X9_240 im_X9_lay se_X9_X9_lay in_X9 co_X9_lay rfl rfl (fun _ => ?_)
    refine rz_aload_n 36 0 dX9_feed_35 rfl rfl ?_
    refine rz_iload 38 4 dX9_feed_36 rfl rfl ?_
    refine rz_callV 41 dX9_feed_38 rfl (tX9_lay v (d + 0) l0 l4) rfl rfl rfl rfl ml_X9_240 im_X9_lay se_X9_X9_lay in_X9 co_X9_lay rfl rfl (fun _ => ?_)
    refine rz_aload_n 42 0 dX9_feed_41 rfl rfl ?_
    refine rz_iload 44 5 dX9_feed_42 rfl rfl ?_
    refine rz_callV 47 dX9_feed_44 rfl (tX9_lay v (d + 0) l0 l5) rfl rfl rfl rfl ml_X9_240 im_X9_lay se_X9_X9_lay in_X9 co_X9_lay rfl rfl (fun _ => ?_)
    refine rz_aload_n 48 0 dX9_feed_47 rfl rfl ?_
    refine rz_gI 51 dX9_feed_48 rfl rfl fl_X9_237 (fun x2 => ?_)
    exact rz_ireturn rfl rfl dX9_feed_51
  · refine rz_iconst 19 dX9_feed_18 rfl ci_m1 ?_
    exact rz_ireturn rfl rfl dX9_feed_19
theorem tX9_feed (v : mE) (d : Nat) (l0 : Nat) (l1 : Int32) (l2 : Int32) (l3 : Int32) (l4 : Int32) (l5 : Int32) : Mt v yX9_feed cX9_feed 6 (some .int) emI (d + 1) [vR l0, vI l1, vI l2, vI l3, vI l4, vI l5] (fX9_feed l0 l1 l2 l3 l4 l5) := mt_of rfl rfl (fun h => by cases h) rfl rfl (rX9_feed v d l0 l1 l2 l3 l4 l5)
theorem dX9_opens_0 : decode cX9_opens 0 = .ok (.iload_n 1, 1) := by decide +kernel
theorem dX9_opens_1 : decode cX9_opens 1 = .ok (.ifCond .lt 16, 3) := by decide +kernel
theorem dX9_opens_4 : decode cX9_opens 4 = .ok (.iload_n 1, 1) := by decide +kernel
theorem dX9_opens_5 : decode cX9_opens 5 = .ok (.aload_n 0, 1) := by decide +kernel
theorem dX9_opens_6 : decode cX9_opens 6 = .ok (.getfield 237, 3) := by decide +kernel
theorem dX9_opens_9 : decode cX9_opens 9 = .ok (.if_icmp .gt 8, 3) := by decide +kernel
theorem dX9_opens_12 : decode cX9_opens 12 = .ok (.iload_n 1, 1) := by decide +kernel
theorem dX9_opens_13 : decode cX9_opens 13 = .ok (.iload_n 2, 1) := by decide +kernel
theorem dX9_opens_14 : decode cX9_opens 14 = .ok (.if_icmp .le 9, 3) := by decide +kernel
theorem dX9_opens_17 : decode cX9_opens 17 = .ok (.aload_n 0, 1) := by decide +kernel
theorem dX9_opens_18 : decode cX9_opens 18 = .ok (.iconst 5, 1) := by decide +kernel
theorem dX9_opens_19 : decode cX9_opens 19 = .ok (.invokevirtual 77, 3) := by decide +kernel
theorem dX9_opens_22 : decode cX9_opens 22 = .ok (.ireturn, 1) := by decide +kernel
theorem dX9_opens_23 : decode cX9_opens 23 = .ok (.aload_n 0, 1) := by decide +kernel
theorem dX9_opens_24 : decode cX9_opens 24 = .ok (.iload_n 1, 1) := by decide +kernel
theorem dX9_opens_25 : decode cX9_opens 25 = .ok (.putfield 101, 3) := by decide +kernel
theorem dX9_opens_28 : decode cX9_opens 28 = .ok (.aload_n 0, 1) := by decide +kernel
theorem dX9_opens_29 : decode cX9_opens 29 = .ok (.iconst 0, 1) := by decide +kernel
theorem dX9_opens_30 : decode cX9_opens 30 = .ok (.putfield 237, 3) := by decide +kernel
theorem dX9_opens_33 : decode cX9_opens 33 = .ok (.aload_n 0, 1) := by decide +kernel
theorem dX9_opens_34 : decode cX9_opens 34 = .ok (.iconst 0, 1) := by decide +kernel
theorem dX9_opens_35 : decode cX9_opens 35 = .ok (.putfield 104, 3) := by decide +kernel
theorem dX9_opens_38 : decode cX9_opens 38 = .ok (.aload_n 0, 1) := by decide +kernel
theorem dX9_opens_39 : decode cX9_opens 39 = .ok (.iconst 0, 1) := by decide +kernel
theorem dX9_opens_40 : decode cX9_opens 40 = .ok (.putfield 221, 3) := by decide +kernel
theorem dX9_opens_43 : decode cX9_opens 43 = .ok (.aload_n 0, 1) := by decide +kernel
theorem dX9_opens_44 : decode cX9_opens 44 = .ok (.invokevirtual 231, 3) := by decide +kernel
theorem dX9_opens_47 : decode cX9_opens 47 = .ok (.iconst 1, 1) := by decide +kernel
theorem dX9_opens_48 : decode cX9_opens 48 = .ok (.ireturn, 1) := by decide +kernel
def fX9_opens_17 (l0 : Nat) : mM Int32 := bCallV 9 l0 (fX9_no l0 (5 : Int32)) (fun x1 => bRetZ x1)
set_option maxRecDepth 20000 in
theorem rX9_opens_17 (v : mE) (d : Nat) (l0 : Nat) : Rz v RX9 cX9_opens 3 (some .boolean) false emI (d + 2) 17 [(0, vR l0)] [] (fX9_opens_17 l0) := by
  unfold fX9_opens_17
  refine rz_aload_n 18 0 dX9_opens_17 rfl rfl ?_
  refine rz_iconst 19 dX9_opens_18 rfl ci_5 ?_
  refine rz_callV 22 dX9_opens_19 rfl (tX9_no v (d + 1) l0 (5 : Int32)) rfl rfl rfl rfl ml_X9_77 im_X9_no se_X9_X9_no in_X9 co_X9_no rfl rfl (fun x1 => ?_)
  exact rz_zreturn rfl rfl dX9_opens_22
def fX9_opens (l0 : Nat) (l1 : Int32) (l2 : Int32) : mM Int32 := bIf (l1 < 0) (fX9_opens_17 l0) (bGI 9 l0 8 (fun x1 => bIf (x1 < l1) (fX9_opens_17 l0) (bIf (l1 ≤ l2) (bPI 9 l0 9 l1 (bPI 9 l0 8 (0 : Int32) (bPI 9 l0 16 (0 : Int32) (bPI 9 l0 12 (0 : Int32) (bCallV 9 l0 (fX9_next l0) (fun _ => bRetZ (1 : Int32))))))) (fX9_opens_17 l0))))
set_option maxRecDepth 20000 in
theorem rX9_opens (v : mE) (d : Nat) (l0 : Nat) (l1 : Int32) (l2 : Int32) : Rz v RX9 cX9_opens 3 (some .boolean) false emI (d + 2) 0 [(0, vR l0), (1, vI l1), (2, vI l2)] [] (fX9_opens l0 l1 l2) := by
  unfold fX9_opens
  refine rz_iload_n 1 1 dX9_opens_0 rfl rfl ?_
  refine rz_if_lt 17 4 dX9_opens_1 rfl rfl ?_ ?_
  · exact rz_sub [0] rfl (rX9_opens_17 v d l0)
  · refine rz_iload_n 5 1 dX9_opens_4 rfl rfl ?_
    refine rz_aload_n 6 0 dX9_opens_5 rfl rfl ?_
    refine rz_gI 9 dX9_opens_6 rfl rfl fl_X9_237 (fun x1 => ?_)
    refine rz_icmp_gt 17 12 dX9_opens_9 rfl rfl ?_ ?_
    · exact rz_sub [0] rfl (rX9_opens_17 v d l0)
    · refine rz_iload_n 13 1 dX9_opens_12 rfl rfl ?_
      refine rz_iload_n 14 2 dX9_opens_13 rfl rfl ?_
      refine rz_icmp_le 23 17 dX9_opens_14 rfl rfl ?_ ?_
      · refine rz_aload_n 24 0 dX9_opens_23 rfl rfl ?_
        refine rz_iload_n 25 1 dX9_opens_24 rfl rfl ?_
        refine rz_pI 28 dX9_opens_25 rfl rfl rfl rfl fl_X9_101 ?_
        refine rz_aload_n 29 0 dX9_opens_28 rfl rfl ?_
        refine rz_iconst 30 dX9_opens_29 rfl ci_0 ?_
        refine rz_pI 33 dX9_opens_30 rfl rfl rfl rfl fl_X9_237 ?_
        refine rz_aload_n 34 0 dX9_opens_33 rfl rfl ?_
        refine rz_iconst 35 dX9_opens_34 rfl ci_0 ?_
        refine rz_pI 38 dX9_opens_35 rfl rfl rfl rfl fl_X9_104 ?_
        refine rz_aload_n 39 0 dX9_opens_38 rfl rfl ?_
        refine rz_iconst 40 dX9_opens_39 rfl ci_0 ?_
        refine rz_pI 43 dX9_opens_40 rfl rfl rfl rfl fl_X9_221 ?_
        refine rz_aload_n 44 0 dX9_opens_43 rfl rfl ?_
        refine rz_callV 47 dX9_opens_44 rfl (tX9_next v (d + 0) l0) rfl rfl rfl rfl ml_X9_231 im_X9_next se_X9_X9_next in_X9 co_X9_next rfl rfl (fun _ => ?_)
        refine rz_iconst 48 dX9_opens_47 rfl ci_1 ?_
        exact rz_zreturn rfl rfl dX9_opens_48
      · exact rz_sub [0] rfl (rX9_opens_17 v d l0)
theorem tX9_opens (v : mE) (d : Nat) (l0 : Nat) (l1 : Int32) (l2 : Int32) : Mt v yX9_opens cX9_opens 3 (some .boolean) emI (d + 2) [vR l0, vI l1, vI l2] (fX9_opens l0 l1 l2) := mt_of rfl rfl (fun h => by cases h) rfl rfl (rX9_opens v d l0 l1 l2)
theorem dX9_isWell_0 : decode cX9_isWell 0 = .ok (.aload_n 0, 1) := by decide +kernel
theorem dX9_isWell_1 : decode cX9_isWell 1 = .ok (.aload_n 0, 1) := by decide +kernel
theorem dX9_isWell_2 : decode cX9_isWell 2 = .ok (.getfield 221, 3) := by decide +kernel
theorem dX9_isWell_5 : decode cX9_isWell 5 = .ok (.putfield 28, 3) := by decide +kernel
theorem dX9_isWell_8 : decode cX9_isWell 8 = .ok (.aload_n 0, 1) := by decide +kernel
theorem dX9_isWell_9 : decode cX9_isWell 9 = .ok (.aload_n 0, 1) := by decide +kernel
theorem dX9_isWell_10 : decode cX9_isWell 10 = .ok (.getfield 221, 3) := by decide +kernel
theorem dX9_isWell_13 : decode cX9_isWell 13 = .ok (.ifCond .ne 7, 3) := by decide +kernel
theorem dX9_isWell_16 : decode cX9_isWell 16 = .ok (.iconst (-1), 1) := by decide +kernel
theorem dX9_isWell_17 : decode cX9_isWell 17 = .ok (.goto 7, 3) := by decide +kernel
theorem dX9_isWell_20 : decode cX9_isWell 20 = .ok (.aload_n 0, 1) := by decide +kernel
theorem dX9_isWell_21 : decode cX9_isWell 21 = .ok (.getfield 224, 3) := by decide +kernel
theorem dX9_isWell_24 : decode cX9_isWell 24 = .ok (.putfield 32, 3) := by decide +kernel
theorem dX9_isWell_27 : decode cX9_isWell 27 = .ok (.aload_n 0, 1) := by decide +kernel
theorem dX9_isWell_28 : decode cX9_isWell 28 = .ok (.getfield 221, 3) := by decide +kernel
theorem dX9_isWell_31 : decode cX9_isWell 31 = .ok (.ifCond .eq 12, 3) := by decide +kernel
theorem dX9_isWell_34 : decode cX9_isWell 34 = .ok (.aload_n 0, 1) := by decide +kernel
theorem dX9_isWell_35 : decode cX9_isWell 35 = .ok (.bipush 10, 2) := by decide +kernel
theorem dX9_isWell_37 : decode cX9_isWell 37 = .ok (.invokevirtual 77, 3) := by decide +kernel
theorem dX9_isWell_40 : decode cX9_isWell 40 = .ok (.ifCond .eq 7, 3) := by decide +kernel
theorem dX9_isWell_43 : decode cX9_isWell 43 = .ok (.iconst 1, 1) := by decide +kernel
theorem dX9_isWell_44 : decode cX9_isWell 44 = .ok (.goto 4, 3) := by decide +kernel
theorem dX9_isWell_47 : decode cX9_isWell 47 = .ok (.iconst 0, 1) := by decide +kernel
theorem dX9_isWell_48 : decode cX9_isWell 48 = .ok (.ireturn, 1) := by decide +kernel
def fX9_isWell_24 (l0 : Nat) (s0 : Int32) (s1 : Nat) : mM Int32 := bPI 9 s1 11 s0 (bGI 9 l0 12 (fun x1 => bIf (x1 = 0) (bRetZ (1 : Int32)) (bCallV 9 l0 (fX9_no l0 (10 : Int32)) (fun x2 => bIf (x2 = 0) (bRetZ (0 : Int32)) (bRetZ (1 : Int32))))))
set_option maxRecDepth 20000 in
theorem rX9_isWell_24 (v : mE) (d : Nat) (l0 : Nat) (s0 : Int32) (s1 : Nat) : Rz v RX9 cX9_isWell 1 (some .boolean) false emI (d + 1) 24 [(0, vR l0)] [vI s0, vR s1] (fX9_isWell_24 l0 s0 s1) := by
  unfold fX9_isWell_24
  refine rz_pI 27 dX9_isWell_24 rfl rfl rfl rfl fl_X9_32 ?_
  refine rz_aload_n 28 0 dX9_isWell_27 rfl rfl ?_
  refine rz_gI 31 dX9_isWell_28 rfl rfl fl_X9_221 (fun x1 => ?_)
  refine rz_if_eq 43 34 dX9_isWell_31 rfl rfl ?_ ?_
  · refine rz_iconst 44 dX9_isWell_43 rfl ci_1 ?_
    refine rz_goto 48 dX9_isWell_44 rfl ?_
    exact rz_zreturn rfl rfl dX9_isWell_48
  · refine rz_aload_n 35 0 dX9_isWell_34 rfl rfl ?_
    refine rz_bipush 37 dX9_isWell_35 rfl cb_10 ?_
    refine rz_callV 40 dX9_isWell_37 rfl (tX9_no v (d + 0) l0 (10 : Int32)) rfl rfl rfl rfl ml_X9_77 im_X9_no se_X9_X9_no in_X9 co_X9_no rfl rfl (fun x2 => ?_)
    refine rz_if_eq 47 43 dX9_isWell_40 rfl rfl ?_ ?_
    · refine rz_iconst 48 dX9_isWell_47 rfl ci_0 ?_
      exact rz_zreturn rfl rfl dX9_isWell_48
    · refine rz_iconst 44 dX9_isWell_43 rfl ci_1 ?_
      refine rz_goto 48 dX9_isWell_44 rfl ?_
      exact rz_zreturn rfl rfl dX9_isWell_48
def fX9_isWell (l0 : Nat) : mM Int32 := bGI 9 l0 12 (fun x1 => bPI 9 l0 10 x1 (bGI 9 l0 12 (fun x2 => bIf (x2 = 0) (fX9_isWell_24 l0 (-1 : Int32) l0) (bGI 9 l0 13 (fun x3 => fX9_isWell_24 l0 x3 l0)))))
set_option maxRecDepth 20000 in
theorem rX9_isWell (v : mE) (d : Nat) (l0 : Nat) : Rz v RX9 cX9_isWell 1 (some .boolean) false emI (d + 1) 0 [(0, vR l0)] [] (fX9_isWell l0) := by
  unfold fX9_isWell
  refine rz_aload_n 1 0 dX9_isWell_0 rfl rfl ?_
  refine rz_aload_n 2 0 dX9_isWell_1 rfl rfl ?_
  refine rz_gI 5 dX9_isWell_2 rfl rfl fl_X9_221 (fun x1 => ?_)
  refine rz_pI 8 dX9_isWell_5 rfl rfl rfl rfl fl_X9_28 ?_
  refine rz_aload_n 9 0 dX9_isWell_8 rfl rfl ?_
  refine rz_aload_n 10 0 dX9_isWell_9 rfl rfl ?_
  refine rz_gI 13 dX9_isWell_10 rfl rfl fl_X9_221 (fun x2 => ?_)
  refine rz_if_ne 20 16 dX9_isWell_13 rfl rfl ?_ ?_
  · refine rz_aload_n 21 0 dX9_isWell_20 rfl rfl ?_
    refine rz_gI 24 dX9_isWell_21 rfl rfl fl_X9_224 (fun x3 => ?_)
    exact rz_sub [0] rfl (rX9_isWell_24 v d l0 x3 l0)
  · refine rz_iconst 17 dX9_isWell_16 rfl ci_m1 ?_
    refine rz_goto 24 dX9_isWell_17 rfl ?_
    exact rz_sub [0] rfl (rX9_isWell_24 v d l0 (-1 : Int32) l0)
theorem tX9_isWell (v : mE) (d : Nat) (l0 : Nat) : Mt v yX9_isWell cX9_isWell 1 (some .boolean) emI (d + 1) [vR l0] (fX9_isWell l0) := mt_of rfl rfl (fun h => by cases h) rfl rfl (rX9_isWell v d l0)
theorem dX9_fault_0 : decode cX9_fault 0 = .ok (.aload_n 0, 1) := by decide +kernel
theorem dX9_fault_1 : decode cX9_fault 1 = .ok (.iconst 0, 1) := by decide +kernel
theorem dX9_fault_2 : decode cX9_fault 2 = .ok (.putfield 62, 3) := by decide +kernel
theorem dX9_fault_5 : decode cX9_fault 5 = .ok (.iload_n 1, 1) := by decide +kernel
theorem dX9_fault_6 : decode cX9_fault 6 = .ok (.ifCond .ne 10, 3) := by decide +kernel
theorem dX9_fault_9 : decode cX9_fault 9 = .ok (.aload_n 0, 1) := by decide +kernel
theorem dX9_fault_10 : decode cX9_fault 10 = .ok (.getfield 28, 3) := by decide +kernel
theorem dX9_fault_13 : decode cX9_fault 13 = .ok (.goto 16, 3) := by decide +kernel
theorem dX9_fault_16 : decode cX9_fault 16 = .ok (.iload_n 1, 1) := by decide +kernel
theorem dX9_fault_17 : decode cX9_fault 17 = .ok (.iconst 1, 1) := by decide +kernel
theorem dX9_fault_18 : decode cX9_fault 18 = .ok (.if_icmp .ne 10, 3) := by decide +kernel
theorem dX9_fault_21 : decode cX9_fault 21 = .ok (.aload_n 0, 1) := by decide +kernel
theorem dX9_fault_22 : decode cX9_fault 22 = .ok (.getfield 32, 3) := by decide +kernel
theorem dX9_fault_25 : decode cX9_fault 25 = .ok (.goto 4, 3) := by decide +kernel
theorem dX9_fault_28 : decode cX9_fault 28 = .ok (.iconst (-1), 1) := by decide +kernel
theorem dX9_fault_29 : decode cX9_fault 29 = .ok (.ireturn, 1) := by decide +kernel
def fX9_fault (l0 : Nat) (l1 : Int32) : mM Int32 := bPI 9 l0 1 (0 : Int32) (bIf (l1 = 0) (bGI 9 l0 10 (fun x2 => bRet x2)) (bIf (l1 = (1 : Int32)) (bGI 9 l0 11 (fun x1 => bRet x1)) (bRet (-1 : Int32))))
set_option maxRecDepth 20000 in
theorem rX9_fault (v : mE) (d : Nat) (l0 : Nat) (l1 : Int32) : Rz v RX9 cX9_fault 2 (some .int) false emI (d + 0) 0 [(0, vR l0), (1, vI l1)] [] (fX9_fault l0 l1) := by
  unfold fX9_fault
  refine rz_aload_n 1 0 dX9_fault_0 rfl rfl ?_
  refine rz_iconst 2 dX9_fault_1 rfl ci_0 ?_
  refine rz_pI 5 dX9_fault_2 rfl rfl rfl rfl fl_X9_62 ?_
  refine rz_iload_n 6 1 dX9_fault_5 rfl rfl ?_
  refine rz_if_ne 16 9 dX9_fault_6 rfl rfl ?_ ?_
  · refine rz_iload_n 17 1 dX9_fault_16 rfl rfl ?_
    refine rz_iconst 18 dX9_fault_17 rfl ci_1 ?_
    refine rz_icmp_ne 28 21 dX9_fault_18 rfl rfl ?_ ?_
    · refine rz_iconst 29 dX9_fault_28 rfl ci_m1 ?_
      exact rz_ireturn rfl rfl dX9_fault_29
    · refine rz_aload_n 22 0 dX9_fault_21 rfl rfl ?_
      refine rz_gI 25 dX9_fault_22 rfl rfl fl_X9_32 (fun x1 => ?_)
      refine rz_goto 29 dX9_fault_25 rfl ?_
      exact rz_ireturn rfl rfl dX9_fault_29
  · refine rz_aload_n 10 0 dX9_fault_9 rfl rfl ?_
    refine rz_gI 13 dX9_fault_10 rfl rfl fl_X9_28 (fun x2 => ?_)
    refine rz_goto 29 dX9_fault_13 rfl ?_
    exact rz_ireturn rfl rfl dX9_fault_29
theorem tX9_fault (v : mE) (d : Nat) (l0 : Nat) (l1 : Int32) : Mt v yX9_fault cX9_fault 2 (some .int) emI (d + 0) [vR l0, vI l1] (fX9_fault l0 l1) := mt_of rfl rfl (fun h => by cases h) rfl rfl (rX9_fault v d l0 l1)

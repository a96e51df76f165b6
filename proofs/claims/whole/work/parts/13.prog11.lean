section PR
variable {B : Nat} {sp : Nat → Value} {D : va_G} {cA : Nat → ClassId} {Ls : Nat} {xs : Nat → Int32} {adK adV : Nat → Nat}
def pl_M_breaks_1 : List (Nat × mA) := [(0, a_aload 0 1), (1, a_getR 9 36 0 4), (4, a_push 4 5), (5, a_dup2 6), (6, a_ald 0 7), (7, a_push 1 8), (8, a_bin (fun x y => x + y) 9), (9, a_ast 0 (fun x => x) 10), (10, a_aload 0 11), (11, a_iload 1 12), (12, a_push 4 13), (13, a_callO 9 36 105 2 16), (16, a_istore 2 17), (17, a_iload 2 18), (18, a_push 1 19), (19, a_cmp (fun x y => decide (x ≠ y)) 30 22), (22, a_aload 0 23), (23, a_iload 1 24), (24, a_push 5 25), (25, a_push 0 26), (26, a_callO 9 36 114 3 29), (29, a_ret), (30, a_aload 0 31), (31, a_iload 1 32), (32, a_push 4 33), (33, a_iload 2 34), (34, a_push 2 35), (35, a_div (fun x y => x / y) 36), (36, a_callO 9 36 114 3 39), (39, a_aload 0 40), (40, a_getR 9 36 0 43), (43, a_push 1 44), (44, a_ald 0 45), (45, a_push 14 47), (47, a_cmp (fun x y => decide (y ≤ x)) 88 50), (50, a_aload 0 51), (51, a_push 2 52), (52, a_aload 0 53), (53, a_iload 1 54), (54, a_push 1 55), (55, a_callO 9 36 105 2 58), (58, a_aload 0 59), (59, a_iload 1 60), (60, a_push 2 61), (61, a_callO 9 36 105 2 64), (64, a_aload 0 65), (65, a_iload 1 66), (66, a_push 3 67), (67, a_callO 9 36 105 2 70), (70, a_push 1 71), (71, a_bin (fun x y => x + y) 72), (72, a_push (-9) 74), (74, a_push 9 76), (76, a_call 120 3 79), (79, a_iload 2 80), (80, a_iload 2 81), (81, a_push 2 82), (82, a_div (fun x y => x / y) 83), (83, a_bin (fun x y => x - y) 84), (84, a_callO 9 36 99 5 87)]
set_option maxRecDepth 20000 in
theorem ol_M_breaks_1 : okall B sp D cA (SPf B sp Ls xs adK adV) MT ⟨"WreckSkyModel", "breaks", "(I)V"⟩ prog_11_method_29_code 4 (Option.none : Option Jvm.ClassFile.FieldType) (pl_M_breaks_1) := by
  unfold pl_M_breaks_1
  exact
    okc (ok_aload_n (k := 0) (by decide +kernel) rfl rfl) (
    okc (ok_getR (k := 0) (idx := 9) cX9_ok (by decide) (by decide +kernel) w_991 (by decide +kernel) rfl) (
    okc (ok_iconst (n := 4) (by decide +kernel) rfl rfl) (
    okc (ok_dup2 (by decide +kernel) rfl) (
    okc (ok_iald (by decide +kernel) rfl) (
    okc (ok_iconst (n := 1) (by decide +kernel) rfl rfl) (
    okc (ok_iadd (by decide +kernel) rfl) (
    okc (ok_iast (by decide +kernel) rfl) (
    okc (ok_aload_n (k := 0) (by decide +kernel) rfl rfl) (
    okc (ok_iload_n (k := 1) (by decide +kernel) rfl rfl) (
    okc (ok_iconst (n := 4) (by decide +kernel) rfl rfl) (
    okc (ok_callV (SPf_ok _ _ _ _ _ _) (mi := 105) (n := 2) (idx := 88) rfl m_M_of (by decide) cX9_ok w_1130 w_1132 w_23 (by decide +kernel) rfl) (
    okc (ok_istore_n (k := 2) (by decide +kernel) rfl rfl) (
    okc (ok_iload_n (k := 2) (by decide +kernel) rfl rfl) (
    okc (ok_iconst (n := 1) (by decide +kernel) rfl rfl) (
    okc (ok_cmp_ne (off := 11) (by decide +kernel) rfl rfl) (
    okc (ok_aload_n (k := 0) (by decide +kernel) rfl rfl) (
    okc (ok_iload_n (k := 1) (by decide +kernel) rfl rfl) (
    okc (ok_iconst (n := 5) (by decide +kernel) rfl rfl) (
    okc (ok_iconst (n := 0) (by decide +kernel) rfl rfl) (
    okc (ok_callV (SPf_ok _ _ _ _ _ _) (mi := 114) (n := 3) (idx := 92) rfl m_M_put (by decide) cX9_ok w_1118 w_1120 w_21 (by decide +kernel) rfl) (
    okc (ok_ret rfl (by decide +kernel)) (
    okc (ok_aload_n (k := 0) (by decide +kernel) rfl rfl) (
    okc (ok_iload_n (k := 1) (by decide +kernel) rfl rfl) (
    okc (ok_iconst (n := 4) (by decide +kernel) rfl rfl) (
    okc (ok_iload_n (k := 2) (by decide +kernel) rfl rfl) (
    okc (ok_iconst (n := 2) (by decide +kernel) rfl rfl) (
    okc (ok_idiv (by decide +kernel) rfl) (
    okc (ok_callV (SPf_ok _ _ _ _ _ _) (mi := 114) (n := 3) (idx := 92) rfl m_M_put (by decide) cX9_ok w_1118 w_1120 w_21 (by decide +kernel) rfl) (
    okc (ok_aload_n (k := 0) (by decide +kernel) rfl rfl) (
    okc (ok_getR (k := 0) (idx := 9) cX9_ok (by decide) (by decide +kernel) w_991 (by decide +kernel) rfl) (
    okc (ok_iconst (n := 1) (by decide +kernel) rfl rfl) (
    okc (ok_iald (by decide +kernel) rfl) (
    okc (ok_bipush (n := 14) (by decide +kernel) (by decide +kernel) rfl) (
    okc (ok_cmp_ge (off := 41) (by decide +kernel) rfl rfl) (
    okc (ok_aload_n (k := 0) (by decide +kernel) rfl rfl) (
    okc (ok_iconst (n := 2) (by decide +kernel) rfl rfl) (
    okc (ok_aload_n (k := 0) (by decide +kernel) rfl rfl) (
    okc (ok_iload_n (k := 1) (by decide +kernel) rfl rfl) (
    okc (ok_iconst (n := 1) (by decide +kernel) rfl rfl) (
    okc (ok_callV (SPf_ok _ _ _ _ _ _) (mi := 105) (n := 2) (idx := 88) rfl m_M_of (by decide) cX9_ok w_1130 w_1132 w_23 (by decide +kernel) rfl) (
    okc (ok_aload_n (k := 0) (by decide +kernel) rfl rfl) (
    okc (ok_iload_n (k := 1) (by decide +kernel) rfl rfl) (
    okc (ok_iconst (n := 2) (by decide +kernel) rfl rfl) (
    okc (ok_callV (SPf_ok _ _ _ _ _ _) (mi := 105) (n := 2) (idx := 88) rfl m_M_of (by decide) cX9_ok w_1130 w_1132 w_23 (by decide +kernel) rfl) (
    okc (ok_aload_n (k := 0) (by decide +kernel) rfl rfl) (
    okc (ok_iload_n (k := 1) (by decide +kernel) rfl rfl) (
    okc (ok_iconst (n := 3) (by decide +kernel) rfl rfl) (
    okc (ok_callV (SPf_ok _ _ _ _ _ _) (mi := 105) (n := 2) (idx := 88) rfl m_M_of (by decide) cX9_ok w_1130 w_1132 w_23 (by decide +kernel) rfl) (
    okc (ok_iconst (n := 1) (by decide +kernel) rfl rfl) (
    okc (ok_iadd (by decide +kernel) rfl) (
    okc (ok_bipush (n := -9) (by decide +kernel) (by decide +kernel) rfl) (
    okc (ok_bipush (n := 9) (by decide +kernel) (by decide +kernel) rfl) (
    okc (ok_callS (SPf_ok _ _ _ _ _ _) (mi := 120) (n := 3) (idx := 113) rfl m_M_within (by decide) w_1149 w_1150 (by decide +kernel) rfl) (
    okc (ok_iload_n (k := 2) (by decide +kernel) rfl rfl) (
    okc (ok_iload_n (k := 2) (by decide +kernel) rfl rfl) (
    okc (ok_iconst (n := 2) (by decide +kernel) rfl rfl) (
    okc (ok_idiv (by decide +kernel) rfl) (
    okc (ok_isub (by decide +kernel) rfl) (
    okc (ok_callV (SPf_ok _ _ _ _ _ _) (mi := 99) (n := 5) (idx := 102) rfl m_M_comes (by decide) cX9_ok w_1114 w_1116 w_20 (by decide +kernel) rfl) ( okn))))))))))))))))))))))))))))))))))))))))))))))))))))))))))))
def pl_M_breaks_2 : List (Nat × mA) := [(87, a_istore 3 88), (88, a_ret)]
set_option maxRecDepth 20000 in
theorem ol_M_breaks_2 : okall B sp D cA (SPf B sp Ls xs adK adV) MT ⟨"WreckSkyModel", "breaks", "(I)V"⟩ prog_11_method_29_code 4 (Option.none : Option Jvm.ClassFile.FieldType) (pl_M_breaks_2) := by
  unfold pl_M_breaks_2
  exact
    okc (ok_istore_n (k := 3) (by decide +kernel) rfl rfl) (
    okc (ok_ret rfl (by decide +kernel)) ( okn))
def pl_M_breaks : List (Nat × mA) := pl_M_breaks_1 ++ (pl_M_breaks_2)
theorem ol_M_breaks : okall B sp D cA (SPf B sp Ls xs adK adV) MT ⟨"WreckSkyModel", "breaks", "(I)V"⟩ prog_11_method_29_code 4 (Option.none : Option Jvm.ClassFile.FieldType) (pl_M_breaks) := oka ol_M_breaks_1 (ol_M_breaks_2)
def pl_M_sinks : List (Nat × mA) := [(0, a_aload 0 1), (1, a_iload 1 2), (2, a_callO 9 36 113 1 5), (5, a_if (fun x => decide (x ≠ 0)) 9 8), (8, a_ret), (9, a_aload 0 10), (10, a_iload 1 11), (11, a_push 1 12), (12, a_callO 9 36 105 2 15), (15, a_if (fun x => decide (x ≠ 0)) 38 18), (18, a_aload 0 19), (19, a_iload 1 20), (20, a_push 5 21), (21, a_push 0 22), (22, a_callO 9 36 114 3 25), (25, a_aload 0 26), (26, a_getR 9 36 0 29), (29, a_push 5 30), (30, a_dup2 31), (31, a_ald 0 32), (32, a_push 1 33), (33, a_bin (fun x y => x + y) 34), (34, a_ast 0 (fun x => x) 35), (35, a_goto 52), (38, a_aload 0 39), (39, a_iload 1 40), (40, a_push 1 41), (41, a_aload 0 42), (42, a_iload 1 43), (43, a_push 1 44), (44, a_callO 9 36 105 2 47), (47, a_push 1 48), (48, a_bin (fun x y => x - y) 49), (49, a_callO 9 36 114 3 52), (52, a_ret)]
set_option maxRecDepth 20000 in
theorem ol_M_sinks : okall B sp D cA (SPf B sp Ls xs adK adV) MT ⟨"WreckSkyModel", "sinks", "(I)V"⟩ prog_11_method_31_code 2 (Option.none : Option Jvm.ClassFile.FieldType) (pl_M_sinks) := by
  unfold pl_M_sinks
  exact
    okc (ok_aload_n (k := 0) (by decide +kernel) rfl rfl) (
    okc (ok_iload_n (k := 1) (by decide +kernel) rfl rfl) (
    okc (ok_callV (SPf_ok _ _ _ _ _ _) (mi := 113) (n := 1) (idx := 137) rfl m_M_isUp (by decide) cX9_ok w_1184 w_1186 w_30 (by decide +kernel) rfl) (
    okc (ok_if_ne (off := 4) (by decide +kernel) rfl rfl) (
    okc (ok_ret rfl (by decide +kernel)) (
    okc (ok_aload_n (k := 0) (by decide +kernel) rfl rfl) (
    okc (ok_iload_n (k := 1) (by decide +kernel) rfl rfl) (
    okc (ok_iconst (n := 1) (by decide +kernel) rfl rfl) (
    okc (ok_callV (SPf_ok _ _ _ _ _ _) (mi := 105) (n := 2) (idx := 88) rfl m_M_of (by decide) cX9_ok w_1130 w_1132 w_23 (by decide +kernel) rfl) (
    okc (ok_if_ne (off := 23) (by decide +kernel) rfl rfl) (
    okc (ok_aload_n (k := 0) (by decide +kernel) rfl rfl) (
    okc (ok_iload_n (k := 1) (by decide +kernel) rfl rfl) (
    okc (ok_iconst (n := 5) (by decide +kernel) rfl rfl) (
    okc (ok_iconst (n := 0) (by decide +kernel) rfl rfl) (
    okc (ok_callV (SPf_ok _ _ _ _ _ _) (mi := 114) (n := 3) (idx := 92) rfl m_M_put (by decide) cX9_ok w_1118 w_1120 w_21 (by decide +kernel) rfl) (
    okc (ok_aload_n (k := 0) (by decide +kernel) rfl rfl) (
    okc (ok_getR (k := 0) (idx := 9) cX9_ok (by decide) (by decide +kernel) w_991 (by decide +kernel) rfl) (
    okc (ok_iconst (n := 5) (by decide +kernel) rfl rfl) (
    okc (ok_dup2 (by decide +kernel) rfl) (
    okc (ok_iald (by decide +kernel) rfl) (
    okc (ok_iconst (n := 1) (by decide +kernel) rfl rfl) (
    okc (ok_iadd (by decide +kernel) rfl) (
    okc (ok_iast (by decide +kernel) rfl) (
    okc (ok_goto (off := 17) (by decide +kernel) rfl) (
    okc (ok_aload_n (k := 0) (by decide +kernel) rfl rfl) (
    okc (ok_iload_n (k := 1) (by decide +kernel) rfl rfl) (
    okc (ok_iconst (n := 1) (by decide +kernel) rfl rfl) (
    okc (ok_aload_n (k := 0) (by decide +kernel) rfl rfl) (
    okc (ok_iload_n (k := 1) (by decide +kernel) rfl rfl) (
    okc (ok_iconst (n := 1) (by decide +kernel) rfl rfl) (
    okc (ok_callV (SPf_ok _ _ _ _ _ _) (mi := 105) (n := 2) (idx := 88) rfl m_M_of (by decide) cX9_ok w_1130 w_1132 w_23 (by decide +kernel) rfl) (
    okc (ok_iconst (n := 1) (by decide +kernel) rfl rfl) (
    okc (ok_isub (by decide +kernel) rfl) (
    okc (ok_callV (SPf_ok _ _ _ _ _ _) (mi := 114) (n := 3) (idx := 92) rfl m_M_put (by decide) cX9_ok w_1118 w_1120 w_21 (by decide +kernel) rfl) (
    okc (ok_ret rfl (by decide +kernel)) ( okn)))))))))))))))))))))))))))))))))))
def pl_JArrays_fill : List (Nat × mA) := [(0, a_push 0 1), (1, a_istore 2 2), (2, a_aload 0 3), (3, a_alen 0 4), (4, a_istore 3 5), (5, a_iload 2 6), (6, a_iload 3 7), (7, a_cmp (fun x y => decide (y ≤ x)) 20 10), (10, a_aload 0 11), (11, a_iload 2 12), (12, a_iload 1 13), (13, a_ast 0 (fun x => x) 14), (14, a_iinc 2 1 17), (17, a_goto 5), (20, a_ret)]
set_option maxRecDepth 20000 in
theorem ol_JArrays_fill : okall B sp D cA (SPf B sp Ls xs adK adV) MT ⟨"java/util/Arrays", "fill", "([II)V"⟩ prog_20_method_103_code 4 (Option.none : Option Jvm.ClassFile.FieldType) (pl_JArrays_fill) := by
  unfold pl_JArrays_fill
  exact
    okc (ok_iconst (n := 0) (by decide +kernel) rfl rfl) (
    okc (ok_istore_n (k := 2) (by decide +kernel) rfl rfl) (
    okc (ok_aload_n (k := 0) (by decide +kernel) rfl rfl) (
    okc (ok_alen (by decide) (by decide +kernel) rfl) (
    okc (ok_istore_n (k := 3) (by decide +kernel) rfl rfl) (
    okc (ok_iload_n (k := 2) (by decide +kernel) rfl rfl) (
    okc (ok_iload_n (k := 3) (by decide +kernel) rfl rfl) (
    okc (ok_cmp_ge (off := 13) (by decide +kernel) rfl rfl) (
    okc (ok_aload_n (k := 0) (by decide +kernel) rfl rfl) (
    okc (ok_iload_n (k := 2) (by decide +kernel) rfl rfl) (
    okc (ok_iload_n (k := 1) (by decide +kernel) rfl rfl) (
    okc (ok_iast (by decide +kernel) rfl) (
    okc (ok_iinc (n := 1) (by decide +kernel) rfl rfl) (
    okc (ok_goto (off := -12) (by decide +kernel) rfl) (
    okc (ok_ret rfl (by decide +kernel)) ( okn)))))))))))))))
def pl_F_blockAt : List (Nat × mA) := [(0, a_push 0 1), (1, a_istore 2 2), (2, a_iload 2 3), (3, a_aload 0 4), (4, a_getR 0 5 0 7), (7, a_getI 3 11 3 10), (10, a_cmp (fun x y => decide (y ≤ x)) 71 13), (13, a_aload 0 14), (14, a_getR 0 5 0 17), (17, a_getR 3 11 0 20), (20, a_iload 2 21), (21, a_aald 4 22), (22, a_astore 3 23), (23, a_iload 1 24), (24, a_aload 3 25), (25, a_getI 7 6 1 28), (28, a_bin (fun x y => x - y) 29), (29, a_istore 4 31), (31, a_aload 3 32), (32, a_getI 7 6 5 35), (35, a_if (fun x => decide (x = 0)) 65 38), (38, a_iload 4 40), (40, a_push 0 41), (41, a_push 60 43), (43, a_call 94 3 46), (46, a_if (fun x => decide (x = 0)) 65 49), (49, a_aload 0 50), (50, a_getR 0 5 1 53), (53, a_iload 4 55), (55, a_dup2 56), (56, a_ald 0 57), (57, a_push 1 58), (58, a_aload 3 59), (59, a_getI 7 6 2 62), (62, a_bin (fun x y => x <<< (y &&& 31)) 63), (63, a_bin (fun x y => x ||| y) 64), (64, a_ast 0 (fun x => x) 65), (65, a_iinc 2 1 68), (68, a_goto 2), (71, a_ret)]
set_option maxRecDepth 20000 in
theorem ol_F_blockAt : okall B sp D cA (SPf B sp Ls xs adK adV) MT ⟨"WreckSky$Foresight", "blockAt", "(I)V"⟩ prog_2_method_8_code 5 (Option.none : Option Jvm.ClassFile.FieldType) (pl_F_blockAt) := by
  unfold pl_F_blockAt
  exact
    okc (ok_iconst (n := 0) (by decide +kernel) rfl rfl) (
    okc (ok_istore_n (k := 2) (by decide +kernel) rfl rfl) (
    okc (ok_iload_n (k := 2) (by decide +kernel) rfl rfl) (
    okc (ok_aload_n (k := 0) (by decide +kernel) rfl rfl) (
    okc (ok_getR (k := 0) (idx := 12) cX0_ok (by decide) (by decide +kernel) w_191 (by decide +kernel) rfl) (
    okc (ok_getI (k := 3) (idx := 53) cX3_ok (by decide) (by decide +kernel) w_143 (by decide +kernel) rfl) (
    okc (ok_cmp_ge (off := 61) (by decide +kernel) rfl rfl) (
    okc (ok_aload_n (k := 0) (by decide +kernel) rfl rfl) (
    okc (ok_getR (k := 0) (idx := 12) cX0_ok (by decide) (by decide +kernel) w_191 (by decide +kernel) rfl) (
    okc (ok_getR (k := 0) (idx := 56) cX3_ok (by decide) (by decide +kernel) w_136 (by decide +kernel) rfl) (
    okc (ok_iload_n (k := 2) (by decide +kernel) rfl rfl) (
    okc (ok_aald (C := "WreckSky$Wreck") (by decide) (fun _ => rfl) (by decide +kernel) rfl) (
    okc (ok_astore_n (k := 3) (by decide +kernel) rfl rfl) (
    okc (ok_iload_n (k := 1) (by decide +kernel) rfl rfl) (
    okc (ok_aload_n (k := 3) (by decide +kernel) rfl rfl) (
    okc (ok_getI (k := 1) (idx := 60) cX7_ok (by decide) (by decide +kernel) w_104 (by decide +kernel) rfl) (
    okc (ok_isub (by decide +kernel) rfl) (
    okc (ok_istore (by decide +kernel) rfl) (
    okc (ok_aload_n (k := 3) (by decide +kernel) rfl rfl) (
    okc (ok_getI (k := 5) (idx := 65) cX7_ok (by decide) (by decide +kernel) w_119 (by decide +kernel) rfl) (
    okc (ok_if_eq (off := 30) (by decide +kernel) rfl rfl) (
    okc (ok_iload (by decide +kernel) rfl) (
    okc (ok_iconst (n := 0) (by decide +kernel) rfl rfl) (
    okc (ok_bipush (n := 60) (by decide +kernel) (by decide +kernel) rfl) (
    okc (ok_callN (SPf_ok _ _ _ _ _ _) (mi := 94) (n := 3) (idx := 69) rfl m_W_within (by decide) (fun _ h => h.2.2.2.2.2.2.2.2.1) w_352 (by decide +kernel) rfl) (
    okc (ok_if_eq (off := 19) (by decide +kernel) rfl rfl) (
    okc (ok_aload_n (k := 0) (by decide +kernel) rfl rfl) (
    okc (ok_getR (k := 1) (idx := 18) cX0_ok (by decide) (by decide +kernel) w_192 (by decide +kernel) rfl) (
    okc (ok_iload (by decide +kernel) rfl) (
    okc (ok_dup2 (by decide +kernel) rfl) (
    okc (ok_iald (by decide +kernel) rfl) (
    okc (ok_iconst (n := 1) (by decide +kernel) rfl rfl) (
    okc (ok_aload_n (k := 3) (by decide +kernel) rfl rfl) (
    okc (ok_getI (k := 2) (idx := 73) cX7_ok (by decide) (by decide +kernel) w_108 (by decide +kernel) rfl) (
    okc (ok_ishl (by decide +kernel) rfl) (
    okc (ok_ior (by decide +kernel) rfl) (
    okc (ok_iast (by decide +kernel) rfl) (
    okc (ok_iinc (n := 1) (by decide +kernel) rfl rfl) (
    okc (ok_goto (off := -66) (by decide +kernel) rfl) (
    okc (ok_ret rfl (by decide +kernel)) ( okn))))))))))))))))))))))))))))))))))))))))
def pl_F_chooseNone : List (Nat × mA) := [(0, a_aload 0 1), (1, a_push (-1000000005) 3), (3, a_putI 0 5 3 6), (6, a_aload 0 7), (7, a_push (-1000000005) 9), (9, a_putI 0 5 4 12), (12, a_ret)]
set_option maxRecDepth 20000 in
theorem ol_F_chooseNone : okall B sp D cA (SPf B sp Ls xs adK adV) MT ⟨"WreckSky$Foresight", "chooseNone", "()V"⟩ prog_2_method_3_code 1 (Option.none : Option Jvm.ClassFile.FieldType) (pl_F_chooseNone) := by
  unfold pl_F_chooseNone
  exact
    okc (ok_aload_n (k := 0) (by decide +kernel) rfl rfl) (
    okc (ok_ldc (i := 25) w_190 (by decide +kernel) rfl) (
    okc (ok_putI (k := 3) (idx := 26) cX0_ok (by decide) rfl rfl w_194 (by decide +kernel) rfl) (
    okc (ok_aload_n (k := 0) (by decide +kernel) rfl rfl) (
    okc (ok_ldc (i := 25) w_190 (by decide +kernel) rfl) (
    okc (ok_putI (k := 4) (idx := 30) cX0_ok (by decide) rfl rfl w_195 (by decide +kernel) rfl) (
    okc (ok_ret rfl (by decide +kernel)) ( okn)))))))
def pl_F_chooseIfLess : List (Nat × mA) := [(0, a_aload 0 1), (1, a_getI 0 5 3 4), (4, a_push (-1000000005) 6), (6, a_cmp (fun x y => decide (x = y)) 17 9), (9, a_iload 2 10), (10, a_aload 0 11), (11, a_getI 0 5 4 14), (14, a_cmp (fun x y => decide (y ≤ x)) 27 17), (17, a_aload 0 18), (18, a_iload 1 19), (19, a_putI 0 5 3 22), (22, a_aload 0 23), (23, a_iload 2 24), (24, a_putI 0 5 4 27), (27, a_ret)]
set_option maxRecDepth 20000 in
theorem ol_F_chooseIfLess : okall B sp D cA (SPf B sp Ls xs adK adV) MT ⟨"WreckSky$Foresight", "chooseIfLess", "(II)V"⟩ prog_2_method_4_code 3 (Option.none : Option Jvm.ClassFile.FieldType) (pl_F_chooseIfLess) := by
  unfold pl_F_chooseIfLess
  exact
    okc (ok_aload_n (k := 0) (by decide +kernel) rfl rfl) (
    okc (ok_getI (k := 3) (idx := 26) cX0_ok (by decide) (by decide +kernel) w_194 (by decide +kernel) rfl) (
    okc (ok_ldc (i := 25) w_190 (by decide +kernel) rfl) (
    okc (ok_cmp_eq (off := 11) (by decide +kernel) rfl rfl) (
    okc (ok_iload_n (k := 2) (by decide +kernel) rfl rfl) (
    okc (ok_aload_n (k := 0) (by decide +kernel) rfl rfl) (
    okc (ok_getI (k := 4) (idx := 30) cX0_ok (by decide) (by decide +kernel) w_195 (by decide +kernel) rfl) (
    okc (ok_cmp_ge (off := 13) (by decide +kernel) rfl rfl) (
    okc (ok_aload_n (k := 0) (by decide +kernel) rfl rfl) (
    okc (ok_iload_n (k := 1) (by decide +kernel) rfl rfl) (
    okc (ok_putI (k := 3) (idx := 26) cX0_ok (by decide) rfl rfl w_194 (by decide +kernel) rfl) (
    okc (ok_aload_n (k := 0) (by decide +kernel) rfl rfl) (
    okc (ok_iload_n (k := 2) (by decide +kernel) rfl rfl) (
    okc (ok_putI (k := 4) (idx := 30) cX0_ok (by decide) rfl rfl w_195 (by decide +kernel) rfl) (
    okc (ok_ret rfl (by decide +kernel)) ( okn)))))))))))))))
def pl_S_upPlaces : List (Nat × mA) := [(0, a_push 0 1), (1, a_istore 1 2), (2, a_push 0 3), (3, a_istore 2 4), (4, a_iload 2 5), (5, a_aload 0 6), (6, a_getI 3 11 3 9), (9, a_cmp (fun x y => decide (y ≤ x)) 48 12), (12, a_iload 1 13), (13, a_aload 0 14), (14, a_getR 3 11 0 17), (17, a_iload 2 18), (18, a_aald 4 19), (19, a_getI 7 6 5 22), (22, a_if (fun x => decide (x = 0)) 39 25), (25, a_push 1 26), (26, a_aload 0 27), (27, a_getR 3 11 0 30), (30, a_iload 2 31), (31, a_aald 4 32), (32, a_getI 7 6 2 35), (35, a_bin (fun x y => x <<< (y &&& 31)) 36), (36, a_goto 40), (39, a_push 0 40), (40, a_bin (fun x y => x ||| y) 41), (41, a_istore 1 42), (42, a_iinc 2 1 45), (45, a_goto 4), (48, a_iload 1 49), (49, a_iret)]
set_option maxRecDepth 20000 in
theorem ol_S_upPlaces : okall B sp D cA (SPf B sp Ls xs adK adV) MT ⟨"WreckSky$Sky", "upPlaces", "()I"⟩ prog_5_method_18_code 3 (Option.some Jvm.ClassFile.FieldType.int) (pl_S_upPlaces) := by
  unfold pl_S_upPlaces
  exact
    okc (ok_iconst (n := 0) (by decide +kernel) rfl rfl) (
    okc (ok_istore_n (k := 1) (by decide +kernel) rfl rfl) (
    okc (ok_iconst (n := 0) (by decide +kernel) rfl rfl) (
    okc (ok_istore_n (k := 2) (by decide +kernel) rfl rfl) (
    okc (ok_iload_n (k := 2) (by decide +kernel) rfl rfl) (
    okc (ok_aload_n (k := 0) (by decide +kernel) rfl rfl) (
    okc (ok_getI (k := 3) (idx := 27) cX3_ok (by decide) (by decide +kernel) w_141 (by decide +kernel) rfl) (
    okc (ok_cmp_ge (off := 39) (by decide +kernel) rfl rfl) (
    okc (ok_iload_n (k := 1) (by decide +kernel) rfl rfl) (
    okc (ok_aload_n (k := 0) (by decide +kernel) rfl rfl) (
    okc (ok_getR (k := 0) (idx := 11) cX3_ok (by decide) (by decide +kernel) w_134 (by decide +kernel) rfl) (
    okc (ok_iload_n (k := 2) (by decide +kernel) rfl rfl) (
    okc (ok_aald (C := "WreckSky$Wreck") (by decide) (fun _ => rfl) (by decide +kernel) rfl) (
    okc (ok_getI (k := 5) (idx := 76) cX7_ok (by decide) (by decide +kernel) w_118 (by decide +kernel) rfl) (
    okc (ok_if_eq (off := 17) (by decide +kernel) rfl rfl) (
    okc (ok_iconst (n := 1) (by decide +kernel) rfl rfl) (
    okc (ok_aload_n (k := 0) (by decide +kernel) rfl rfl) (
    okc (ok_getR (k := 0) (idx := 11) cX3_ok (by decide) (by decide +kernel) w_134 (by decide +kernel) rfl) (
    okc (ok_iload_n (k := 2) (by decide +kernel) rfl rfl) (
    okc (ok_aald (C := "WreckSky$Wreck") (by decide) (fun _ => rfl) (by decide +kernel) rfl) (
    okc (ok_getI (k := 2) (idx := 67) cX7_ok (by decide) (by decide +kernel) w_107 (by decide +kernel) rfl) (
    okc (ok_ishl (by decide +kernel) rfl) (
    okc (ok_goto (off := 4) (by decide +kernel) rfl) (
    okc (ok_iconst (n := 0) (by decide +kernel) rfl rfl) (
    okc (ok_ior (by decide +kernel) rfl) (
    okc (ok_istore_n (k := 1) (by decide +kernel) rfl rfl) (
    okc (ok_iinc (n := 1) (by decide +kernel) rfl rfl) (
    okc (ok_goto (off := -41) (by decide +kernel) rfl) (
    okc (ok_iload_n (k := 1) (by decide +kernel) rfl rfl) (
    okc (ok_iret rfl (by decide +kernel)) ( okn))))))))))))))))))))))))))))))
def pl_F_nearestNow : List (Nat × mA) := [(0, a_aload 0 1), (1, a_getR 0 5 0 4), (4, a_getR 3 11 0 7), (7, a_iload 1 8), (8, a_aald 4 9), (9, a_astore 2 10), (10, a_push 30 12), (12, a_istore 3 13), (13, a_push 0 14), (14, a_istore 4 16), (16, a_iload 4 18), (18, a_aload 0 19), (19, a_getR 0 5 0 22), (22, a_getI 3 11 3 25), (25, a_cmp (fun x y => decide (y ≤ x)) 96 28), (28, a_aload 2 29), (29, a_getI 7 6 5 32), (32, a_if (fun x => decide (x = 0)) 96 35), (35, a_aload 0 36), (36, a_getR 0 5 0 39), (39, a_getR 3 11 0 42), (42, a_iload 4 44), (44, a_aald 4 45), (45, a_astore 5 47), (47, a_iload 4 49), (49, a_iload 1 50), (50, a_cmp (fun x y => decide (x = y)) 90 53), (53, a_aload 5 55), (55, a_getI 7 6 5 58), (58, a_if (fun x => decide (x = 0)) 90 61), (61, a_aload 5 63), (63, a_getI 7 6 1 66), (66, a_aload 2 67), (67, a_getI 7 6 1 70), (70, a_cmp (fun x y => decide (x ≠ y)) 90 73), (73, a_iload 3 74), (74, a_aload 2 75), (75, a_getI 7 6 2 78), (78, a_aload 5 80), (80, a_getI 7 6 2 83), (83, a_call 189 2 86), (86, a_call 116 2 89), (89, a_istore 3 90), (90, a_iinc 4 1 93), (93, a_goto 16), (96, a_iload 3 97), (97, a_iret)]
set_option maxRecDepth 20000 in
theorem ol_F_nearestNow : okall B sp D cA (SPf B sp Ls xs adK adV) MT ⟨"WreckSky$Foresight", "nearestNow", "(I)I"⟩ prog_2_method_14_code 6 (Option.some Jvm.ClassFile.FieldType.int) (pl_F_nearestNow) := by
  unfold pl_F_nearestNow
  exact
    okc (ok_aload_n (k := 0) (by decide +kernel) rfl rfl) (
    okc (ok_getR (k := 0) (idx := 12) cX0_ok (by decide) (by decide +kernel) w_191 (by decide +kernel) rfl) (
    okc (ok_getR (k := 0) (idx := 56) cX3_ok (by decide) (by decide +kernel) w_136 (by decide +kernel) rfl) (
    okc (ok_iload_n (k := 1) (by decide +kernel) rfl rfl) (
    okc (ok_aald (C := "WreckSky$Wreck") (by decide) (fun _ => rfl) (by decide +kernel) rfl) (
    okc (ok_astore_n (k := 2) (by decide +kernel) rfl rfl) (
    okc (ok_bipush (n := 30) (by decide +kernel) (by decide +kernel) rfl) (
    okc (ok_istore_n (k := 3) (by decide +kernel) rfl rfl) (
    okc (ok_iconst (n := 0) (by decide +kernel) rfl rfl) (
    okc (ok_istore (by decide +kernel) rfl) (
    okc (ok_iload (by decide +kernel) rfl) (
    okc (ok_aload_n (k := 0) (by decide +kernel) rfl rfl) (
    okc (ok_getR (k := 0) (idx := 12) cX0_ok (by decide) (by decide +kernel) w_191 (by decide +kernel) rfl) (
    okc (ok_getI (k := 3) (idx := 53) cX3_ok (by decide) (by decide +kernel) w_143 (by decide +kernel) rfl) (
    okc (ok_cmp_ge (off := 71) (by decide +kernel) rfl rfl) (
    okc (ok_aload_n (k := 2) (by decide +kernel) rfl rfl) (
    okc (ok_getI (k := 5) (idx := 65) cX7_ok (by decide) (by decide +kernel) w_119 (by decide +kernel) rfl) (
    okc (ok_if_eq (off := 64) (by decide +kernel) rfl rfl) (
    okc (ok_aload_n (k := 0) (by decide +kernel) rfl rfl) (
    okc (ok_getR (k := 0) (idx := 12) cX0_ok (by decide) (by decide +kernel) w_191 (by decide +kernel) rfl) (
    okc (ok_getR (k := 0) (idx := 56) cX3_ok (by decide) (by decide +kernel) w_136 (by decide +kernel) rfl) (
    okc (ok_iload (by decide +kernel) rfl) (
    okc (ok_aald (C := "WreckSky$Wreck") (by decide) (fun _ => rfl) (by decide +kernel) rfl) (
    okc (ok_astore (by decide +kernel) rfl) (
    okc (ok_iload (by decide +kernel) rfl) (
    okc (ok_iload_n (k := 1) (by decide +kernel) rfl rfl) (
    okc (ok_cmp_eq (off := 40) (by decide +kernel) rfl rfl) (
    okc (ok_aload (by decide +kernel) rfl) (
    okc (ok_getI (k := 5) (idx := 65) cX7_ok (by decide) (by decide +kernel) w_119 (by decide +kernel) rfl) (
    okc (ok_if_eq (off := 32) (by decide +kernel) rfl rfl) (
    okc (ok_aload (by decide +kernel) rfl) (
    okc (ok_getI (k := 1) (idx := 60) cX7_ok (by decide) (by decide +kernel) w_104 (by decide +kernel) rfl) (
    okc (ok_aload_n (k := 2) (by decide +kernel) rfl rfl) (
    okc (ok_getI (k := 1) (idx := 60) cX7_ok (by decide) (by decide +kernel) w_104 (by decide +kernel) rfl) (
    okc (ok_cmp_ne (off := 20) (by decide +kernel) rfl rfl) (
    okc (ok_iload_n (k := 3) (by decide +kernel) rfl rfl) (
    okc (ok_aload_n (k := 2) (by decide +kernel) rfl rfl) (
    okc (ok_getI (k := 2) (idx := 73) cX7_ok (by decide) (by decide +kernel) w_108 (by decide +kernel) rfl) (
    okc (ok_aload (by decide +kernel) rfl) (
    okc (ok_getI (k := 2) (idx := 73) cX7_ok (by decide) (by decide +kernel) w_108 (by decide +kernel) rfl) (
    okc (ok_callN (SPf_ok _ _ _ _ _ _) (mi := 189) (n := 2) (idx := 100) rfl m_W_wayRound (by decide) (fun _ h => h.2.2.2.2.2.2.2.2.2.1) w_620 (by decide +kernel) rfl) (
    okc (ok_callS (SPf_ok _ _ _ _ _ _) (mi := 116) (n := 2) (idx := 94) rfl m_JMath_min (by decide) w_625 w_394 (by decide +kernel) rfl) (
    okc (ok_istore_n (k := 3) (by decide +kernel) rfl rfl) (
    okc (ok_iinc (n := 1) (by decide +kernel) rfl rfl) (
    okc (ok_goto (off := -77) (by decide +kernel) rfl) (
    okc (ok_iload_n (k := 3) (by decide +kernel) rfl rfl) (
    okc (ok_iret rfl (by decide +kernel)) ( okn)))))))))))))))))))))))))))))))))))))))))))))))
def pl_JMath_floorMod : List (Nat × mA) := [(0, a_iload 0 1), (1, a_iload 1 2), (2, a_div (fun x y => x - x / y * y) 3), (3, a_istore 2 4), (4, a_iload 0 5), (5, a_iload 1 6), (6, a_bin (fun x y => x ^^^ y) 7), (7, a_if (fun x => decide (0 ≤ x)) 18 10), (10, a_iload 2 11), (11, a_if (fun x => decide (x = 0)) 18 14), (14, a_iload 2 15), (15, a_iload 1 16), (16, a_bin (fun x y => x + y) 17), (17, a_iret), (18, a_iload 2 19), (19, a_iret)]
set_option maxRecDepth 20000 in
theorem ol_JMath_floorMod : okall B sp D cA (SPf B sp Ls xs adK adV) MT ⟨"java/lang/Math", "floorMod", "(II)I"⟩ prog_15_method_50_code 3 (Option.some Jvm.ClassFile.FieldType.int) (pl_JMath_floorMod) := by
  unfold pl_JMath_floorMod
  exact
    okc (ok_iload_n (k := 0) (by decide +kernel) rfl rfl) (
    okc (ok_iload_n (k := 1) (by decide +kernel) rfl rfl) (
    okc (ok_irem (by decide +kernel) rfl) (
    okc (ok_istore_n (k := 2) (by decide +kernel) rfl rfl) (
    okc (ok_iload_n (k := 0) (by decide +kernel) rfl rfl) (
    okc (ok_iload_n (k := 1) (by decide +kernel) rfl rfl) (
    okc (ok_ixor (by decide +kernel) rfl) (
    okc (ok_if_ge (off := 11) (by decide +kernel) rfl rfl) (
    okc (ok_iload_n (k := 2) (by decide +kernel) rfl rfl) (
    okc (ok_if_eq (off := 7) (by decide +kernel) rfl rfl) (
    okc (ok_iload_n (k := 2) (by decide +kernel) rfl rfl) (
    okc (ok_iload_n (k := 1) (by decide +kernel) rfl rfl) (
    okc (ok_iadd (by decide +kernel) rfl) (
    okc (ok_iret rfl (by decide +kernel)) (
    okc (ok_iload_n (k := 2) (by decide +kernel) rfl rfl) (
    okc (ok_iret rfl (by decide +kernel)) ( okn))))))))))))))))
def pl_W_wayRound : List (Nat × mA) := [(0, a_iload 0 1), (1, a_iload 1 2), (2, a_bin (fun x y => x - y) 3), (3, a_call 209 1 6), (6, a_istore 2 7), (7, a_iload 2 8), (8, a_push 30 10), (10, a_iload 2 11), (11, a_bin (fun x y => x - y) 12), (12, a_call 116 2 15), (15, a_iret)]
set_option maxRecDepth 20000 in
theorem ol_W_wayRound : okall B sp D cA (SPf B sp Ls xs adK adV) MT ⟨"WreckSky", "wayRound", "(II)I"⟩ prog_1_method_46_code 3 (Option.some Jvm.ClassFile.FieldType.int) (pl_W_wayRound) := by
  unfold pl_W_wayRound
  exact
    okc (ok_iload_n (k := 0) (by decide +kernel) rfl rfl) (
    okc (ok_iload_n (k := 1) (by decide +kernel) rfl rfl) (
    okc (ok_isub (by decide +kernel) rfl) (
    okc (ok_callS (SPf_ok _ _ _ _ _ _) (mi := 209) (n := 1) (idx := 347) rfl m_JMath_abs (by decide) w_622 w_623 (by decide +kernel) rfl) (
    okc (ok_istore_n (k := 2) (by decide +kernel) rfl rfl) (
    okc (ok_iload_n (k := 2) (by decide +kernel) rfl rfl) (
    okc (ok_bipush (n := 30) (by decide +kernel) (by decide +kernel) rfl) (
    okc (ok_iload_n (k := 2) (by decide +kernel) rfl rfl) (
    okc (ok_isub (by decide +kernel) rfl) (
    okc (ok_callS (SPf_ok _ _ _ _ _ _) (mi := 116) (n := 2) (idx := 149) rfl m_JMath_min (by decide) w_393 w_394 (by decide +kernel) rfl) (
    okc (ok_iret rfl (by decide +kernel)) ( okn)))))))))))
def pl_X_operand : List (Nat × mA) := [(0, a_iload 0 1), (1, a_sw (t_sw (-3) [32, 30, 28] 34)), (28, a_iload 1 29), (29, a_iret), (30, a_iload 2 31), (31, a_iret), (32, a_iload 3 33), (33, a_iret), (34, a_iload 0 35), (35, a_iret)]
set_option maxRecDepth 20000 in
theorem ol_X_operand : okall B sp D cA (SPf B sp Ls xs adK adV) MT ⟨"WreckSky$Text", "operand", "(IIII)I"⟩ prog_8_method_3_code 4 (Option.some Jvm.ClassFile.FieldType.int) (pl_X_operand) := by
  unfold pl_X_operand
  exact
    okc (ok_iload_n (k := 0) (by decide +kernel) rfl rfl) (
    okc (ok_tab (dflt := 33) (lo := -3) (hi := -1) (offs := #[31, 29, 27]) (len := 27) (by decide +kernel) rfl rfl rfl) (
    okc (ok_iload_n (k := 1) (by decide +kernel) rfl rfl) (
    okc (ok_iret rfl (by decide +kernel)) (
    okc (ok_iload_n (k := 2) (by decide +kernel) rfl rfl) (
    okc (ok_iret rfl (by decide +kernel)) (
    okc (ok_iload_n (k := 3) (by decide +kernel) rfl rfl) (
    okc (ok_iret rfl (by decide +kernel)) (
    okc (ok_iload_n (k := 0) (by decide +kernel) rfl rfl) (
    okc (ok_iret rfl (by decide +kernel)) ( okn))))))))))
def pl_X_joined : List (Nat × mA) := [(0, a_iload 0 1), (1, a_sw (l_sw [(38, 90), (42, 145), (43, 137), (45, 141), (60, 104), (61, 115), (62, 126), (124, 76)] 149)), (76, a_iload 1 77), (77, a_if (fun x => decide (x ≠ 0)) 84 80), (80, a_iload 2 81), (81, a_if (fun x => decide (x = 0)) 88 84), (84, a_push 1 85), (85, a_goto 89), (88, a_push 0 89), (89, a_iret), (90, a_iload 1 91), (91, a_if (fun x => decide (x = 0)) 102 94), (94, a_iload 2 95), (95, a_if (fun x => decide (x = 0)) 102 98), (98, a_push 1 99), (99, a_goto 103), (102, a_push 0 103), (103, a_iret), (104, a_iload 1 105), (105, a_iload 2 106), (106, a_cmp (fun x y => decide (y ≤ x)) 113 109), (109, a_push 1 110), (110, a_goto 114), (113, a_push 0 114), (114, a_iret), (115, a_iload 1 116), (116, a_iload 2 117), (117, a_cmp (fun x y => decide (x ≠ y)) 124 120), (120, a_push 1 121), (121, a_goto 125), (124, a_push 0 125), (125, a_iret), (126, a_iload 1 127), (127, a_iload 2 128), (128, a_cmp (fun x y => decide (x ≤ y)) 135 131), (131, a_push 1 132), (132, a_goto 136), (135, a_push 0 136), (136, a_iret), (137, a_iload 1 138), (138, a_iload 2 139), (139, a_bin (fun x y => x + y) 140), (140, a_iret), (141, a_iload 1 142), (142, a_iload 2 143), (143, a_bin (fun x y => x - y) 144), (144, a_iret), (145, a_iload 1 146), (146, a_iload 2 147), (147, a_bin (fun x y => x * y) 148), (148, a_iret), (149, a_iload 2 150), (150, a_if (fun x => decide (x ≠ 0)) 157 153), (153, a_push 0 154), (154, a_goto 160), (157, a_iload 1 158), (158, a_iload 2 159), (159, a_div (fun x y => x / y) 160), (160, a_iret)]
set_option maxRecDepth 20000 in
theorem ol_X_joined : okall B sp D cA (SPf B sp Ls xs adK adV) MT ⟨"WreckSky$Text", "joined", "(III)I"⟩ prog_8_method_4_code 3 (Option.some Jvm.ClassFile.FieldType.int) (pl_X_joined) := by
  unfold pl_X_joined
  exact
    okc (ok_iload_n (k := 0) (by decide +kernel) rfl rfl) (
    okc (ok_lku (dflt := 148) (ps := #[(38, 89), (42, 144), (43, 136), (45, 140), (60, 103), (61, 114), (62, 125), (124, 75)]) (len := 75) (by decide +kernel) (by decide +kernel) rfl rfl) (
    okc (ok_iload_n (k := 1) (by decide +kernel) rfl rfl) (
    okc (ok_if_ne (off := 7) (by decide +kernel) rfl rfl) (
    okc (ok_iload_n (k := 2) (by decide +kernel) rfl rfl) (
    okc (ok_if_eq (off := 7) (by decide +kernel) rfl rfl) (
    okc (ok_iconst (n := 1) (by decide +kernel) rfl rfl) (
    okc (ok_goto (off := 4) (by decide +kernel) rfl) (
    okc (ok_iconst (n := 0) (by decide +kernel) rfl rfl) (
    okc (ok_iret rfl (by decide +kernel)) (
    okc (ok_iload_n (k := 1) (by decide +kernel) rfl rfl) (
    okc (ok_if_eq (off := 11) (by decide +kernel) rfl rfl) (
    okc (ok_iload_n (k := 2) (by decide +kernel) rfl rfl) (
    okc (ok_if_eq (off := 7) (by decide +kernel) rfl rfl) (
    okc (ok_iconst (n := 1) (by decide +kernel) rfl rfl) (
    okc (ok_goto (off := 4) (by decide +kernel) rfl) (
    okc (ok_iconst (n := 0) (by decide +kernel) rfl rfl) (
    okc (ok_iret rfl (by decide +kernel)) (
    okc (ok_iload_n (k := 1) (by decide +kernel) rfl rfl) (
    okc (ok_iload_n (k := 2) (by decide +kernel) rfl rfl) (
    okc (ok_cmp_ge (off := 7) (by decide +kernel) rfl rfl) (
    okc (ok_iconst (n := 1) (by decide +kernel) rfl rfl) (
    okc (ok_goto (off := 4) (by decide +kernel) rfl) (
    okc (ok_iconst (n := 0) (by decide +kernel) rfl rfl) (
    okc (ok_iret rfl (by decide +kernel)) (
    okc (ok_iload_n (k := 1) (by decide +kernel) rfl rfl) (
    okc (ok_iload_n (k := 2) (by decide +kernel) rfl rfl) (
    okc (ok_cmp_ne (off := 7) (by decide +kernel) rfl rfl) (
    okc (ok_iconst (n := 1) (by decide +kernel) rfl rfl) (
    okc (ok_goto (off := 4) (by decide +kernel) rfl) (
    okc (ok_iconst (n := 0) (by decide +kernel) rfl rfl) (
    okc (ok_iret rfl (by decide +kernel)) (
    okc (ok_iload_n (k := 1) (by decide +kernel) rfl rfl) (
    okc (ok_iload_n (k := 2) (by decide +kernel) rfl rfl) (
    okc (ok_cmp_le (off := 7) (by decide +kernel) rfl rfl) (
    okc (ok_iconst (n := 1) (by decide +kernel) rfl rfl) (
    okc (ok_goto (off := 4) (by decide +kernel) rfl) (
    okc (ok_iconst (n := 0) (by decide +kernel) rfl rfl) (
    okc (ok_iret rfl (by decide +kernel)) (
    okc (ok_iload_n (k := 1) (by decide +kernel) rfl rfl) (
    okc (ok_iload_n (k := 2) (by decide +kernel) rfl rfl) (
    okc (ok_iadd (by decide +kernel) rfl) (
    okc (ok_iret rfl (by decide +kernel)) (
    okc (ok_iload_n (k := 1) (by decide +kernel) rfl rfl) (
    okc (ok_iload_n (k := 2) (by decide +kernel) rfl rfl) (
    okc (ok_isub (by decide +kernel) rfl) (
    okc (ok_iret rfl (by decide +kernel)) (
    okc (ok_iload_n (k := 1) (by decide +kernel) rfl rfl) (
    okc (ok_iload_n (k := 2) (by decide +kernel) rfl rfl) (
    okc (ok_imul (by decide +kernel) rfl) (
    okc (ok_iret rfl (by decide +kernel)) (
    okc (ok_iload_n (k := 2) (by decide +kernel) rfl rfl) (
    okc (ok_if_ne (off := 7) (by decide +kernel) rfl rfl) (
    okc (ok_iconst (n := 0) (by decide +kernel) rfl rfl) (
    okc (ok_goto (off := 6) (by decide +kernel) rfl) (
    okc (ok_iload_n (k := 1) (by decide +kernel) rfl rfl) (
    okc (ok_iload_n (k := 2) (by decide +kernel) rfl rfl) (
    okc (ok_idiv (by decide +kernel) rfl) (
    okc (ok_iret rfl (by decide +kernel)) ( okn)))))))))))))))))))))))))))))))))))))))))))))))))))))))))))
def pl_M_two : List (Nat × mA) := [(0, a_iload 0 1), (1, a_sw (t_sw (-8) [117, 113, 109, 98, 87, 76, 62, 48] 121)), (48, a_iload 1 49), (49, a_if (fun x => decide (x ≠ 0)) 56 52), (52, a_iload 2 53), (53, a_if (fun x => decide (x = 0)) 60 56), (56, a_push 1 57), (57, a_goto 61), (60, a_push 0 61), (61, a_iret), (62, a_iload 1 63), (63, a_if (fun x => decide (x = 0)) 74 66), (66, a_iload 2 67), (67, a_if (fun x => decide (x = 0)) 74 70), (70, a_push 1 71), (71, a_goto 75), (74, a_push 0 75), (75, a_iret), (76, a_iload 1 77), (77, a_iload 2 78), (78, a_cmp (fun x y => decide (y ≤ x)) 85 81), (81, a_push 1 82), (82, a_goto 86), (85, a_push 0 86), (86, a_iret), (87, a_iload 1 88), (88, a_iload 2 89), (89, a_cmp (fun x y => decide (x ≠ y)) 96 92), (92, a_push 1 93), (93, a_goto 97), (96, a_push 0 97), (97, a_iret), (98, a_iload 1 99), (99, a_iload 2 100), (100, a_cmp (fun x y => decide (x ≤ y)) 107 103), (103, a_push 1 104), (104, a_goto 108), (107, a_push 0 108), (108, a_iret), (109, a_iload 1 110), (110, a_iload 2 111), (111, a_bin (fun x y => x + y) 112), (112, a_iret), (113, a_iload 1 114), (114, a_iload 2 115), (115, a_bin (fun x y => x - y) 116), (116, a_iret), (117, a_iload 1 118), (118, a_iload 2 119), (119, a_bin (fun x y => x * y) 120), (120, a_iret), (121, a_iload 2 122), (122, a_if (fun x => decide (x ≠ 0)) 129 125), (125, a_push 0 126), (126, a_goto 132), (129, a_iload 1 130), (130, a_iload 2 131), (131, a_div (fun x y => x / y) 132), (132, a_iret)]
set_option maxRecDepth 20000 in
theorem ol_M_two : okall B sp D cA (SPf B sp Ls xs adK adV) MT ⟨"WreckSkyModel", "two", "(III)I"⟩ prog_11_method_72_code 3 (Option.some Jvm.ClassFile.FieldType.int) (pl_M_two) := by
  unfold pl_M_two
  exact
    okc (ok_iload_n (k := 0) (by decide +kernel) rfl rfl) (
    okc (ok_tab (dflt := 120) (lo := -8) (hi := -1) (offs := #[116, 112, 108, 97, 86, 75, 61, 47]) (len := 47) (by decide +kernel) rfl rfl rfl) (
    okc (ok_iload_n (k := 1) (by decide +kernel) rfl rfl) (
    okc (ok_if_ne (off := 7) (by decide +kernel) rfl rfl) (
    okc (ok_iload_n (k := 2) (by decide +kernel) rfl rfl) (
    okc (ok_if_eq (off := 7) (by decide +kernel) rfl rfl) (
    okc (ok_iconst (n := 1) (by decide +kernel) rfl rfl) (
    okc (ok_goto (off := 4) (by decide +kernel) rfl) (
    okc (ok_iconst (n := 0) (by decide +kernel) rfl rfl) (
    okc (ok_iret rfl (by decide +kernel)) (
    okc (ok_iload_n (k := 1) (by decide +kernel) rfl rfl) (
    okc (ok_if_eq (off := 11) (by decide +kernel) rfl rfl) (
    okc (ok_iload_n (k := 2) (by decide +kernel) rfl rfl) (
    okc (ok_if_eq (off := 7) (by decide +kernel) rfl rfl) (
    okc (ok_iconst (n := 1) (by decide +kernel) rfl rfl) (
    okc (ok_goto (off := 4) (by decide +kernel) rfl) (
    okc (ok_iconst (n := 0) (by decide +kernel) rfl rfl) (
    okc (ok_iret rfl (by decide +kernel)) (
    okc (ok_iload_n (k := 1) (by decide +kernel) rfl rfl) (
    okc (ok_iload_n (k := 2) (by decide +kernel) rfl rfl) (
    okc (ok_cmp_ge (off := 7) (by decide +kernel) rfl rfl) (
    okc (ok_iconst (n := 1) (by decide +kernel) rfl rfl) (
    okc (ok_goto (off := 4) (by decide +kernel) rfl) (
    okc (ok_iconst (n := 0) (by decide +kernel) rfl rfl) (
    okc (ok_iret rfl (by decide +kernel)) (
    okc (ok_iload_n (k := 1) (by decide +kernel) rfl rfl) (
    okc (ok_iload_n (k := 2) (by decide +kernel) rfl rfl) (
    okc (ok_cmp_ne (off := 7) (by decide +kernel) rfl rfl) (
    okc (ok_iconst (n := 1) (by decide +kernel) rfl rfl) (
    okc (ok_goto (off := 4) (by decide +kernel) rfl) (
    okc (ok_iconst (n := 0) (by decide +kernel) rfl rfl) (
    okc (ok_iret rfl (by decide +kernel)) (
    okc (ok_iload_n (k := 1) (by decide +kernel) rfl rfl) (
    okc (ok_iload_n (k := 2) (by decide +kernel) rfl rfl) (
    okc (ok_cmp_le (off := 7) (by decide +kernel) rfl rfl) (
    okc (ok_iconst (n := 1) (by decide +kernel) rfl rfl) (
    okc (ok_goto (off := 4) (by decide +kernel) rfl) (
    okc (ok_iconst (n := 0) (by decide +kernel) rfl rfl) (
    okc (ok_iret rfl (by decide +kernel)) (
    okc (ok_iload_n (k := 1) (by decide +kernel) rfl rfl) (
    okc (ok_iload_n (k := 2) (by decide +kernel) rfl rfl) (
    okc (ok_iadd (by decide +kernel) rfl) (
    okc (ok_iret rfl (by decide +kernel)) (
    okc (ok_iload_n (k := 1) (by decide +kernel) rfl rfl) (
    okc (ok_iload_n (k := 2) (by decide +kernel) rfl rfl) (
    okc (ok_isub (by decide +kernel) rfl) (
    okc (ok_iret rfl (by decide +kernel)) (
    okc (ok_iload_n (k := 1) (by decide +kernel) rfl rfl) (
    okc (ok_iload_n (k := 2) (by decide +kernel) rfl rfl) (
    okc (ok_imul (by decide +kernel) rfl) (
    okc (ok_iret rfl (by decide +kernel)) (
    okc (ok_iload_n (k := 2) (by decide +kernel) rfl rfl) (
    okc (ok_if_ne (off := 7) (by decide +kernel) rfl rfl) (
    okc (ok_iconst (n := 0) (by decide +kernel) rfl rfl) (
    okc (ok_goto (off := 6) (by decide +kernel) rfl) (
    okc (ok_iload_n (k := 1) (by decide +kernel) rfl rfl) (
    okc (ok_iload_n (k := 2) (by decide +kernel) rfl rfl) (
    okc (ok_idiv (by decide +kernel) rfl) (
    okc (ok_iret rfl (by decide +kernel)) ( okn)))))))))))))))))))))))))))))))))))))))))))))))))))))))))))
def pl_R_step_1 : List (Nat × mA) := [(0, a_aload 0 1), (1, a_getI 1 10 9 4), (4, a_if (fun x => decide (x < 0)) 8 7), (7, a_ret), (8, a_aload 0 9), (9, a_getI 1 10 7 12), (12, a_istore 1 13), (13, a_aload 0 14), (14, a_getI 1 10 5 17), (17, a_if (fun x => decide (x = 0)) 24 20), (20, a_push 1 21), (21, a_goto 25), (24, a_push 0 25), (25, a_istore 2 26), (26, a_aload 0 27), (27, a_iload 1 28), (28, a_putI 1 10 6 31), (31, a_aload 0 32), (32, a_getI 1 10 6 35), (35, a_aload 0 36), (36, a_getR 1 10 0 39), (39, a_getI 5 2 1 42), (42, a_cmp (fun x y => decide (y ≤ x)) 75 45), (45, a_aload 0 46), (46, a_getR 1 10 0 49), (49, a_getR 5 2 0 52), (52, a_aload 0 53), (53, a_getI 1 10 6 56), (56, a_ald 0 57), (57, a_push 32 59), (59, a_cmp (fun x y => decide (x ≠ y)) 75 62), (62, a_aload 0 63), (63, a_dup 64), (64, a_getI 1 10 6 67), (67, a_push 1 68), (68, a_bin (fun x y => x + y) 69), (69, a_putI 1 10 6 72), (72, a_goto 31), (75, a_aload 0 76), (76, a_aload 0 77), (77, a_getI 1 10 6 80), (80, a_aload 0 81), (81, a_getR 1 10 0 84), (84, a_getI 5 2 1 87), (87, a_cmp (fun x y => decide (y ≤ x)) 108 90), (90, a_aload 0 91), (91, a_getR 1 10 0 94), (94, a_getR 5 2 0 97), (97, a_aload 0 98), (98, a_getI 1 10 6 101), (101, a_ald 0 102), (102, a_call 210 1 105), (105, a_goto 109), (108, a_push 3 109), (109, a_putI 1 10 5 112), (112, a_aload 0 113), (113, a_aload 0 114), (114, a_getI 1 10 6 117), (117, a_push 1 118), (118, a_bin (fun x y => x + y) 119)]
set_option maxRecDepth 20000 in
theorem ol_R_step_1 : okall B sp D cA (SPf B sp Ls xs adK adV) MT ⟨"WreckSky$Reader", "step", "()V"⟩ prog_3_method_4_code 3 (Option.none : Option Jvm.ClassFile.FieldType) (pl_R_step_1) := by
  unfold pl_R_step_1
  exact
    okc (ok_aload_n (k := 0) (by decide +kernel) rfl rfl) (
    okc (ok_getI (k := 9) (idx := 38) cX1_ok (by decide) (by decide +kernel) w_239 (by decide +kernel) rfl) (
    okc (ok_if_lt (off := 4) (by decide +kernel) rfl rfl) (
    okc (ok_ret rfl (by decide +kernel)) (
    okc (ok_aload_n (k := 0) (by decide +kernel) rfl rfl) (
    okc (ok_getI (k := 7) (idx := 35) cX1_ok (by decide) (by decide +kernel) w_237 (by decide +kernel) rfl) (
    okc (ok_istore_n (k := 1) (by decide +kernel) rfl rfl) (
    okc (ok_aload_n (k := 0) (by decide +kernel) rfl rfl) (
    okc (ok_getI (k := 5) (idx := 32) cX1_ok (by decide) (by decide +kernel) w_235 (by decide +kernel) rfl) (
    okc (ok_if_eq (off := 7) (by decide +kernel) rfl rfl) (
    okc (ok_iconst (n := 1) (by decide +kernel) rfl rfl) (
    okc (ok_goto (off := 4) (by decide +kernel) rfl) (
    okc (ok_iconst (n := 0) (by decide +kernel) rfl rfl) (
    okc (ok_istore_n (k := 2) (by decide +kernel) rfl rfl) (
    okc (ok_aload_n (k := 0) (by decide +kernel) rfl rfl) (
    okc (ok_iload_n (k := 1) (by decide +kernel) rfl rfl) (
    okc (ok_putI (k := 6) (idx := 66) cX1_ok (by decide) rfl rfl w_236 (by decide +kernel) rfl) (
    okc (ok_aload_n (k := 0) (by decide +kernel) rfl rfl) (
    okc (ok_getI (k := 6) (idx := 66) cX1_ok (by decide) (by decide +kernel) w_236 (by decide +kernel) rfl) (
    okc (ok_aload_n (k := 0) (by decide +kernel) rfl rfl) (
    okc (ok_getR (k := 0) (idx := 21) cX1_ok (by decide) (by decide +kernel) w_230 (by decide +kernel) rfl) (
    okc (ok_getI (k := 1) (idx := 69) cX5_ok (by decide) (by decide +kernel) w_216 (by decide +kernel) rfl) (
    okc (ok_cmp_ge (off := 33) (by decide +kernel) rfl rfl) (
    okc (ok_aload_n (k := 0) (by decide +kernel) rfl rfl) (
    okc (ok_getR (k := 0) (idx := 21) cX1_ok (by decide) (by decide +kernel) w_230 (by decide +kernel) rfl) (
    okc (ok_getR (k := 0) (idx := 74) cX5_ok (by decide) (by decide +kernel) w_214 (by decide +kernel) rfl) (
    okc (ok_aload_n (k := 0) (by decide +kernel) rfl rfl) (
    okc (ok_getI (k := 6) (idx := 66) cX1_ok (by decide) (by decide +kernel) w_236 (by decide +kernel) rfl) (
    okc (ok_iald (by decide +kernel) rfl) (
    okc (ok_bipush (n := 32) (by decide +kernel) (by decide +kernel) rfl) (
    okc (ok_cmp_ne (off := 16) (by decide +kernel) rfl rfl) (
    okc (ok_aload_n (k := 0) (by decide +kernel) rfl rfl) (
    okc (ok_dup (by decide +kernel) rfl) (
    okc (ok_getI (k := 6) (idx := 66) cX1_ok (by decide) (by decide +kernel) w_236 (by decide +kernel) rfl) (
    okc (ok_iconst (n := 1) (by decide +kernel) rfl rfl) (
    okc (ok_iadd (by decide +kernel) rfl) (
    okc (ok_putI (k := 6) (idx := 66) cX1_ok (by decide) rfl rfl w_236 (by decide +kernel) rfl) (
    okc (ok_goto (off := -41) (by decide +kernel) rfl) (
    okc (ok_aload_n (k := 0) (by decide +kernel) rfl rfl) (
    okc (ok_aload_n (k := 0) (by decide +kernel) rfl rfl) (
    okc (ok_getI (k := 6) (idx := 66) cX1_ok (by decide) (by decide +kernel) w_236 (by decide +kernel) rfl) (
    okc (ok_aload_n (k := 0) (by decide +kernel) rfl rfl) (
    okc (ok_getR (k := 0) (idx := 21) cX1_ok (by decide) (by decide +kernel) w_230 (by decide +kernel) rfl) (
    okc (ok_getI (k := 1) (idx := 69) cX5_ok (by decide) (by decide +kernel) w_216 (by decide +kernel) rfl) (
    okc (ok_cmp_ge (off := 21) (by decide +kernel) rfl rfl) (
    okc (ok_aload_n (k := 0) (by decide +kernel) rfl rfl) (
    okc (ok_getR (k := 0) (idx := 21) cX1_ok (by decide) (by decide +kernel) w_230 (by decide +kernel) rfl) (
    okc (ok_getR (k := 0) (idx := 74) cX5_ok (by decide) (by decide +kernel) w_214 (by decide +kernel) rfl) (
    okc (ok_aload_n (k := 0) (by decide +kernel) rfl rfl) (
    okc (ok_getI (k := 6) (idx := 66) cX1_ok (by decide) (by decide +kernel) w_236 (by decide +kernel) rfl) (
    okc (ok_iald (by decide +kernel) rfl) (
    okc (ok_callS (SPf_ok _ _ _ _ _ _) (mi := 210) (n := 1) (idx := 77) rfl m_R_sortOf (by decide) w_691 w_692 (by decide +kernel) rfl) (
    okc (ok_goto (off := 4) (by decide +kernel) rfl) (
    okc (ok_iconst (n := 3) (by decide +kernel) rfl rfl) (
    okc (ok_putI (k := 5) (idx := 32) cX1_ok (by decide) rfl rfl w_235 (by decide +kernel) rfl) (
    okc (ok_aload_n (k := 0) (by decide +kernel) rfl rfl) (
    okc (ok_aload_n (k := 0) (by decide +kernel) rfl rfl) (
    okc (ok_getI (k := 6) (idx := 66) cX1_ok (by decide) (by decide +kernel) w_236 (by decide +kernel) rfl) (
    okc (ok_iconst (n := 1) (by decide +kernel) rfl rfl) (
    okc (ok_iadd (by decide +kernel) rfl) ( okn))))))))))))))))))))))))))))))))))))))))))))))))))))))))))))
def pl_R_step_2 : List (Nat × mA) := [(119, a_aload 0 120), (120, a_getR 1 10 0 123), (123, a_getI 5 2 1 126), (126, a_call 116 2 129), (129, a_putI 1 10 7 132), (132, a_aload 0 133), (133, a_getI 1 10 5 136), (136, a_if (fun x => decide (x = 0)) 188 139), (139, a_aload 0 140), (140, a_getI 1 10 7 143), (143, a_aload 0 144), (144, a_getR 1 10 0 147), (147, a_getI 5 2 1 150), (150, a_cmp (fun x y => decide (y ≤ x)) 188 153), (153, a_aload 0 154), (154, a_getR 1 10 0 157), (157, a_getR 5 2 0 160), (160, a_aload 0 161), (161, a_getI 1 10 7 164), (164, a_ald 0 165), (165, a_call 210 1 168), (168, a_aload 0 169), (169, a_getI 1 10 5 172), (172, a_cmp (fun x y => decide (x ≠ y)) 188 175), (175, a_aload 0 176), (176, a_dup 177), (177, a_getI 1 10 7 180), (180, a_push 1 181), (181, a_bin (fun x y => x + y) 182), (182, a_putI 1 10 7 185), (185, a_goto 132), (188, a_aload 0 189), (189, a_iload 2 190), (190, a_if (fun x => decide (x = 0)) 212 193), (193, a_aload 0 194), (194, a_getI 1 10 5 197), (197, a_if (fun x => decide (x = 0)) 212 200), (200, a_aload 0 201), (201, a_getI 1 10 6 204), (204, a_iload 1 205), (205, a_cmp (fun x y => decide (x ≠ y)) 212 208), (208, a_push 1 209), (209, a_goto 213), (212, a_push 0 213), (213, a_putZ 1 10 8 216), (216, a_ret)]
set_option maxRecDepth 20000 in
theorem ol_R_step_2 : okall B sp D cA (SPf B sp Ls xs adK adV) MT ⟨"WreckSky$Reader", "step", "()V"⟩ prog_3_method_4_code 3 (Option.none : Option Jvm.ClassFile.FieldType) (pl_R_step_2) := by
  unfold pl_R_step_2
  exact
    okc (ok_aload_n (k := 0) (by decide +kernel) rfl rfl) (
    okc (ok_getR (k := 0) (idx := 21) cX1_ok (by decide) (by decide +kernel) w_230 (by decide +kernel) rfl) (
    okc (ok_getI (k := 1) (idx := 69) cX5_ok (by decide) (by decide +kernel) w_216 (by decide +kernel) rfl) (
    okc (ok_callS (SPf_ok _ _ _ _ _ _) (mi := 116) (n := 2) (idx := 81) rfl m_JMath_min (by decide) w_694 w_394 (by decide +kernel) rfl) (
    okc (ok_putI (k := 7) (idx := 35) cX1_ok (by decide) rfl rfl w_237 (by decide +kernel) rfl) (
    okc (ok_aload_n (k := 0) (by decide +kernel) rfl rfl) (
    okc (ok_getI (k := 5) (idx := 32) cX1_ok (by decide) (by decide +kernel) w_235 (by decide +kernel) rfl) (
    okc (ok_if_eq (off := 52) (by decide +kernel) rfl rfl) (
    okc (ok_aload_n (k := 0) (by decide +kernel) rfl rfl) (
    okc (ok_getI (k := 7) (idx := 35) cX1_ok (by decide) (by decide +kernel) w_237 (by decide +kernel) rfl) (
    okc (ok_aload_n (k := 0) (by decide +kernel) rfl rfl) (
    okc (ok_getR (k := 0) (idx := 21) cX1_ok (by decide) (by decide +kernel) w_230 (by decide +kernel) rfl) (
    okc (ok_getI (k := 1) (idx := 69) cX5_ok (by decide) (by decide +kernel) w_216 (by decide +kernel) rfl) (
    okc (ok_cmp_ge (off := 38) (by decide +kernel) rfl rfl) (
    okc (ok_aload_n (k := 0) (by decide +kernel) rfl rfl) (
    okc (ok_getR (k := 0) (idx := 21) cX1_ok (by decide) (by decide +kernel) w_230 (by decide +kernel) rfl) (
    okc (ok_getR (k := 0) (idx := 74) cX5_ok (by decide) (by decide +kernel) w_214 (by decide +kernel) rfl) (
    okc (ok_aload_n (k := 0) (by decide +kernel) rfl rfl) (
    okc (ok_getI (k := 7) (idx := 35) cX1_ok (by decide) (by decide +kernel) w_237 (by decide +kernel) rfl) (
    okc (ok_iald (by decide +kernel) rfl) (
    okc (ok_callS (SPf_ok _ _ _ _ _ _) (mi := 210) (n := 1) (idx := 77) rfl m_R_sortOf (by decide) w_691 w_692 (by decide +kernel) rfl) (
    okc (ok_aload_n (k := 0) (by decide +kernel) rfl rfl) (
    okc (ok_getI (k := 5) (idx := 32) cX1_ok (by decide) (by decide +kernel) w_235 (by decide +kernel) rfl) (
    okc (ok_cmp_ne (off := 16) (by decide +kernel) rfl rfl) (
    okc (ok_aload_n (k := 0) (by decide +kernel) rfl rfl) (
    okc (ok_dup (by decide +kernel) rfl) (
    okc (ok_getI (k := 7) (idx := 35) cX1_ok (by decide) (by decide +kernel) w_237 (by decide +kernel) rfl) (
    okc (ok_iconst (n := 1) (by decide +kernel) rfl rfl) (
    okc (ok_iadd (by decide +kernel) rfl) (
    okc (ok_putI (k := 7) (idx := 35) cX1_ok (by decide) rfl rfl w_237 (by decide +kernel) rfl) (
    okc (ok_goto (off := -53) (by decide +kernel) rfl) (
    okc (ok_aload_n (k := 0) (by decide +kernel) rfl rfl) (
    okc (ok_iload_n (k := 2) (by decide +kernel) rfl rfl) (
    okc (ok_if_eq (off := 22) (by decide +kernel) rfl rfl) (
    okc (ok_aload_n (k := 0) (by decide +kernel) rfl rfl) (
    okc (ok_getI (k := 5) (idx := 32) cX1_ok (by decide) (by decide +kernel) w_235 (by decide +kernel) rfl) (
    okc (ok_if_eq (off := 15) (by decide +kernel) rfl rfl) (
    okc (ok_aload_n (k := 0) (by decide +kernel) rfl rfl) (
    okc (ok_getI (k := 6) (idx := 66) cX1_ok (by decide) (by decide +kernel) w_236 (by decide +kernel) rfl) (
    okc (ok_iload_n (k := 1) (by decide +kernel) rfl rfl) (
    okc (ok_cmp_ne (off := 7) (by decide +kernel) rfl rfl) (
    okc (ok_iconst (n := 1) (by decide +kernel) rfl rfl) (
    okc (ok_goto (off := 4) (by decide +kernel) rfl) (
    okc (ok_iconst (n := 0) (by decide +kernel) rfl rfl) (
    okc (ok_putZ (k := 8) (idx := 87) cX1_ok (by decide) rfl rfl w_238 (by decide +kernel) rfl) (
    okc (ok_ret rfl (by decide +kernel)) ( okn))))))))))))))))))))))))))))))))))))))))))))))
def pl_R_step : List (Nat × mA) := pl_R_step_1 ++ (pl_R_step_2)
theorem ol_R_step : okall B sp D cA (SPf B sp Ls xs adK adV) MT ⟨"WreckSky$Reader", "step", "()V"⟩ prog_3_method_4_code 3 (Option.none : Option Jvm.ClassFile.FieldType) (pl_R_step) := oka ol_R_step_1 (ol_R_step_2)
def pl_R_readKey : List (Nat × mA) := [(0, a_push 0 1), (1, a_istore 1 2), (2, a_aload 0 3), (3, a_spec 11 5), (5, a_putR 1 10 4 8), (8, a_aload 0 9), (9, a_spec 12 11), (11, a_callO 1 10 211 1 14), (14, a_if (fun x => decide (x = 0)) 28 17), (17, a_push 1 18), (18, a_istore 1 19), (19, a_aload 0 20), (20, a_spec 13 22), (22, a_putR 1 10 4 25), (25, a_goto 61), (28, a_aload 0 29), (29, a_spec 14 31), (31, a_callO 1 10 211 1 34), (34, a_if (fun x => decide (x = 0)) 48 37), (37, a_push 2 38), (38, a_istore 1 39), (39, a_aload 0 40), (40, a_spec 15 42), (42, a_putR 1 10 4 45), (45, a_goto 61), (48, a_aload 0 49), (49, a_spec 16 51), (51, a_callO 1 10 211 1 54), (54, a_if (fun x => decide (x ≠ 0)) 61 57), (57, a_aload 0 58), (58, a_callO 1 10 196 0 61), (61, a_aload 0 62), (62, a_callO 1 10 193 0 65), (65, a_iload 1 66), (66, a_iret)]
set_option maxRecDepth 20000 in
theorem ol_R_readKey : okall B sp D cA (SPf B sp Ls xs adK adV) MT ⟨"WreckSky$Reader", "readKey", "()I"⟩ prog_3_method_6_code 2 (Option.some Jvm.ClassFile.FieldType.int) (pl_R_readKey) := by
  unfold pl_R_readKey
  exact
    okc (ok_iconst (n := 0) (by decide +kernel) rfl rfl) (
    okc (ok_istore_n (k := 1) (by decide +kernel) rfl rfl) (
    okc (ok_aload_n (k := 0) (by decide +kernel) rfl rfl) (
    okc (ok_str (i := 1) (k := 91) (by decide) (fun U h => h.2.2.2.2.2.1.2.1) (by decide +kernel) rfl) (
    okc (ok_putR (k := 4) (idx := 17) cX1_ok (by decide) (by decide +kernel) rfl w_234 (by decide +kernel) rfl) (
    okc (ok_aload_n (k := 0) (by decide +kernel) rfl rfl) (
    okc (ok_str (i := 2) (k := 93) (by decide) (fun U h => h.2.2.2.2.2.1.2.2.1) (by decide +kernel) rfl) (
    okc (ok_callV (SPf_ok _ _ _ _ _ _) (mi := 211) (n := 1) (idx := 95) rfl m_R_isWord (by decide) cX1_ok w_701 w_703 w_10 (by decide +kernel) rfl) (
    okc (ok_if_eq (off := 14) (by decide +kernel) rfl rfl) (
    okc (ok_iconst (n := 1) (by decide +kernel) rfl rfl) (
    okc (ok_istore_n (k := 1) (by decide +kernel) rfl rfl) (
    okc (ok_aload_n (k := 0) (by decide +kernel) rfl rfl) (
    okc (ok_str (i := 3) (k := 99) (by decide) (fun U h => h.2.2.2.2.2.1.2.2.2.1) (by decide +kernel) rfl) (
    okc (ok_putR (k := 4) (idx := 17) cX1_ok (by decide) (by decide +kernel) rfl w_234 (by decide +kernel) rfl) (
    okc (ok_goto (off := 36) (by decide +kernel) rfl) (
    okc (ok_aload_n (k := 0) (by decide +kernel) rfl rfl) (
    okc (ok_str (i := 4) (k := 101) (by decide) (fun U h => h.2.2.2.2.2.1.2.2.2.2.1) (by decide +kernel) rfl) (
    okc (ok_callV (SPf_ok _ _ _ _ _ _) (mi := 211) (n := 1) (idx := 95) rfl m_R_isWord (by decide) cX1_ok w_701 w_703 w_10 (by decide +kernel) rfl) (
    okc (ok_if_eq (off := 14) (by decide +kernel) rfl rfl) (
    okc (ok_iconst (n := 2) (by decide +kernel) rfl rfl) (
    okc (ok_istore_n (k := 1) (by decide +kernel) rfl rfl) (
    okc (ok_aload_n (k := 0) (by decide +kernel) rfl rfl) (
    okc (ok_str (i := 5) (k := 103) (by decide) (fun U h => h.2.2.2.2.2.1.2.2.2.2.2.1) (by decide +kernel) rfl) (
    okc (ok_putR (k := 4) (idx := 17) cX1_ok (by decide) (by decide +kernel) rfl w_234 (by decide +kernel) rfl) (
    okc (ok_goto (off := 16) (by decide +kernel) rfl) (
    okc (ok_aload_n (k := 0) (by decide +kernel) rfl rfl) (
    okc (ok_str (i := 6) (k := 105) (by decide) (fun U h => h.2.2.2.2.2.1.2.2.2.2.2.2) (by decide +kernel) rfl) (
    okc (ok_callV (SPf_ok _ _ _ _ _ _) (mi := 211) (n := 1) (idx := 95) rfl m_R_isWord (by decide) cX1_ok w_701 w_703 w_10 (by decide +kernel) rfl) (
    okc (ok_if_ne (off := 7) (by decide +kernel) rfl rfl) (
    okc (ok_aload_n (k := 0) (by decide +kernel) rfl rfl) (
    okc (ok_callV (SPf_ok _ _ _ _ _ _) (mi := 196) (n := 0) (idx := 52) rfl m_R_fail (by decide) cX1_ok w_757 w_759 w_11 (by decide +kernel) rfl) (
    okc (ok_aload_n (k := 0) (by decide +kernel) rfl rfl) (
    okc (ok_callV (SPf_ok _ _ _ _ _ _) (mi := 193) (n := 0) (idx := 41) rfl m_R_step (by decide) cX1_ok w_687 w_689 w_8 (by decide +kernel) rfl) (
    okc (ok_iload_n (k := 1) (by decide +kernel) rfl rfl) (
    okc (ok_iret rfl (by decide +kernel)) ( okn)))))))))))))))))))))))))))))))))))
def pl_R_readLevel : List (Nat × mA) := [(0, a_iload 1 1), (1, a_push 5 2), (2, a_cmp (fun x y => decide (x ≠ y)) 12 5), (5, a_aload 0 6), (6, a_iload 2 7), (7, a_iload 3 8), (8, a_callO 1 10 212 2 11), (11, a_ret), (12, a_aload 0 13), (13, a_iload 1 14), (14, a_push 1 15), (15, a_bin (fun x y => x + y) 16), (16, a_iload 2 17), (17, a_iload 3 18), (18, a_callO 1 10 195 3 21), (21, a_iload 1 22), (22, a_push 2 23), (23, a_cmp (fun x y => decide (x ≠ y)) 30 26), (26, a_push 1 27), (27, a_goto 32), (30, a_push 96 32), (32, a_istore 4 34), (34, a_push 0 35), (35, a_istore 5 37), (37, a_iload 5 39), (39, a_iload 4 41), (41, a_cmp (fun x y => decide (y ≤ x)) 99 44), (44, a_aload 0 45), (45, a_getI 1 10 9 48), (48, a_if (fun x => decide (0 ≤ x)) 99 51), (51, a_aload 0 52), (52, a_iload 1 53), (53, a_callO 1 10 213 1 56), (56, a_if (fun x => decide (x = 0)) 99 59), (59, a_aload 0 60), (60, a_getR 1 10 0 63), (63, a_getR 5 2 0 66), (66, a_aload 0 67), (67, a_getI 1 10 6 70), (70, a_ald 0 71), (71, a_istore 6 73), (73, a_aload 0 74), (74, a_callO 1 10 193 0 77), (77, a_aload 0 78), (78, a_iload 1 79), (79, a_push 1 80), (80, a_bin (fun x y => x + y) 81), (81, a_iload 2 82), (82, a_iload 3 83), (83, a_callO 1 10 195 3 86), (86, a_aload 0 87), (87, a_iload 6 89), (89, a_un (fun x => -x) 90), (90, a_callO 1 10 214 1 93), (93, a_iinc 5 1 96), (96, a_goto 37), (99, a_ret)]
set_option maxRecDepth 20000 in
theorem ol_R_readLevel : okall B sp D cA (SPf B sp Ls xs adK adV) MT ⟨"WreckSky$Reader", "readLevel", "(III)V"⟩ prog_3_method_10_code 7 (Option.none : Option Jvm.ClassFile.FieldType) (pl_R_readLevel) := by
  unfold pl_R_readLevel
  exact
    okc (ok_iload_n (k := 1) (by decide +kernel) rfl rfl) (
    okc (ok_iconst (n := 5) (by decide +kernel) rfl rfl) (
    okc (ok_cmp_ne (off := 10) (by decide +kernel) rfl rfl) (
    okc (ok_aload_n (k := 0) (by decide +kernel) rfl rfl) (
    okc (ok_iload_n (k := 2) (by decide +kernel) rfl rfl) (
    okc (ok_iload_n (k := 3) (by decide +kernel) rfl rfl) (
    okc (ok_callV (SPf_ok _ _ _ _ _ _) (mi := 212) (n := 2) (idx := 119) rfl m_R_readPiece (by decide) cX1_ok w_765 w_767 w_13 (by decide +kernel) rfl) (
    okc (ok_ret rfl (by decide +kernel)) (
    okc (ok_aload_n (k := 0) (by decide +kernel) rfl rfl) (
    okc (ok_iload_n (k := 1) (by decide +kernel) rfl rfl) (
    okc (ok_iconst (n := 1) (by decide +kernel) rfl rfl) (
    okc (ok_iadd (by decide +kernel) rfl) (
    okc (ok_iload_n (k := 2) (by decide +kernel) rfl rfl) (
    okc (ok_iload_n (k := 3) (by decide +kernel) rfl rfl) (
    okc (ok_callV (SPf_ok _ _ _ _ _ _) (mi := 195) (n := 3) (idx := 48) rfl m_R_readLevel (by decide) cX1_ok w_761 w_763 w_12 (by decide +kernel) rfl) (
    okc (ok_iload_n (k := 1) (by decide +kernel) rfl rfl) (
    okc (ok_iconst (n := 2) (by decide +kernel) rfl rfl) (
    okc (ok_cmp_ne (off := 7) (by decide +kernel) rfl rfl) (
    okc (ok_iconst (n := 1) (by decide +kernel) rfl rfl) (
    okc (ok_goto (off := 5) (by decide +kernel) rfl) (
    okc (ok_bipush (n := 96) (by decide +kernel) (by decide +kernel) rfl) (
    okc (ok_istore (by decide +kernel) rfl) (
    okc (ok_iconst (n := 0) (by decide +kernel) rfl rfl) (
    okc (ok_istore (by decide +kernel) rfl) (
    okc (ok_iload (by decide +kernel) rfl) (
    okc (ok_iload (by decide +kernel) rfl) (
    okc (ok_cmp_ge (off := 58) (by decide +kernel) rfl rfl) (
    okc (ok_aload_n (k := 0) (by decide +kernel) rfl rfl) (
    okc (ok_getI (k := 9) (idx := 38) cX1_ok (by decide) (by decide +kernel) w_239 (by decide +kernel) rfl) (
    okc (ok_if_ge (off := 51) (by decide +kernel) rfl rfl) (
    okc (ok_aload_n (k := 0) (by decide +kernel) rfl rfl) (
    okc (ok_iload_n (k := 1) (by decide +kernel) rfl rfl) (
    okc (ok_callV (SPf_ok _ _ _ _ _ _) (mi := 213) (n := 1) (idx := 123) rfl m_R_joinsAt (by decide) cX1_ok w_840 w_842 w_18 (by decide +kernel) rfl) (
    okc (ok_if_eq (off := 43) (by decide +kernel) rfl rfl) (
    okc (ok_aload_n (k := 0) (by decide +kernel) rfl rfl) (
    okc (ok_getR (k := 0) (idx := 21) cX1_ok (by decide) (by decide +kernel) w_230 (by decide +kernel) rfl) (
    okc (ok_getR (k := 0) (idx := 74) cX5_ok (by decide) (by decide +kernel) w_214 (by decide +kernel) rfl) (
    okc (ok_aload_n (k := 0) (by decide +kernel) rfl rfl) (
    okc (ok_getI (k := 6) (idx := 66) cX1_ok (by decide) (by decide +kernel) w_236 (by decide +kernel) rfl) (
    okc (ok_iald (by decide +kernel) rfl) (
    okc (ok_istore (by decide +kernel) rfl) (
    okc (ok_aload_n (k := 0) (by decide +kernel) rfl rfl) (
    okc (ok_callV (SPf_ok _ _ _ _ _ _) (mi := 193) (n := 0) (idx := 41) rfl m_R_step (by decide) cX1_ok w_687 w_689 w_8 (by decide +kernel) rfl) (
    okc (ok_aload_n (k := 0) (by decide +kernel) rfl rfl) (
    okc (ok_iload_n (k := 1) (by decide +kernel) rfl rfl) (
    okc (ok_iconst (n := 1) (by decide +kernel) rfl rfl) (
    okc (ok_iadd (by decide +kernel) rfl) (
    okc (ok_iload_n (k := 2) (by decide +kernel) rfl rfl) (
    okc (ok_iload_n (k := 3) (by decide +kernel) rfl rfl) (
    okc (ok_callV (SPf_ok _ _ _ _ _ _) (mi := 195) (n := 3) (idx := 48) rfl m_R_readLevel (by decide) cX1_ok w_761 w_763 w_12 (by decide +kernel) rfl) (
    okc (ok_aload_n (k := 0) (by decide +kernel) rfl rfl) (
    okc (ok_iload (by decide +kernel) rfl) (
    okc (ok_ineg (by decide +kernel) rfl) (
    okc (ok_callV (SPf_ok _ _ _ _ _ _) (mi := 214) (n := 1) (idx := 126) rfl m_R_put (by decide) cX1_ok w_773 w_775 w_15 (by decide +kernel) rfl) (
    okc (ok_iinc (n := 1) (by decide +kernel) rfl rfl) (
    okc (ok_goto (off := -59) (by decide +kernel) rfl) (
    okc (ok_ret rfl (by decide +kernel)) ( okn)))))))))))))))))))))))))))))))))))))))))))))))))))))))))
def pl_R_fail : List (Nat × mA) := [(0, a_aload 0 1), (1, a_getI 1 10 9 4), (4, a_if (fun x => decide (0 ≤ x)) 15 7), (7, a_aload 0 8), (8, a_aload 0 9), (9, a_getI 1 10 6 12), (12, a_putI 1 10 9 15), (15, a_ret)]
set_option maxRecDepth 20000 in
theorem ol_R_fail : okall B sp D cA (SPf B sp Ls xs adK adV) MT ⟨"WreckSky$Reader", "fail", "()V"⟩ prog_3_method_3_code 1 (Option.none : Option Jvm.ClassFile.FieldType) (pl_R_fail) := by
  unfold pl_R_fail
  exact
    okc (ok_aload_n (k := 0) (by decide +kernel) rfl rfl) (
    okc (ok_getI (k := 9) (idx := 38) cX1_ok (by decide) (by decide +kernel) w_239 (by decide +kernel) rfl) (
    okc (ok_if_ge (off := 11) (by decide +kernel) rfl rfl) (
    okc (ok_aload_n (k := 0) (by decide +kernel) rfl rfl) (
    okc (ok_aload_n (k := 0) (by decide +kernel) rfl rfl) (
    okc (ok_getI (k := 6) (idx := 66) cX1_ok (by decide) (by decide +kernel) w_236 (by decide +kernel) rfl) (
    okc (ok_putI (k := 9) (idx := 38) cX1_ok (by decide) rfl rfl w_239 (by decide +kernel) rfl) (
    okc (ok_ret rfl (by decide +kernel)) ( okn))))))))
def pl_JArrays_copyOf : List (Nat × mA) := [(0, a_iload 1 1), (1, a_aload 0 2), (2, a_alen 0 3), (3, a_cmp (fun x y => decide (x ≠ y)) 14 6), (6, a_aload 0 7), (7, a_fail), (10, a_fail), (13, a_aret), (14, a_iload 1 15), (15, a_newa 0 17), (17, a_astore 2 18), (18, a_aload 0 19), (19, a_push 0 20), (20, a_aload 2 21), (21, a_push 0 22), (22, a_aload 0 23), (23, a_alen 0 24), (24, a_iload 1 25), (25, a_call 116 2 28), (28, a_copy 31), (31, a_aload 2 32), (32, a_aret)]
set_option maxRecDepth 20000 in
theorem ol_JArrays_copyOf : okall B sp D cA (SPf B sp Ls xs adK adV) MT ⟨"java/util/Arrays", "copyOf", "([II)[I"⟩ prog_20_method_123_code 3 (Option.some (Jvm.ClassFile.FieldType.array Jvm.ClassFile.FieldType.int)) (pl_JArrays_copyOf) := by
  unfold pl_JArrays_copyOf
  exact
    okc (ok_iload_n (k := 1) (by decide +kernel) rfl rfl) (
    okc (ok_aload_n (k := 0) (by decide +kernel) rfl rfl) (
    okc (ok_alen (by decide) (by decide +kernel) rfl) (
    okc (ok_cmp_ne (off := 11) (by decide +kernel) rfl rfl) (
    okc (ok_aload_n (k := 0) (by decide +kernel) rfl rfl) (
    okc (ok_fail) (
    okc (ok_fail) (
    okc (ok_aret rfl (Or.inr ⟨_, rfl⟩) (by decide +kernel)) (
    okc (ok_iload_n (k := 1) (by decide +kernel) rfl rfl) (
    okc (ok_newa (t := 0) (atype := .int) (ty := .int) (by decide) rfl (fun _ => rfl) (fun _ _ => rfl) rfl (by decide) w_133 (by decide +kernel) rfl) (
    okc (ok_astore_n (k := 2) (by decide +kernel) rfl rfl) (
    okc (ok_aload_n (k := 0) (by decide +kernel) rfl rfl) (
    okc (ok_iconst (n := 0) (by decide +kernel) rfl rfl) (
    okc (ok_aload_n (k := 2) (by decide +kernel) rfl rfl) (
    okc (ok_iconst (n := 0) (by decide +kernel) rfl rfl) (
    okc (ok_aload_n (k := 0) (by decide +kernel) rfl rfl) (
    okc (ok_alen (by decide) (by decide +kernel) rfl) (
    okc (ok_iload_n (k := 1) (by decide +kernel) rfl rfl) (
    okc (ok_callS (SPf_ok _ _ _ _ _ _) (mi := 116) (n := 2) (idx := 304) rfl m_JMath_min (by decide) w_856 w_394 (by decide +kernel) rfl) (
    okc (ok_copy (idx := 150) w_857 w_859 w_858 w_74 (by decide +kernel) rfl) (
    okc (ok_aload_n (k := 2) (by decide +kernel) rfl rfl) (
    okc (ok_aret rfl (Or.inr ⟨_, rfl⟩) (by decide +kernel)) ( okn))))))))))))))))))))))
def pl_X_init : List (Nat × mA) := [(0, a_aload 0 1), (1, a_obj 4), (4, a_aload 0 5), (5, a_iload 1 6), (6, a_putI 6 3 0 9), (9, a_aload 0 10), (10, a_iload 2 11), (11, a_putI 6 3 1 14), (14, a_aload 0 15), (15, a_aload 3 16), (16, a_putR 6 3 2 19), (19, a_ret)]
set_option maxRecDepth 20000 in
theorem ol_X_init : okall B sp D cA (SPf B sp Ls xs adK adV) MT ⟨"WreckSky$Text", "<init>", "(II[I)V"⟩ prog_8_method_1_code 4 (Option.none : Option Jvm.ClassFile.FieldType) (pl_X_init) := by
  unfold pl_X_init
  exact
    okc (ok_aload_n (k := 0) (by decide +kernel) rfl rfl) (
    okc (ok_obj (idx := 1) w_863 w_81 w_obj (by decide +kernel) rfl) (
    okc (ok_aload_n (k := 0) (by decide +kernel) rfl rfl) (
    okc (ok_iload_n (k := 1) (by decide +kernel) rfl rfl) (
    okc (ok_putIF (k := 0) (idx := 7) cX6_ok (by decide) rfl rfl rfl rfl w_864 (by decide +kernel) rfl) (
    okc (ok_aload_n (k := 0) (by decide +kernel) rfl rfl) (
    okc (ok_iload_n (k := 2) (by decide +kernel) rfl rfl) (
    okc (ok_putIF (k := 1) (idx := 13) cX6_ok (by decide) rfl rfl rfl rfl w_867 (by decide +kernel) rfl) (
    okc (ok_aload_n (k := 0) (by decide +kernel) rfl rfl) (
    okc (ok_aload_n (k := 3) (by decide +kernel) rfl rfl) (
    okc (ok_putRF (k := 2) (idx := 16) cX6_ok (by decide) (by decide +kernel) rfl rfl rfl w_869 (by decide +kernel) rfl) (
    okc (ok_ret rfl (by decide +kernel)) ( okn))))))))))))
def pl_M_isLetter : List (Nat × mA) := [(0, a_iload 1 1), (1, a_aload 0 2), (2, a_getI 9 36 9 5), (5, a_cmp (fun x y => decide (y ≤ x)) 34 8), (8, a_aload 0 9), (9, a_getR 9 36 8 12), (12, a_iload 1 13), (13, a_ald 0 14), (14, a_push 97 16), (16, a_cmp (fun x y => decide (x < y)) 34 19), (19, a_aload 0 20), (20, a_getR 9 36 8 23), (23, a_iload 1 24), (24, a_ald 0 25), (25, a_push 122 27), (27, a_cmp (fun x y => decide (y < x)) 34 30), (30, a_push 1 31), (31, a_goto 35), (34, a_push 0 35), (35, a_zret)]
set_option maxRecDepth 20000 in
theorem ol_M_isLetter : okall B sp D cA (SPf B sp Ls xs adK adV) MT ⟨"WreckSkyModel", "isLetter", "(I)Z"⟩ prog_11_method_57_code 2 (Option.some Jvm.ClassFile.FieldType.boolean) (pl_M_isLetter) := by
  unfold pl_M_isLetter
  exact
    okc (ok_iload_n (k := 1) (by decide +kernel) rfl rfl) (
    okc (ok_aload_n (k := 0) (by decide +kernel) rfl rfl) (
    okc (ok_getI (k := 9) (idx := 197) cX9_ok (by decide) (by decide +kernel) w_1000 (by decide +kernel) rfl) (
    okc (ok_cmp_ge (off := 29) (by decide +kernel) rfl rfl) (
    okc (ok_aload_n (k := 0) (by decide +kernel) rfl rfl) (
    okc (ok_getR (k := 8) (idx := 31) cX9_ok (by decide) (by decide +kernel) w_999 (by decide +kernel) rfl) (
    okc (ok_iload_n (k := 1) (by decide +kernel) rfl rfl) (
    okc (ok_iald (by decide +kernel) rfl) (
    okc (ok_bipush (n := 97) (by decide +kernel) (by decide +kernel) rfl) (
    okc (ok_cmp_lt (off := 18) (by decide +kernel) rfl rfl) (
    okc (ok_aload_n (k := 0) (by decide +kernel) rfl rfl) (
    okc (ok_getR (k := 8) (idx := 31) cX9_ok (by decide) (by decide +kernel) w_999 (by decide +kernel) rfl) (
    okc (ok_iload_n (k := 1) (by decide +kernel) rfl rfl) (
    okc (ok_iald (by decide +kernel) rfl) (
    okc (ok_bipush (n := 122) (by decide +kernel) (by decide +kernel) rfl) (
    okc (ok_cmp_gt (off := 7) (by decide +kernel) rfl rfl) (
    okc (ok_iconst (n := 1) (by decide +kernel) rfl rfl) (
    okc (ok_goto (off := 4) (by decide +kernel) rfl) (
    okc (ok_iconst (n := 0) (by decide +kernel) rfl rfl) (
    okc (ok_zret rfl (by decide +kernel)) ( okn))))))))))))))))))))
def pl_M_isFigure : List (Nat × mA) := [(0, a_iload 1 1), (1, a_aload 0 2), (2, a_getI 9 36 9 5), (5, a_cmp (fun x y => decide (y ≤ x)) 34 8), (8, a_aload 0 9), (9, a_getR 9 36 8 12), (12, a_iload 1 13), (13, a_ald 0 14), (14, a_push 48 16), (16, a_cmp (fun x y => decide (x < y)) 34 19), (19, a_aload 0 20), (20, a_getR 9 36 8 23), (23, a_iload 1 24), (24, a_ald 0 25), (25, a_push 57 27), (27, a_cmp (fun x y => decide (y < x)) 34 30), (30, a_push 1 31), (31, a_goto 35), (34, a_push 0 35), (35, a_zret)]
set_option maxRecDepth 20000 in
theorem ol_M_isFigure : okall B sp D cA (SPf B sp Ls xs adK adV) MT ⟨"WreckSkyModel", "isFigure", "(I)Z"⟩ prog_11_method_58_code 2 (Option.some Jvm.ClassFile.FieldType.boolean) (pl_M_isFigure) := by
  unfold pl_M_isFigure
  exact
    okc (ok_iload_n (k := 1) (by decide +kernel) rfl rfl) (
    okc (ok_aload_n (k := 0) (by decide +kernel) rfl rfl) (
    okc (ok_getI (k := 9) (idx := 197) cX9_ok (by decide) (by decide +kernel) w_1000 (by decide +kernel) rfl) (
    okc (ok_cmp_ge (off := 29) (by decide +kernel) rfl rfl) (
    okc (ok_aload_n (k := 0) (by decide +kernel) rfl rfl) (
    okc (ok_getR (k := 8) (idx := 31) cX9_ok (by decide) (by decide +kernel) w_999 (by decide +kernel) rfl) (
    okc (ok_iload_n (k := 1) (by decide +kernel) rfl rfl) (
    okc (ok_iald (by decide +kernel) rfl) (
    okc (ok_bipush (n := 48) (by decide +kernel) (by decide +kernel) rfl) (
    okc (ok_cmp_lt (off := 18) (by decide +kernel) rfl rfl) (
    okc (ok_aload_n (k := 0) (by decide +kernel) rfl rfl) (
    okc (ok_getR (k := 8) (idx := 31) cX9_ok (by decide) (by decide +kernel) w_999 (by decide +kernel) rfl) (
    okc (ok_iload_n (k := 1) (by decide +kernel) rfl rfl) (
    okc (ok_iald (by decide +kernel) rfl) (
    okc (ok_bipush (n := 57) (by decide +kernel) (by decide +kernel) rfl) (
    okc (ok_cmp_gt (off := 7) (by decide +kernel) rfl rfl) (
    okc (ok_iconst (n := 1) (by decide +kernel) rfl rfl) (
    okc (ok_goto (off := 4) (by decide +kernel) rfl) (
    okc (ok_iconst (n := 0) (by decide +kernel) rfl rfl) (
    okc (ok_zret rfl (by decide +kernel)) ( okn))))))))))))))))))))
end PR

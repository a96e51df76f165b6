section PR
variable {B : Nat} {sp : Nat → Value} {D : va_G} {cA : Nat → ClassId} {Ls : Nat} {xs : Nat → Int32} {adK adV : Nat → Nat}
def pl_M_ups_1 : List (Nat × mA) := [(0, a_push 0 1), (1, a_istore 2 2), (2, a_push 0 3), (3, a_istore 3 4), (4, a_iload 3 5), (5, a_aload 0 6), (6, a_getR 9 36 0 9), (9, a_push 1 10), (10, a_ald 0 11), (11, a_cmp (fun x y => decide (y ≤ x)) 94 14), (14, a_aload 0 15), (15, a_iload 3 16), (16, a_callO 9 36 113 1 19), (19, a_if (fun x => decide (x = 0)) 88 22), (22, a_iload 1 23), (23, a_if (fun x => decide (x ≠ 0)) 32 26), (26, a_iload 2 27), (27, a_push 1 28), (28, a_bin (fun x y => x + y) 29), (29, a_goto 87), (32, a_iload 1 33), (33, a_push 1 34), (34, a_cmp (fun x y => decide (x ≠ y)) 45 37), (37, a_iload 2 38), (38, a_push 1 39), (39, a_iload 3 40), (40, a_bin (fun x y => x <<< (y &&& 31)) 41), (41, a_bin (fun x y => x ||| y) 42), (42, a_goto 87), (45, a_iload 1 46), (46, a_push 2 47), (47, a_cmp (fun x y => decide (x ≠ y)) 61 50), (50, a_iload 2 51), (51, a_aload 0 52), (52, a_iload 3 53), (53, a_push 4 54), (54, a_callO 9 36 105 2 57), (57, a_bin (fun x y => x + y) 58), (58, a_goto 87), (61, a_iload 1 62), (62, a_push 3 63), (63, a_cmp (fun x y => decide (x ≠ y)) 79 66), (66, a_iload 2 67), (67, a_push 1 68), (68, a_aload 0 69), (69, a_iload 3 70), (70, a_push 1 71), (71, a_callO 9 36 105 2 74), (74, a_bin (fun x y => x <<< (y &&& 31)) 75), (75, a_bin (fun x y => x ||| y) 76), (76, a_goto 87), (79, a_iload 2 80), (80, a_aload 0 81), (81, a_iload 3 82), (82, a_push 2 83), (83, a_callO 9 36 105 2 86), (86, a_bin (fun x y => x + y) 87), (87, a_istore 2 88), (88, a_iinc 3 1 91), (91, a_goto 4)]
set_option maxRecDepth 20000 in
theorem ol_M_ups_1 : okall B sp D cA (SPf B sp Ls xs adK adV) MT ⟨"WreckSkyModel", "ups", "(I)I"⟩ prog_11_method_35_code 4 (Option.some Jvm.ClassFile.FieldType.int) (pl_M_ups_1) := by
  unfold pl_M_ups_1
  exact
    okc (ok_iconst (n := 0) (by decide +kernel) rfl rfl) (
    okc (ok_istore_n (k := 2) (by decide +kernel) rfl rfl) (
    okc (ok_iconst (n := 0) (by decide +kernel) rfl rfl) (
    okc (ok_istore_n (k := 3) (by decide +kernel) rfl rfl) (
    okc (ok_iload_n (k := 3) (by decide +kernel) rfl rfl) (
    okc (ok_aload_n (k := 0) (by decide +kernel) rfl rfl) (
    okc (ok_getR (k := 0) (idx := 9) cX9_ok (by decide) (by decide +kernel) w_991 (by decide +kernel) rfl) (
    okc (ok_iconst (n := 1) (by decide +kernel) rfl rfl) (
    okc (ok_iald (by decide +kernel) rfl) (
    okc (ok_cmp_ge (off := 83) (by decide +kernel) rfl rfl) (
    okc (ok_aload_n (k := 0) (by decide +kernel) rfl rfl) (
    okc (ok_iload_n (k := 3) (by decide +kernel) rfl rfl) (
    okc (ok_callV (SPf_ok _ _ _ _ _ _) (mi := 113) (n := 1) (idx := 137) rfl m_M_isUp (by decide) cX9_ok w_1184 w_1186 w_30 (by decide +kernel) rfl) (
    okc (ok_if_eq (off := 69) (by decide +kernel) rfl rfl) (
    okc (ok_iload_n (k := 1) (by decide +kernel) rfl rfl) (
    okc (ok_if_ne (off := 9) (by decide +kernel) rfl rfl) (
    okc (ok_iload_n (k := 2) (by decide +kernel) rfl rfl) (
    okc (ok_iconst (n := 1) (by decide +kernel) rfl rfl) (
    okc (ok_iadd (by decide +kernel) rfl) (
    okc (ok_goto (off := 58) (by decide +kernel) rfl) (
    okc (ok_iload_n (k := 1) (by decide +kernel) rfl rfl) (
    okc (ok_iconst (n := 1) (by decide +kernel) rfl rfl) (
    okc (ok_cmp_ne (off := 11) (by decide +kernel) rfl rfl) (
    okc (ok_iload_n (k := 2) (by decide +kernel) rfl rfl) (
    okc (ok_iconst (n := 1) (by decide +kernel) rfl rfl) (
    okc (ok_iload_n (k := 3) (by decide +kernel) rfl rfl) (
    okc (ok_ishl (by decide +kernel) rfl) (
    okc (ok_ior (by decide +kernel) rfl) (
    okc (ok_goto (off := 45) (by decide +kernel) rfl) (
    okc (ok_iload_n (k := 1) (by decide +kernel) rfl rfl) (
    okc (ok_iconst (n := 2) (by decide +kernel) rfl rfl) (
    okc (ok_cmp_ne (off := 14) (by decide +kernel) rfl rfl) (
    okc (ok_iload_n (k := 2) (by decide +kernel) rfl rfl) (
    okc (ok_aload_n (k := 0) (by decide +kernel) rfl rfl) (
    okc (ok_iload_n (k := 3) (by decide +kernel) rfl rfl) (
    okc (ok_iconst (n := 4) (by decide +kernel) rfl rfl) (
    okc (ok_callV (SPf_ok _ _ _ _ _ _) (mi := 105) (n := 2) (idx := 88) rfl m_M_of (by decide) cX9_ok w_1130 w_1132 w_23 (by decide +kernel) rfl) (
    okc (ok_iadd (by decide +kernel) rfl) (
    okc (ok_goto (off := 29) (by decide +kernel) rfl) (
    okc (ok_iload_n (k := 1) (by decide +kernel) rfl rfl) (
    okc (ok_iconst (n := 3) (by decide +kernel) rfl rfl) (
    okc (ok_cmp_ne (off := 16) (by decide +kernel) rfl rfl) (
    okc (ok_iload_n (k := 2) (by decide +kernel) rfl rfl) (
    okc (ok_iconst (n := 1) (by decide +kernel) rfl rfl) (
    okc (ok_aload_n (k := 0) (by decide +kernel) rfl rfl) (
    okc (ok_iload_n (k := 3) (by decide +kernel) rfl rfl) (
    okc (ok_iconst (n := 1) (by decide +kernel) rfl rfl) (
    okc (ok_callV (SPf_ok _ _ _ _ _ _) (mi := 105) (n := 2) (idx := 88) rfl m_M_of (by decide) cX9_ok w_1130 w_1132 w_23 (by decide +kernel) rfl) (
    okc (ok_ishl (by decide +kernel) rfl) (
    okc (ok_ior (by decide +kernel) rfl) (
    okc (ok_goto (off := 11) (by decide +kernel) rfl) (
    okc (ok_iload_n (k := 2) (by decide +kernel) rfl rfl) (
    okc (ok_aload_n (k := 0) (by decide +kernel) rfl rfl) (
    okc (ok_iload_n (k := 3) (by decide +kernel) rfl rfl) (
    okc (ok_iconst (n := 2) (by decide +kernel) rfl rfl) (
    okc (ok_callV (SPf_ok _ _ _ _ _ _) (mi := 105) (n := 2) (idx := 88) rfl m_M_of (by decide) cX9_ok w_1130 w_1132 w_23 (by decide +kernel) rfl) (
    okc (ok_iadd (by decide +kernel) rfl) (
    okc (ok_istore_n (k := 2) (by decide +kernel) rfl rfl) (
    okc (ok_iinc (n := 1) (by decide +kernel) rfl rfl) (
    okc (ok_goto (off := -87) (by decide +kernel) rfl) ( okn))))))))))))))))))))))))))))))))))))))))))))))))))))))))))))
def pl_M_ups_2 : List (Nat × mA) := [(94, a_iload 2 95), (95, a_iret)]
set_option maxRecDepth 20000 in
theorem ol_M_ups_2 : okall B sp D cA (SPf B sp Ls xs adK adV) MT ⟨"WreckSkyModel", "ups", "(I)I"⟩ prog_11_method_35_code 4 (Option.some Jvm.ClassFile.FieldType.int) (pl_M_ups_2) := by
  unfold pl_M_ups_2
  exact
    okc (ok_iload_n (k := 2) (by decide +kernel) rfl rfl) (
    okc (ok_iret rfl (by decide +kernel)) ( okn))
def pl_M_ups : List (Nat × mA) := pl_M_ups_1 ++ (pl_M_ups_2)
theorem ol_M_ups : okall B sp D cA (SPf B sp Ls xs adK adV) MT ⟨"WreckSkyModel", "ups", "(I)I"⟩ prog_11_method_35_code 4 (Option.some Jvm.ClassFile.FieldType.int) (pl_M_ups) := oka ol_M_ups_1 (ol_M_ups_2)
def pl_F_behindHours : List (Nat × mA) := [(0, a_aload 0 1), (1, a_getR 0 5 0 4), (4, a_aload 1 5), (5, a_callO 3 11 172 1 8), (8, a_aload 0 9), (9, a_getR 0 5 0 12), (12, a_iload 2 13), (13, a_callO 3 11 119 1 16), (16, a_aload 0 17), (17, a_getR 0 5 0 20), (20, a_aret)]
set_option maxRecDepth 20000 in
theorem ol_F_behindHours : okall B sp D cA (SPf B sp Ls xs adK adV) MT ⟨"WreckSky$Foresight", "behindHours", "(LWreckSky$Sky;I)LWreckSky$Sky;"⟩ prog_2_method_5_code 3 (Option.some (Jvm.ClassFile.FieldType.object "WreckSky$Sky")) (pl_F_behindHours) := by
  unfold pl_F_behindHours
  exact
    okc (ok_aload_n (k := 0) (by decide +kernel) rfl rfl) (
    okc (ok_getR (k := 0) (idx := 12) cX0_ok (by decide) (by decide +kernel) w_191 (by decide +kernel) rfl) (
    okc (ok_aload_n (k := 1) (by decide +kernel) rfl rfl) (
    okc (ok_callV (SPf_ok _ _ _ _ _ _) (mi := 172) (n := 1) (idx := 33) rfl m_S_becomeAs (by decide) cX3_ok w_520 w_521 w_522 (by decide +kernel) rfl) (
    okc (ok_aload_n (k := 0) (by decide +kernel) rfl rfl) (
    okc (ok_getR (k := 0) (idx := 12) cX0_ok (by decide) (by decide +kernel) w_191 (by decide +kernel) rfl) (
    okc (ok_iload_n (k := 2) (by decide +kernel) rfl rfl) (
    okc (ok_callV (SPf_ok _ _ _ _ _ _) (mi := 119) (n := 1) (idx := 37) rfl m_S_passHours (by decide) cX3_ok w_528 w_471 w_472 (by decide +kernel) rfl) (
    okc (ok_aload_n (k := 0) (by decide +kernel) rfl rfl) (
    okc (ok_getR (k := 0) (idx := 12) cX0_ok (by decide) (by decide +kernel) w_191 (by decide +kernel) rfl) (
    okc (ok_aret rfl (Or.inl ⟨_, rfl⟩) (by decide +kernel)) ( okn)))))))))))
def pl_JInteger_bitCount : List (Nat × mA) := [(0, a_iload 0 1), (1, a_iload 0 2), (2, a_push 1 3), (3, a_bin (fun x y => (x.toUInt32 >>> (y.toUInt32 &&& Int32.toUInt32 31)).toInt32) 4), (4, a_push 1431655765 7), (7, a_bin (fun x y => x &&& y) 8), (8, a_bin (fun x y => x - y) 9), (9, a_istore 0 10), (10, a_iload 0 11), (11, a_push 858993459 14), (14, a_bin (fun x y => x &&& y) 15), (15, a_iload 0 16), (16, a_push 2 17), (17, a_bin (fun x y => (x.toUInt32 >>> (y.toUInt32 &&& Int32.toUInt32 31)).toInt32) 18), (18, a_push 858993459 21), (21, a_bin (fun x y => x &&& y) 22), (22, a_bin (fun x y => x + y) 23), (23, a_istore 0 24), (24, a_iload 0 25), (25, a_iload 0 26), (26, a_push 4 27), (27, a_bin (fun x y => (x.toUInt32 >>> (y.toUInt32 &&& Int32.toUInt32 31)).toInt32) 28), (28, a_bin (fun x y => x + y) 29), (29, a_push 252645135 32), (32, a_bin (fun x y => x &&& y) 33), (33, a_istore 0 34), (34, a_iload 0 35), (35, a_iload 0 36), (36, a_push 8 38), (38, a_bin (fun x y => (x.toUInt32 >>> (y.toUInt32 &&& Int32.toUInt32 31)).toInt32) 39), (39, a_bin (fun x y => x + y) 40), (40, a_istore 0 41), (41, a_iload 0 42), (42, a_iload 0 43), (43, a_push 16 45), (45, a_bin (fun x y => (x.toUInt32 >>> (y.toUInt32 &&& Int32.toUInt32 31)).toInt32) 46), (46, a_bin (fun x y => x + y) 47), (47, a_istore 0 48), (48, a_iload 0 49), (49, a_push 63 51), (51, a_bin (fun x y => x &&& y) 52), (52, a_iret)]
set_option maxRecDepth 20000 in
theorem ol_JInteger_bitCount : okall B sp D cA (SPf B sp Ls xs adK adV) MT ⟨"java/lang/Integer", "bitCount", "(I)I"⟩ prog_14_method_49_code 1 (Option.some Jvm.ClassFile.FieldType.int) (pl_JInteger_bitCount) := by
  unfold pl_JInteger_bitCount
  exact
    okc (ok_iload_n (k := 0) (by decide +kernel) rfl rfl) (
    okc (ok_iload_n (k := 0) (by decide +kernel) rfl rfl) (
    okc (ok_iconst (n := 1) (by decide +kernel) rfl rfl) (
    okc (ok_iushr (by decide +kernel) rfl) (
    okc (ok_ldc_w (i := 265) w_532 (by decide +kernel) rfl) (
    okc (ok_iand (by decide +kernel) rfl) (
    okc (ok_isub (by decide +kernel) rfl) (
    okc (ok_istore_n (k := 0) (by decide +kernel) rfl rfl) (
    okc (ok_iload_n (k := 0) (by decide +kernel) rfl rfl) (
    okc (ok_ldc_w (i := 266) w_533 (by decide +kernel) rfl) (
    okc (ok_iand (by decide +kernel) rfl) (
    okc (ok_iload_n (k := 0) (by decide +kernel) rfl rfl) (
    okc (ok_iconst (n := 2) (by decide +kernel) rfl rfl) (
    okc (ok_iushr (by decide +kernel) rfl) (
    okc (ok_ldc_w (i := 266) w_533 (by decide +kernel) rfl) (
    okc (ok_iand (by decide +kernel) rfl) (
    okc (ok_iadd (by decide +kernel) rfl) (
    okc (ok_istore_n (k := 0) (by decide +kernel) rfl rfl) (
    okc (ok_iload_n (k := 0) (by decide +kernel) rfl rfl) (
    okc (ok_iload_n (k := 0) (by decide +kernel) rfl rfl) (
    okc (ok_iconst (n := 4) (by decide +kernel) rfl rfl) (
    okc (ok_iushr (by decide +kernel) rfl) (
    okc (ok_iadd (by decide +kernel) rfl) (
    okc (ok_ldc_w (i := 267) w_534 (by decide +kernel) rfl) (
    okc (ok_iand (by decide +kernel) rfl) (
    okc (ok_istore_n (k := 0) (by decide +kernel) rfl rfl) (
    okc (ok_iload_n (k := 0) (by decide +kernel) rfl rfl) (
    okc (ok_iload_n (k := 0) (by decide +kernel) rfl rfl) (
    okc (ok_bipush (n := 8) (by decide +kernel) (by decide +kernel) rfl) (
    okc (ok_iushr (by decide +kernel) rfl) (
    okc (ok_iadd (by decide +kernel) rfl) (
    okc (ok_istore_n (k := 0) (by decide +kernel) rfl rfl) (
    okc (ok_iload_n (k := 0) (by decide +kernel) rfl rfl) (
    okc (ok_iload_n (k := 0) (by decide +kernel) rfl rfl) (
    okc (ok_bipush (n := 16) (by decide +kernel) (by decide +kernel) rfl) (
    okc (ok_iushr (by decide +kernel) rfl) (
    okc (ok_iadd (by decide +kernel) rfl) (
    okc (ok_istore_n (k := 0) (by decide +kernel) rfl rfl) (
    okc (ok_iload_n (k := 0) (by decide +kernel) rfl rfl) (
    okc (ok_bipush (n := 63) (by decide +kernel) (by decide +kernel) rfl) (
    okc (ok_iand (by decide +kernel) rfl) (
    okc (ok_iret rfl (by decide +kernel)) ( okn))))))))))))))))))))))))))))))))))))))))))
def pl_M_thinks : List (Nat × mA) := [(0, a_push 0 1), (1, a_istore 1 2), (2, a_iload 1 3), (3, a_push 92 5), (5, a_cmp (fun x y => decide (y ≤ x)) 26 8), (8, a_aload 0 9), (9, a_getR 9 36 4 12), (12, a_iload 1 13), (13, a_aload 0 14), (14, a_getR 9 36 0 17), (17, a_iload 1 18), (18, a_ald 0 19), (19, a_ast 0 (fun x => x) 20), (20, a_iinc 1 1 23), (23, a_goto 2), (26, a_ret)]
set_option maxRecDepth 20000 in
theorem ol_M_thinks : okall B sp D cA (SPf B sp Ls xs adK adV) MT ⟨"WreckSkyModel", "thinks", "()V"⟩ prog_11_method_37_code 2 (Option.none : Option Jvm.ClassFile.FieldType) (pl_M_thinks) := by
  unfold pl_M_thinks
  exact
    okc (ok_iconst (n := 0) (by decide +kernel) rfl rfl) (
    okc (ok_istore_n (k := 1) (by decide +kernel) rfl rfl) (
    okc (ok_iload_n (k := 1) (by decide +kernel) rfl rfl) (
    okc (ok_bipush (n := 92) (by decide +kernel) (by decide +kernel) rfl) (
    okc (ok_cmp_ge (off := 21) (by decide +kernel) rfl rfl) (
    okc (ok_aload_n (k := 0) (by decide +kernel) rfl rfl) (
    okc (ok_getR (k := 4) (idx := 19) cX9_ok (by decide) (by decide +kernel) w_995 (by decide +kernel) rfl) (
    okc (ok_iload_n (k := 1) (by decide +kernel) rfl rfl) (
    okc (ok_aload_n (k := 0) (by decide +kernel) rfl rfl) (
    okc (ok_getR (k := 0) (idx := 9) cX9_ok (by decide) (by decide +kernel) w_991 (by decide +kernel) rfl) (
    okc (ok_iload_n (k := 1) (by decide +kernel) rfl rfl) (
    okc (ok_iald (by decide +kernel) rfl) (
    okc (ok_iast (by decide +kernel) rfl) (
    okc (ok_iinc (n := 1) (by decide +kernel) rfl rfl) (
    okc (ok_goto (off := -21) (by decide +kernel) rfl) (
    okc (ok_ret rfl (by decide +kernel)) ( okn))))))))))))))))
def pl_M_putsBack : List (Nat × mA) := [(0, a_push 0 1), (1, a_istore 1 2), (2, a_iload 1 3), (3, a_push 92 5), (5, a_cmp (fun x y => decide (y ≤ x)) 26 8), (8, a_aload 0 9), (9, a_getR 9 36 0 12), (12, a_iload 1 13), (13, a_aload 0 14), (14, a_getR 9 36 4 17), (17, a_iload 1 18), (18, a_ald 0 19), (19, a_ast 0 (fun x => x) 20), (20, a_iinc 1 1 23), (23, a_goto 2), (26, a_ret)]
set_option maxRecDepth 20000 in
theorem ol_M_putsBack : okall B sp D cA (SPf B sp Ls xs adK adV) MT ⟨"WreckSkyModel", "putsBack", "()V"⟩ prog_11_method_38_code 2 (Option.none : Option Jvm.ClassFile.FieldType) (pl_M_putsBack) := by
  unfold pl_M_putsBack
  exact
    okc (ok_iconst (n := 0) (by decide +kernel) rfl rfl) (
    okc (ok_istore_n (k := 1) (by decide +kernel) rfl rfl) (
    okc (ok_iload_n (k := 1) (by decide +kernel) rfl rfl) (
    okc (ok_bipush (n := 92) (by decide +kernel) (by decide +kernel) rfl) (
    okc (ok_cmp_ge (off := 21) (by decide +kernel) rfl rfl) (
    okc (ok_aload_n (k := 0) (by decide +kernel) rfl rfl) (
    okc (ok_getR (k := 0) (idx := 9) cX9_ok (by decide) (by decide +kernel) w_991 (by decide +kernel) rfl) (
    okc (ok_iload_n (k := 1) (by decide +kernel) rfl rfl) (
    okc (ok_aload_n (k := 0) (by decide +kernel) rfl rfl) (
    okc (ok_getR (k := 4) (idx := 19) cX9_ok (by decide) (by decide +kernel) w_995 (by decide +kernel) rfl) (
    okc (ok_iload_n (k := 1) (by decide +kernel) rfl rfl) (
    okc (ok_iald (by decide +kernel) rfl) (
    okc (ok_iast (by decide +kernel) rfl) (
    okc (ok_iinc (n := 1) (by decide +kernel) rfl rfl) (
    okc (ok_goto (off := -21) (by decide +kernel) rfl) (
    okc (ok_ret rfl (by decide +kernel)) ( okn))))))))))))))))
def pl_F_firstBreak : List (Nat × mA) := [(0, a_aload 0 1), (1, a_getR 0 5 0 4), (4, a_aload 1 5), (5, a_callO 3 11 172 1 8), (8, a_push 1 9), (9, a_istore 2 10), (10, a_iload 2 11), (11, a_push 200 14), (14, a_cmp (fun x y => decide (y < x)) 47 17), (17, a_aload 0 18), (18, a_getR 0 5 0 21), (21, a_push 1 22), (22, a_callO 3 11 119 1 25), (25, a_aload 0 26), (26, a_getR 0 5 0 29), (29, a_getI 3 11 6 32), (32, a_aload 1 33), (33, a_getI 3 11 6 36), (36, a_cmp (fun x y => decide (x ≤ y)) 41 39), (39, a_iload 2 40), (40, a_iret), (41, a_iinc 2 1 44), (44, a_goto 10), (47, a_push (-1000000005) 49), (49, a_iret)]
set_option maxRecDepth 20000 in
theorem ol_F_firstBreak : okall B sp D cA (SPf B sp Ls xs adK adV) MT ⟨"WreckSky$Foresight", "firstBreak", "(LWreckSky$Sky;)I"⟩ prog_2_method_6_code 3 (Option.some Jvm.ClassFile.FieldType.int) (pl_F_firstBreak) := by
  unfold pl_F_firstBreak
  exact
    okc (ok_aload_n (k := 0) (by decide +kernel) rfl rfl) (
    okc (ok_getR (k := 0) (idx := 12) cX0_ok (by decide) (by decide +kernel) w_191 (by decide +kernel) rfl) (
    okc (ok_aload_n (k := 1) (by decide +kernel) rfl rfl) (
    okc (ok_callV (SPf_ok _ _ _ _ _ _) (mi := 172) (n := 1) (idx := 33) rfl m_S_becomeAs (by decide) cX3_ok w_520 w_521 w_522 (by decide +kernel) rfl) (
    okc (ok_iconst (n := 1) (by decide +kernel) rfl rfl) (
    okc (ok_istore_n (k := 2) (by decide +kernel) rfl rfl) (
    okc (ok_iload_n (k := 2) (by decide +kernel) rfl rfl) (
    okc (ok_sipush (n := 200) (by decide +kernel) (by decide +kernel) rfl) (
    okc (ok_cmp_gt (off := 33) (by decide +kernel) rfl rfl) (
    okc (ok_aload_n (k := 0) (by decide +kernel) rfl rfl) (
    okc (ok_getR (k := 0) (idx := 12) cX0_ok (by decide) (by decide +kernel) w_191 (by decide +kernel) rfl) (
    okc (ok_iconst (n := 1) (by decide +kernel) rfl rfl) (
    okc (ok_callV (SPf_ok _ _ _ _ _ _) (mi := 119) (n := 1) (idx := 37) rfl m_S_passHours (by decide) cX3_ok w_528 w_471 w_472 (by decide +kernel) rfl) (
    okc (ok_aload_n (k := 0) (by decide +kernel) rfl rfl) (
    okc (ok_getR (k := 0) (idx := 12) cX0_ok (by decide) (by decide +kernel) w_191 (by decide +kernel) rfl) (
    okc (ok_getI (k := 6) (idx := 41) cX3_ok (by decide) (by decide +kernel) w_149 (by decide +kernel) rfl) (
    okc (ok_aload_n (k := 1) (by decide +kernel) rfl rfl) (
    okc (ok_getI (k := 6) (idx := 41) cX3_ok (by decide) (by decide +kernel) w_149 (by decide +kernel) rfl) (
    okc (ok_cmp_le (off := 5) (by decide +kernel) rfl rfl) (
    okc (ok_iload_n (k := 2) (by decide +kernel) rfl rfl) (
    okc (ok_iret rfl (by decide +kernel)) (
    okc (ok_iinc (n := 1) (by decide +kernel) rfl rfl) (
    okc (ok_goto (off := -34) (by decide +kernel) rfl) (
    okc (ok_ldc (i := 25) w_190 (by decide +kernel) rfl) (
    okc (ok_iret rfl (by decide +kernel)) ( okn)))))))))))))))))))))))))
def pl_M_hour_1 : List (Nat × mA) := [(0, a_aload 0 1), (1, a_getR 9 36 0 4), (4, a_push 1 5), (5, a_ald 0 6), (6, a_istore 1 7), (7, a_push 0 8), (8, a_istore 2 9), (9, a_iload 2 10), (10, a_iload 1 11), (11, a_cmp (fun x y => decide (y ≤ x)) 58 14), (14, a_aload 0 15), (15, a_iload 2 16), (16, a_push 2 17), (17, a_aload 0 18), (18, a_iload 2 19), (19, a_callO 9 36 113 1 22), (22, a_if (fun x => decide (x = 0)) 43 25), (25, a_aload 0 26), (26, a_iload 2 27), (27, a_push 2 28), (28, a_callO 9 36 105 2 31), (31, a_aload 0 32), (32, a_iload 2 33), (33, a_callO 9 36 107 1 36), (36, a_bin (fun x y => x + y) 37), (37, a_call 147 1 40), (40, a_goto 49), (43, a_aload 0 44), (44, a_iload 2 45), (45, a_push 2 46), (46, a_callO 9 36 105 2 49), (49, a_callO 9 36 114 3 52), (52, a_iinc 2 1 55), (55, a_goto 9), (58, a_push 0 59), (59, a_istore 2 60), (60, a_iload 2 61), (61, a_iload 1 62), (62, a_cmp (fun x y => decide (y ≤ x)) 117 65), (65, a_iload 2 66), (66, a_push 1 67), (67, a_bin (fun x y => x + y) 68), (68, a_istore 3 69), (69, a_iload 3 70), (70, a_iload 1 71), (71, a_cmp (fun x y => decide (y ≤ x)) 111 74), (74, a_aload 0 75), (75, a_iload 2 76), (76, a_iload 3 77), (77, a_callO 9 36 179 2 80), (80, a_if (fun x => decide (x = 0)) 105 83), (83, a_aload 0 84), (84, a_aload 0 85), (85, a_iload 2 86), (86, a_callO 9 36 106 1 89), (89, a_aload 0 90), (90, a_iload 3 91), (91, a_callO 9 36 106 1 94), (94, a_cmp (fun x y => decide (y ≤ x)) 101 97), (97, a_iload 2 98)]
set_option maxRecDepth 20000 in
theorem ol_M_hour_1 : okall B sp D cA (SPf B sp Ls xs adK adV) MT ⟨"WreckSkyModel", "hour", "()V"⟩ prog_11_method_32_code 4 (Option.none : Option Jvm.ClassFile.FieldType) (pl_M_hour_1) := by
  unfold pl_M_hour_1
  exact
    okc (ok_aload_n (k := 0) (by decide +kernel) rfl rfl) (
    okc (ok_getR (k := 0) (idx := 9) cX9_ok (by decide) (by decide +kernel) w_991 (by decide +kernel) rfl) (
    okc (ok_iconst (n := 1) (by decide +kernel) rfl rfl) (
    okc (ok_iald (by decide +kernel) rfl) (
    okc (ok_istore_n (k := 1) (by decide +kernel) rfl rfl) (
    okc (ok_iconst (n := 0) (by decide +kernel) rfl rfl) (
    okc (ok_istore_n (k := 2) (by decide +kernel) rfl rfl) (
    okc (ok_iload_n (k := 2) (by decide +kernel) rfl rfl) (
    okc (ok_iload_n (k := 1) (by decide +kernel) rfl rfl) (
    okc (ok_cmp_ge (off := 47) (by decide +kernel) rfl rfl) (
    okc (ok_aload_n (k := 0) (by decide +kernel) rfl rfl) (
    okc (ok_iload_n (k := 2) (by decide +kernel) rfl rfl) (
    okc (ok_iconst (n := 2) (by decide +kernel) rfl rfl) (
    okc (ok_aload_n (k := 0) (by decide +kernel) rfl rfl) (
    okc (ok_iload_n (k := 2) (by decide +kernel) rfl rfl) (
    okc (ok_callV (SPf_ok _ _ _ _ _ _) (mi := 113) (n := 1) (idx := 137) rfl m_M_isUp (by decide) cX9_ok w_1184 w_1186 w_30 (by decide +kernel) rfl) (
    okc (ok_if_eq (off := 21) (by decide +kernel) rfl rfl) (
    okc (ok_aload_n (k := 0) (by decide +kernel) rfl rfl) (
    okc (ok_iload_n (k := 2) (by decide +kernel) rfl rfl) (
    okc (ok_iconst (n := 2) (by decide +kernel) rfl rfl) (
    okc (ok_callV (SPf_ok _ _ _ _ _ _) (mi := 105) (n := 2) (idx := 88) rfl m_M_of (by decide) cX9_ok w_1130 w_1132 w_23 (by decide +kernel) rfl) (
    okc (ok_aload_n (k := 0) (by decide +kernel) rfl rfl) (
    okc (ok_iload_n (k := 2) (by decide +kernel) rfl rfl) (
    okc (ok_callV (SPf_ok _ _ _ _ _ _) (mi := 107) (n := 1) (idx := 124) rfl m_M_goesOf (by decide) cX9_ok w_1152 w_1154 w_27 (by decide +kernel) rfl) (
    okc (ok_iadd (by decide +kernel) rfl) (
    okc (ok_callS (SPf_ok _ _ _ _ _ _) (mi := 147) (n := 1) (idx := 149) rfl m_M_round (by decide) w_1226 w_1227 (by decide +kernel) rfl) (
    okc (ok_goto (off := 9) (by decide +kernel) rfl) (
    okc (ok_aload_n (k := 0) (by decide +kernel) rfl rfl) (
    okc (ok_iload_n (k := 2) (by decide +kernel) rfl rfl) (
    okc (ok_iconst (n := 2) (by decide +kernel) rfl rfl) (
    okc (ok_callV (SPf_ok _ _ _ _ _ _) (mi := 105) (n := 2) (idx := 88) rfl m_M_of (by decide) cX9_ok w_1130 w_1132 w_23 (by decide +kernel) rfl) (
    okc (ok_callV (SPf_ok _ _ _ _ _ _) (mi := 114) (n := 3) (idx := 92) rfl m_M_put (by decide) cX9_ok w_1118 w_1120 w_21 (by decide +kernel) rfl) (
    okc (ok_iinc (n := 1) (by decide +kernel) rfl rfl) (
    okc (ok_goto (off := -46) (by decide +kernel) rfl) (
    okc (ok_iconst (n := 0) (by decide +kernel) rfl rfl) (
    okc (ok_istore_n (k := 2) (by decide +kernel) rfl rfl) (
    okc (ok_iload_n (k := 2) (by decide +kernel) rfl rfl) (
    okc (ok_iload_n (k := 1) (by decide +kernel) rfl rfl) (
    okc (ok_cmp_ge (off := 55) (by decide +kernel) rfl rfl) (
    okc (ok_iload_n (k := 2) (by decide +kernel) rfl rfl) (
    okc (ok_iconst (n := 1) (by decide +kernel) rfl rfl) (
    okc (ok_iadd (by decide +kernel) rfl) (
    okc (ok_istore_n (k := 3) (by decide +kernel) rfl rfl) (
    okc (ok_iload_n (k := 3) (by decide +kernel) rfl rfl) (
    okc (ok_iload_n (k := 1) (by decide +kernel) rfl rfl) (
    okc (ok_cmp_ge (off := 40) (by decide +kernel) rfl rfl) (
    okc (ok_aload_n (k := 0) (by decide +kernel) rfl rfl) (
    okc (ok_iload_n (k := 2) (by decide +kernel) rfl rfl) (
    okc (ok_iload_n (k := 3) (by decide +kernel) rfl rfl) (
    okc (ok_callV (SPf_ok _ _ _ _ _ _) (mi := 179) (n := 2) (idx := 152) rfl m_M_doMeet (by decide) cX9_ok w_1229 w_1231 w_35 (by decide +kernel) rfl) (
    okc (ok_if_eq (off := 25) (by decide +kernel) rfl rfl) (
    okc (ok_aload_n (k := 0) (by decide +kernel) rfl rfl) (
    okc (ok_aload_n (k := 0) (by decide +kernel) rfl rfl) (
    okc (ok_iload_n (k := 2) (by decide +kernel) rfl rfl) (
    okc (ok_callV (SPf_ok _ _ _ _ _ _) (mi := 106) (n := 1) (idx := 121) rfl m_M_hardOf (by decide) cX9_ok w_1134 w_1136 w_24 (by decide +kernel) rfl) (
    okc (ok_aload_n (k := 0) (by decide +kernel) rfl rfl) (
    okc (ok_iload_n (k := 3) (by decide +kernel) rfl rfl) (
    okc (ok_callV (SPf_ok _ _ _ _ _ _) (mi := 106) (n := 1) (idx := 121) rfl m_M_hardOf (by decide) cX9_ok w_1134 w_1136 w_24 (by decide +kernel) rfl) (
    okc (ok_cmp_ge (off := 7) (by decide +kernel) rfl rfl) (
    okc (ok_iload_n (k := 2) (by decide +kernel) rfl rfl) ( okn))))))))))))))))))))))))))))))))))))))))))))))))))))))))))))
def pl_M_hour_2 : List (Nat × mA) := [(98, a_goto 102), (101, a_iload 3 102), (102, a_callO 9 36 180 1 105), (105, a_iinc 3 1 108), (108, a_goto 69), (111, a_iinc 2 1 114), (114, a_goto 60), (117, a_aload 0 118), (118, a_callO 9 36 118 0 121), (121, a_push 100 123), (123, a_div (fun x y => x - x / y * y) 124), (124, a_aload 0 125), (125, a_getR 9 36 0 128), (128, a_push 3 129), (129, a_ald 0 130), (130, a_cmp (fun x y => decide (y ≤ x)) 157 133), (133, a_aload 0 134), (134, a_getR 9 36 0 137), (137, a_push 1 138), (138, a_ald 0 139), (139, a_if (fun x => decide (x ≤ 0)) 157 142), (142, a_aload 0 143), (143, a_aload 0 144), (144, a_callO 9 36 118 0 147), (147, a_aload 0 148), (148, a_getR 9 36 0 151), (151, a_push 1 152), (152, a_ald 0 153), (153, a_div (fun x y => x - x / y * y) 154), (154, a_callO 9 36 181 1 157), (157, a_aload 0 158), (158, a_getR 9 36 0 161), (161, a_push 2 162), (162, a_dup2 163), (163, a_ald 0 164), (164, a_push 1 165), (165, a_bin (fun x y => x + y) 166), (166, a_ast 0 (fun x => x) 167), (167, a_ret)]
set_option maxRecDepth 20000 in
theorem ol_M_hour_2 : okall B sp D cA (SPf B sp Ls xs adK adV) MT ⟨"WreckSkyModel", "hour", "()V"⟩ prog_11_method_32_code 4 (Option.none : Option Jvm.ClassFile.FieldType) (pl_M_hour_2) := by
  unfold pl_M_hour_2
  exact
    okc (ok_goto (off := 4) (by decide +kernel) rfl) (
    okc (ok_iload_n (k := 3) (by decide +kernel) rfl rfl) (
    okc (ok_callV (SPf_ok _ _ _ _ _ _) (mi := 180) (n := 1) (idx := 155) rfl m_M_breaks (by decide) cX9_ok w_1233 w_1235 w_36 (by decide +kernel) rfl) (
    okc (ok_iinc (n := 1) (by decide +kernel) rfl rfl) (
    okc (ok_goto (off := -39) (by decide +kernel) rfl) (
    okc (ok_iinc (n := 1) (by decide +kernel) rfl rfl) (
    okc (ok_goto (off := -54) (by decide +kernel) rfl) (
    okc (ok_aload_n (k := 0) (by decide +kernel) rfl rfl) (
    okc (ok_callV (SPf_ok _ _ _ _ _ _) (mi := 118) (n := 0) (idx := 145) rfl m_M_draw (by decide) cX9_ok w_1205 w_1207 w_32 (by decide +kernel) rfl) (
    okc (ok_bipush (n := 100) (by decide +kernel) (by decide +kernel) rfl) (
    okc (ok_irem (by decide +kernel) rfl) (
    okc (ok_aload_n (k := 0) (by decide +kernel) rfl rfl) (
    okc (ok_getR (k := 0) (idx := 9) cX9_ok (by decide) (by decide +kernel) w_991 (by decide +kernel) rfl) (
    okc (ok_iconst (n := 3) (by decide +kernel) rfl rfl) (
    okc (ok_iald (by decide +kernel) rfl) (
    okc (ok_cmp_ge (off := 27) (by decide +kernel) rfl rfl) (
    okc (ok_aload_n (k := 0) (by decide +kernel) rfl rfl) (
    okc (ok_getR (k := 0) (idx := 9) cX9_ok (by decide) (by decide +kernel) w_991 (by decide +kernel) rfl) (
    okc (ok_iconst (n := 1) (by decide +kernel) rfl rfl) (
    okc (ok_iald (by decide +kernel) rfl) (
    okc (ok_if_le (off := 18) (by decide +kernel) rfl rfl) (
    okc (ok_aload_n (k := 0) (by decide +kernel) rfl rfl) (
    okc (ok_aload_n (k := 0) (by decide +kernel) rfl rfl) (
    okc (ok_callV (SPf_ok _ _ _ _ _ _) (mi := 118) (n := 0) (idx := 145) rfl m_M_draw (by decide) cX9_ok w_1205 w_1207 w_32 (by decide +kernel) rfl) (
    okc (ok_aload_n (k := 0) (by decide +kernel) rfl rfl) (
    okc (ok_getR (k := 0) (idx := 9) cX9_ok (by decide) (by decide +kernel) w_991 (by decide +kernel) rfl) (
    okc (ok_iconst (n := 1) (by decide +kernel) rfl rfl) (
    okc (ok_iald (by decide +kernel) rfl) (
    okc (ok_irem (by decide +kernel) rfl) (
    okc (ok_callV (SPf_ok _ _ _ _ _ _) (mi := 181) (n := 1) (idx := 159) rfl m_M_sinks (by decide) cX9_ok w_1237 w_1239 w_37 (by decide +kernel) rfl) (
    okc (ok_aload_n (k := 0) (by decide +kernel) rfl rfl) (
    okc (ok_getR (k := 0) (idx := 9) cX9_ok (by decide) (by decide +kernel) w_991 (by decide +kernel) rfl) (
    okc (ok_iconst (n := 2) (by decide +kernel) rfl rfl) (
    okc (ok_dup2 (by decide +kernel) rfl) (
    okc (ok_iald (by decide +kernel) rfl) (
    okc (ok_iconst (n := 1) (by decide +kernel) rfl rfl) (
    okc (ok_iadd (by decide +kernel) rfl) (
    okc (ok_iast (by decide +kernel) rfl) (
    okc (ok_ret rfl (by decide +kernel)) ( okn)))))))))))))))))))))))))))))))))))))))
def pl_M_hour : List (Nat × mA) := pl_M_hour_1 ++ (pl_M_hour_2)
theorem ol_M_hour : okall B sp D cA (SPf B sp Ls xs adK adV) MT ⟨"WreckSkyModel", "hour", "()V"⟩ prog_11_method_32_code 4 (Option.none : Option Jvm.ClassFile.FieldType) (pl_M_hour) := oka ol_M_hour_1 (ol_M_hour_2)
def pl_F_findHoles : List (Nat × mA) := [(0, a_aload 0 1), (1, a_getR 0 5 0 4), (4, a_aload 1 5), (5, a_callO 3 11 172 1 8), (8, a_aload 0 9), (9, a_getR 0 5 1 12), (12, a_push 0 13), (13, a_call 182 2 16), (16, a_push 0 17), (17, a_istore 2 18), (18, a_iload 2 19), (19, a_push 68 21), (21, a_cmp (fun x y => decide (y ≤ x)) 47 24), (24, a_iload 2 25), (25, a_if (fun x => decide (x ≤ 0)) 36 28), (28, a_aload 0 29), (29, a_getR 0 5 0 32), (32, a_push 1 33), (33, a_callO 3 11 119 1 36), (36, a_aload 0 37), (37, a_iload 2 38), (38, a_callO 0 5 183 1 41), (41, a_iinc 2 1 44), (44, a_goto 18), (47, a_ret)]
set_option maxRecDepth 20000 in
theorem ol_F_findHoles : okall B sp D cA (SPf B sp Ls xs adK adV) MT ⟨"WreckSky$Foresight", "findHoles", "(LWreckSky$Sky;)V"⟩ prog_2_method_7_code 3 (Option.none : Option Jvm.ClassFile.FieldType) (pl_F_findHoles) := by
  unfold pl_F_findHoles
  exact
    okc (ok_aload_n (k := 0) (by decide +kernel) rfl rfl) (
    okc (ok_getR (k := 0) (idx := 12) cX0_ok (by decide) (by decide +kernel) w_191 (by decide +kernel) rfl) (
    okc (ok_aload_n (k := 1) (by decide +kernel) rfl rfl) (
    okc (ok_callV (SPf_ok _ _ _ _ _ _) (mi := 172) (n := 1) (idx := 33) rfl m_S_becomeAs (by decide) cX3_ok w_520 w_521 w_522 (by decide +kernel) rfl) (
    okc (ok_aload_n (k := 0) (by decide +kernel) rfl rfl) (
    okc (ok_getR (k := 1) (idx := 18) cX0_ok (by decide) (by decide +kernel) w_192 (by decide +kernel) rfl) (
    okc (ok_iconst (n := 0) (by decide +kernel) rfl rfl) (
    okc (ok_callS (SPf_ok _ _ _ _ _ _) (mi := 182) (n := 2) (idx := 44) rfl m_JArrays_fill (by decide) w_551 w_552 (by decide +kernel) rfl) (
    okc (ok_iconst (n := 0) (by decide +kernel) rfl rfl) (
    okc (ok_istore_n (k := 2) (by decide +kernel) rfl rfl) (
    okc (ok_iload_n (k := 2) (by decide +kernel) rfl rfl) (
    okc (ok_bipush (n := 68) (by decide +kernel) (by decide +kernel) rfl) (
    okc (ok_cmp_ge (off := 26) (by decide +kernel) rfl rfl) (
    okc (ok_iload_n (k := 2) (by decide +kernel) rfl rfl) (
    okc (ok_if_le (off := 11) (by decide +kernel) rfl rfl) (
    okc (ok_aload_n (k := 0) (by decide +kernel) rfl rfl) (
    okc (ok_getR (k := 0) (idx := 12) cX0_ok (by decide) (by decide +kernel) w_191 (by decide +kernel) rfl) (
    okc (ok_iconst (n := 1) (by decide +kernel) rfl rfl) (
    okc (ok_callV (SPf_ok _ _ _ _ _ _) (mi := 119) (n := 1) (idx := 37) rfl m_S_passHours (by decide) cX3_ok w_528 w_471 w_472 (by decide +kernel) rfl) (
    okc (ok_aload_n (k := 0) (by decide +kernel) rfl rfl) (
    okc (ok_iload_n (k := 2) (by decide +kernel) rfl rfl) (
    okc (ok_callV (SPf_ok _ _ _ _ _ _) (mi := 183) (n := 1) (idx := 50) rfl m_F_blockAt (by decide) cX0_ok w_554 w_556 w_4 (by decide +kernel) rfl) (
    okc (ok_iinc (n := 1) (by decide +kernel) rfl rfl) (
    okc (ok_goto (off := -26) (by decide +kernel) rfl) (
    okc (ok_ret rfl (by decide +kernel)) ( okn)))))))))))))))))))))))))
def pl_F_holeOver : List (Nat × mA) := [(0, a_push 0 1), (1, a_istore 2 2), (2, a_iload 2 3), (3, a_push 60 5), (5, a_cmp (fun x y => decide (y < x)) 29 8), (8, a_aload 0 9), (9, a_getR 0 5 1 12), (12, a_iload 2 13), (13, a_ald 0 14), (14, a_iload 1 15), (15, a_bin (fun x y => x >>> (y &&& 31)) 16), (16, a_push 1 17), (17, a_bin (fun x y => x &&& y) 18), (18, a_if (fun x => decide (x ≠ 0)) 23 21), (21, a_iload 2 22), (22, a_iret), (23, a_iinc 2 1 26), (26, a_goto 2), (29, a_push (-1000000005) 31), (31, a_iret)]
set_option maxRecDepth 20000 in
theorem ol_F_holeOver : okall B sp D cA (SPf B sp Ls xs adK adV) MT ⟨"WreckSky$Foresight", "holeOver", "(I)I"⟩ prog_2_method_9_code 3 (Option.some Jvm.ClassFile.FieldType.int) (pl_F_holeOver) := by
  unfold pl_F_holeOver
  exact
    okc (ok_iconst (n := 0) (by decide +kernel) rfl rfl) (
    okc (ok_istore_n (k := 2) (by decide +kernel) rfl rfl) (
    okc (ok_iload_n (k := 2) (by decide +kernel) rfl rfl) (
    okc (ok_bipush (n := 60) (by decide +kernel) (by decide +kernel) rfl) (
    okc (ok_cmp_gt (off := 24) (by decide +kernel) rfl rfl) (
    okc (ok_aload_n (k := 0) (by decide +kernel) rfl rfl) (
    okc (ok_getR (k := 1) (idx := 18) cX0_ok (by decide) (by decide +kernel) w_192 (by decide +kernel) rfl) (
    okc (ok_iload_n (k := 2) (by decide +kernel) rfl rfl) (
    okc (ok_iald (by decide +kernel) rfl) (
    okc (ok_iload_n (k := 1) (by decide +kernel) rfl rfl) (
    okc (ok_ishr (by decide +kernel) rfl) (
    okc (ok_iconst (n := 1) (by decide +kernel) rfl rfl) (
    okc (ok_iand (by decide +kernel) rfl) (
    okc (ok_if_ne (off := 5) (by decide +kernel) rfl rfl) (
    okc (ok_iload_n (k := 2) (by decide +kernel) rfl rfl) (
    okc (ok_iret rfl (by decide +kernel)) (
    okc (ok_iinc (n := 1) (by decide +kernel) rfl rfl) (
    okc (ok_goto (off := -24) (by decide +kernel) rfl) (
    okc (ok_ldc (i := 25) w_190 (by decide +kernel) rfl) (
    okc (ok_iret rfl (by decide +kernel)) ( okn))))))))))))))))))))
def pl_M_looksUp_1 : List (Nat × mA) := [(0, a_aload 0 1), (1, a_callO 9 36 128 0 4), (4, a_push 0 5), (5, a_istore 1 6), (6, a_iload 1 7), (7, a_push 68 9), (9, a_cmp (fun x y => decide (y ≤ x)) 106 12), (12, a_push 0 13), (13, a_istore 2 14), (14, a_iload 2 15), (15, a_push 8 17), (17, a_cmp (fun x y => decide (y ≤ x)) 96 20), (20, a_push 0 21), (21, a_istore 3 22), (22, a_push 0 23), (23, a_istore 4 25), (25, a_iload 4 27), (27, a_aload 0 28), (28, a_getR 9 36 0 31), (31, a_push 1 32), (32, a_ald 0 33), (33, a_cmp (fun x y => decide (y ≤ x)) 78 36), (36, a_iload 3 37), (37, a_aload 0 38), (38, a_iload 4 40), (40, a_callO 9 36 113 1 43), (43, a_if (fun x => decide (x = 0)) 69 46), (46, a_aload 0 47), (47, a_iload 4 49), (49, a_push 1 50), (50, a_callO 9 36 105 2 53), (53, a_iload 2 54), (54, a_cmp (fun x y => decide (x ≠ y)) 69 57), (57, a_push 1 58), (58, a_aload 0 59), (59, a_iload 4 61), (61, a_push 2 62), (62, a_callO 9 36 105 2 65), (65, a_bin (fun x y => x <<< (y &&& 31)) 66), (66, a_goto 70), (69, a_push 0 70), (70, a_bin (fun x y => x ||| y) 71), (71, a_istore 3 72), (72, a_iinc 4 1 75), (75, a_goto 25), (78, a_aload 0 79), (79, a_getR 9 36 5 82), (82, a_push 68 84), (84, a_iload 2 85), (85, a_bin (fun x y => x * y) 86), (86, a_iload 1 87), (87, a_bin (fun x y => x + y) 88), (88, a_iload 3 89), (89, a_ast 0 (fun x => x) 90), (90, a_iinc 2 1 93), (93, a_goto 14), (96, a_aload 0 97), (97, a_callO 9 36 131 0 100), (100, a_iinc 1 1 103), (103, a_goto 6)]
set_option maxRecDepth 20000 in
theorem ol_M_looksUp_1 : okall B sp D cA (SPf B sp Ls xs adK adV) MT ⟨"WreckSkyModel", "looksUp", "()V"⟩ prog_11_method_41_code 5 (Option.none : Option Jvm.ClassFile.FieldType) (pl_M_looksUp_1) := by
  unfold pl_M_looksUp_1
  exact
    okc (ok_aload_n (k := 0) (by decide +kernel) rfl rfl) (
    okc (ok_callV (SPf_ok _ _ _ _ _ _) (mi := 128) (n := 0) (idx := 171) rfl m_M_thinks (by decide) cX9_ok w_1253 w_1255 w_39 (by decide +kernel) rfl) (
    okc (ok_iconst (n := 0) (by decide +kernel) rfl rfl) (
    okc (ok_istore_n (k := 1) (by decide +kernel) rfl rfl) (
    okc (ok_iload_n (k := 1) (by decide +kernel) rfl rfl) (
    okc (ok_bipush (n := 68) (by decide +kernel) (by decide +kernel) rfl) (
    okc (ok_cmp_ge (off := 97) (by decide +kernel) rfl rfl) (
    okc (ok_iconst (n := 0) (by decide +kernel) rfl rfl) (
    okc (ok_istore_n (k := 2) (by decide +kernel) rfl rfl) (
    okc (ok_iload_n (k := 2) (by decide +kernel) rfl rfl) (
    okc (ok_bipush (n := 8) (by decide +kernel) (by decide +kernel) rfl) (
    okc (ok_cmp_ge (off := 79) (by decide +kernel) rfl rfl) (
    okc (ok_iconst (n := 0) (by decide +kernel) rfl rfl) (
    okc (ok_istore_n (k := 3) (by decide +kernel) rfl rfl) (
    okc (ok_iconst (n := 0) (by decide +kernel) rfl rfl) (
    okc (ok_istore (by decide +kernel) rfl) (
    okc (ok_iload (by decide +kernel) rfl) (
    okc (ok_aload_n (k := 0) (by decide +kernel) rfl rfl) (
    okc (ok_getR (k := 0) (idx := 9) cX9_ok (by decide) (by decide +kernel) w_991 (by decide +kernel) rfl) (
    okc (ok_iconst (n := 1) (by decide +kernel) rfl rfl) (
    okc (ok_iald (by decide +kernel) rfl) (
    okc (ok_cmp_ge (off := 45) (by decide +kernel) rfl rfl) (
    okc (ok_iload_n (k := 3) (by decide +kernel) rfl rfl) (
    okc (ok_aload_n (k := 0) (by decide +kernel) rfl rfl) (
    okc (ok_iload (by decide +kernel) rfl) (
    okc (ok_callV (SPf_ok _ _ _ _ _ _) (mi := 113) (n := 1) (idx := 137) rfl m_M_isUp (by decide) cX9_ok w_1184 w_1186 w_30 (by decide +kernel) rfl) (
    okc (ok_if_eq (off := 26) (by decide +kernel) rfl rfl) (
    okc (ok_aload_n (k := 0) (by decide +kernel) rfl rfl) (
    okc (ok_iload (by decide +kernel) rfl) (
    okc (ok_iconst (n := 1) (by decide +kernel) rfl rfl) (
    okc (ok_callV (SPf_ok _ _ _ _ _ _) (mi := 105) (n := 2) (idx := 88) rfl m_M_of (by decide) cX9_ok w_1130 w_1132 w_23 (by decide +kernel) rfl) (
    okc (ok_iload_n (k := 2) (by decide +kernel) rfl rfl) (
    okc (ok_cmp_ne (off := 15) (by decide +kernel) rfl rfl) (
    okc (ok_iconst (n := 1) (by decide +kernel) rfl rfl) (
    okc (ok_aload_n (k := 0) (by decide +kernel) rfl rfl) (
    okc (ok_iload (by decide +kernel) rfl) (
    okc (ok_iconst (n := 2) (by decide +kernel) rfl rfl) (
    okc (ok_callV (SPf_ok _ _ _ _ _ _) (mi := 105) (n := 2) (idx := 88) rfl m_M_of (by decide) cX9_ok w_1130 w_1132 w_23 (by decide +kernel) rfl) (
    okc (ok_ishl (by decide +kernel) rfl) (
    okc (ok_goto (off := 4) (by decide +kernel) rfl) (
    okc (ok_iconst (n := 0) (by decide +kernel) rfl rfl) (
    okc (ok_ior (by decide +kernel) rfl) (
    okc (ok_istore_n (k := 3) (by decide +kernel) rfl rfl) (
    okc (ok_iinc (n := 1) (by decide +kernel) rfl rfl) (
    okc (ok_goto (off := -50) (by decide +kernel) rfl) (
    okc (ok_aload_n (k := 0) (by decide +kernel) rfl rfl) (
    okc (ok_getR (k := 5) (idx := 22) cX9_ok (by decide) (by decide +kernel) w_996 (by decide +kernel) rfl) (
    okc (ok_bipush (n := 68) (by decide +kernel) (by decide +kernel) rfl) (
    okc (ok_iload_n (k := 2) (by decide +kernel) rfl rfl) (
    okc (ok_imul (by decide +kernel) rfl) (
    okc (ok_iload_n (k := 1) (by decide +kernel) rfl rfl) (
    okc (ok_iadd (by decide +kernel) rfl) (
    okc (ok_iload_n (k := 3) (by decide +kernel) rfl rfl) (
    okc (ok_iast (by decide +kernel) rfl) (
    okc (ok_iinc (n := 1) (by decide +kernel) rfl rfl) (
    okc (ok_goto (off := -79) (by decide +kernel) rfl) (
    okc (ok_aload_n (k := 0) (by decide +kernel) rfl rfl) (
    okc (ok_callV (SPf_ok _ _ _ _ _ _) (mi := 131) (n := 0) (idx := 162) rfl m_M_hour (by decide) cX9_ok w_1222 w_1224 w_34 (by decide +kernel) rfl) (
    okc (ok_iinc (n := 1) (by decide +kernel) rfl rfl) (
    okc (ok_goto (off := -97) (by decide +kernel) rfl) ( okn))))))))))))))))))))))))))))))))))))))))))))))))))))))))))))
def pl_M_looksUp_2 : List (Nat × mA) := [(106, a_aload 0 107), (107, a_callO 9 36 129 0 110), (110, a_ret)]
set_option maxRecDepth 20000 in
theorem ol_M_looksUp_2 : okall B sp D cA (SPf B sp Ls xs adK adV) MT ⟨"WreckSkyModel", "looksUp", "()V"⟩ prog_11_method_41_code 5 (Option.none : Option Jvm.ClassFile.FieldType) (pl_M_looksUp_2) := by
  unfold pl_M_looksUp_2
  exact
    okc (ok_aload_n (k := 0) (by decide +kernel) rfl rfl) (
    okc (ok_callV (SPf_ok _ _ _ _ _ _) (mi := 129) (n := 0) (idx := 174) rfl m_M_putsBack (by decide) cX9_ok w_1257 w_1259 w_40 (by decide +kernel) rfl) (
    okc (ok_ret rfl (by decide +kernel)) ( okn)))
def pl_M_looksUp : List (Nat × mA) := pl_M_looksUp_1 ++ (pl_M_looksUp_2)
theorem ol_M_looksUp : okall B sp D cA (SPf B sp Ls xs adK adV) MT ⟨"WreckSkyModel", "looksUp", "()V"⟩ prog_11_method_41_code 5 (Option.none : Option Jvm.ClassFile.FieldType) (pl_M_looksUp) := oka ol_M_looksUp_1 (ol_M_looksUp_2)
def pl_M_holeOf : List (Nat × mA) := [(0, a_push 0 1), (1, a_istore 2 2), (2, a_iload 2 3), (3, a_push 60 5), (5, a_cmp (fun x y => decide (y < x)) 60 8), (8, a_push 0 9), (9, a_istore 3 10), (10, a_push 0 11), (11, a_istore 4 13), (13, a_iload 4 15), (15, a_push 8 17), (17, a_cmp (fun x y => decide (y ≤ x)) 44 20), (20, a_iload 3 21), (21, a_aload 0 22), (22, a_getR 9 36 5 25), (25, a_push 68 27), (27, a_iload 4 29), (29, a_bin (fun x y => x * y) 30), (30, a_iload 2 31), (31, a_bin (fun x y => x + y) 32), (32, a_iload 4 34), (34, a_bin (fun x y => x + y) 35), (35, a_ald 0 36), (36, a_bin (fun x y => x ||| y) 37), (37, a_istore 3 38), (38, a_iinc 4 1 41), (41, a_goto 13), (44, a_iload 3 45), (45, a_iload 1 46), (46, a_bin (fun x y => x >>> (y &&& 31)) 47), (47, a_push 1 48), (48, a_bin (fun x y => x &&& y) 49), (49, a_if (fun x => decide (x ≠ 0)) 54 52), (52, a_iload 2 53), (53, a_iret), (54, a_iinc 2 1 57), (57, a_goto 2), (60, a_push (-1000000005) 62), (62, a_iret)]
set_option maxRecDepth 20000 in
theorem ol_M_holeOf : okall B sp D cA (SPf B sp Ls xs adK adV) MT ⟨"WreckSkyModel", "holeOf", "(I)I"⟩ prog_11_method_42_code 5 (Option.some Jvm.ClassFile.FieldType.int) (pl_M_holeOf) := by
  unfold pl_M_holeOf
  exact
    okc (ok_iconst (n := 0) (by decide +kernel) rfl rfl) (
    okc (ok_istore_n (k := 2) (by decide +kernel) rfl rfl) (
    okc (ok_iload_n (k := 2) (by decide +kernel) rfl rfl) (
    okc (ok_bipush (n := 60) (by decide +kernel) (by decide +kernel) rfl) (
    okc (ok_cmp_gt (off := 55) (by decide +kernel) rfl rfl) (
    okc (ok_iconst (n := 0) (by decide +kernel) rfl rfl) (
    okc (ok_istore_n (k := 3) (by decide +kernel) rfl rfl) (
    okc (ok_iconst (n := 0) (by decide +kernel) rfl rfl) (
    okc (ok_istore (by decide +kernel) rfl) (
    okc (ok_iload (by decide +kernel) rfl) (
    okc (ok_bipush (n := 8) (by decide +kernel) (by decide +kernel) rfl) (
    okc (ok_cmp_ge (off := 27) (by decide +kernel) rfl rfl) (
    okc (ok_iload_n (k := 3) (by decide +kernel) rfl rfl) (
    okc (ok_aload_n (k := 0) (by decide +kernel) rfl rfl) (
    okc (ok_getR (k := 5) (idx := 22) cX9_ok (by decide) (by decide +kernel) w_996 (by decide +kernel) rfl) (
    okc (ok_bipush (n := 68) (by decide +kernel) (by decide +kernel) rfl) (
    okc (ok_iload (by decide +kernel) rfl) (
    okc (ok_imul (by decide +kernel) rfl) (
    okc (ok_iload_n (k := 2) (by decide +kernel) rfl rfl) (
    okc (ok_iadd (by decide +kernel) rfl) (
    okc (ok_iload (by decide +kernel) rfl) (
    okc (ok_iadd (by decide +kernel) rfl) (
    okc (ok_iald (by decide +kernel) rfl) (
    okc (ok_ior (by decide +kernel) rfl) (
    okc (ok_istore_n (k := 3) (by decide +kernel) rfl rfl) (
    okc (ok_iinc (n := 1) (by decide +kernel) rfl rfl) (
    okc (ok_goto (off := -28) (by decide +kernel) rfl) (
    okc (ok_iload_n (k := 3) (by decide +kernel) rfl rfl) (
    okc (ok_iload_n (k := 1) (by decide +kernel) rfl rfl) (
    okc (ok_ishr (by decide +kernel) rfl) (
    okc (ok_iconst (n := 1) (by decide +kernel) rfl rfl) (
    okc (ok_iand (by decide +kernel) rfl) (
    okc (ok_if_ne (off := 5) (by decide +kernel) rfl rfl) (
    okc (ok_iload_n (k := 2) (by decide +kernel) rfl rfl) (
    okc (ok_iret rfl (by decide +kernel)) (
    okc (ok_iinc (n := 1) (by decide +kernel) rfl rfl) (
    okc (ok_goto (off := -55) (by decide +kernel) rfl) (
    okc (ok_ldc (i := 177) w_1265 (by decide +kernel) rfl) (
    okc (ok_iret rfl (by decide +kernel)) ( okn)))))))))))))))))))))))))))))))))))))))
def pl_F_chooseSweep : List (Nat × mA) := [(0, a_aload 0 1), (1, a_callO 0 5 184 0 4), (4, a_push 0 5), (5, a_istore 3 6), (6, a_iload 3 7), (7, a_aload 1 8), (8, a_getI 3 11 3 11), (11, a_cmp (fun x y => decide (y ≤ x)) 73 14), (14, a_aload 1 15), (15, a_getR 3 11 0 18), (18, a_iload 3 19), (19, a_aald 4 20), (20, a_getI 7 6 5 23), (23, a_if (fun x => decide (x = 0)) 67 26), (26, a_aload 0 27), (27, a_getR 0 5 0 30), (30, a_aload 1 31), (31, a_callO 3 11 172 1 34), (34, a_aload 0 35), (35, a_getR 0 5 0 38), (38, a_getR 3 11 0 41), (41, a_iload 3 42), (42, a_aald 4 43), (43, a_push 0 44), (44, a_putZ 7 6 5 47), (47, a_aload 0 48), (48, a_getR 0 5 0 51), (51, a_iload 2 52), (52, a_callO 3 11 119 1 55), (55, a_aload 0 56), (56, a_iload 3 57), (57, a_aload 0 58), (58, a_getR 0 5 0 61), (61, a_getI 3 11 6 64), (64, a_callO 0 5 185 2 67), (67, a_iinc 3 1 70), (70, a_goto 6), (73, a_ret)]
set_option maxRecDepth 20000 in
theorem ol_F_chooseSweep : okall B sp D cA (SPf B sp Ls xs adK adV) MT ⟨"WreckSky$Foresight", "chooseSweep", "(LWreckSky$Sky;I)V"⟩ prog_2_method_10_code 4 (Option.none : Option Jvm.ClassFile.FieldType) (pl_F_chooseSweep) := by
  unfold pl_F_chooseSweep
  exact
    okc (ok_aload_n (k := 0) (by decide +kernel) rfl rfl) (
    okc (ok_callV (SPf_ok _ _ _ _ _ _) (mi := 184) (n := 0) (idx := 76) rfl m_F_chooseNone (by decide) cX0_ok w_575 w_577 w_5 (by decide +kernel) rfl) (
    okc (ok_iconst (n := 0) (by decide +kernel) rfl rfl) (
    okc (ok_istore_n (k := 3) (by decide +kernel) rfl rfl) (
    okc (ok_iload_n (k := 3) (by decide +kernel) rfl rfl) (
    okc (ok_aload_n (k := 1) (by decide +kernel) rfl rfl) (
    okc (ok_getI (k := 3) (idx := 53) cX3_ok (by decide) (by decide +kernel) w_143 (by decide +kernel) rfl) (
    okc (ok_cmp_ge (off := 62) (by decide +kernel) rfl rfl) (
    okc (ok_aload_n (k := 1) (by decide +kernel) rfl rfl) (
    okc (ok_getR (k := 0) (idx := 56) cX3_ok (by decide) (by decide +kernel) w_136 (by decide +kernel) rfl) (
    okc (ok_iload_n (k := 3) (by decide +kernel) rfl rfl) (
    okc (ok_aald (C := "WreckSky$Wreck") (by decide) (fun _ => rfl) (by decide +kernel) rfl) (
    okc (ok_getI (k := 5) (idx := 65) cX7_ok (by decide) (by decide +kernel) w_119 (by decide +kernel) rfl) (
    okc (ok_if_eq (off := 44) (by decide +kernel) rfl rfl) (
    okc (ok_aload_n (k := 0) (by decide +kernel) rfl rfl) (
    okc (ok_getR (k := 0) (idx := 12) cX0_ok (by decide) (by decide +kernel) w_191 (by decide +kernel) rfl) (
    okc (ok_aload_n (k := 1) (by decide +kernel) rfl rfl) (
    okc (ok_callV (SPf_ok _ _ _ _ _ _) (mi := 172) (n := 1) (idx := 33) rfl m_S_becomeAs (by decide) cX3_ok w_520 w_521 w_522 (by decide +kernel) rfl) (
    okc (ok_aload_n (k := 0) (by decide +kernel) rfl rfl) (
    okc (ok_getR (k := 0) (idx := 12) cX0_ok (by decide) (by decide +kernel) w_191 (by decide +kernel) rfl) (
    okc (ok_getR (k := 0) (idx := 56) cX3_ok (by decide) (by decide +kernel) w_136 (by decide +kernel) rfl) (
    okc (ok_iload_n (k := 3) (by decide +kernel) rfl rfl) (
    okc (ok_aald (C := "WreckSky$Wreck") (by decide) (fun _ => rfl) (by decide +kernel) rfl) (
    okc (ok_iconst (n := 0) (by decide +kernel) rfl rfl) (
    okc (ok_putZ (k := 5) (idx := 65) cX7_ok (by decide) rfl rfl w_119 (by decide +kernel) rfl) (
    okc (ok_aload_n (k := 0) (by decide +kernel) rfl rfl) (
    okc (ok_getR (k := 0) (idx := 12) cX0_ok (by decide) (by decide +kernel) w_191 (by decide +kernel) rfl) (
    okc (ok_iload_n (k := 2) (by decide +kernel) rfl rfl) (
    okc (ok_callV (SPf_ok _ _ _ _ _ _) (mi := 119) (n := 1) (idx := 37) rfl m_S_passHours (by decide) cX3_ok w_528 w_471 w_472 (by decide +kernel) rfl) (
    okc (ok_aload_n (k := 0) (by decide +kernel) rfl rfl) (
    okc (ok_iload_n (k := 3) (by decide +kernel) rfl rfl) (
    okc (ok_aload_n (k := 0) (by decide +kernel) rfl rfl) (
    okc (ok_getR (k := 0) (idx := 12) cX0_ok (by decide) (by decide +kernel) w_191 (by decide +kernel) rfl) (
    okc (ok_getI (k := 6) (idx := 41) cX3_ok (by decide) (by decide +kernel) w_149 (by decide +kernel) rfl) (
    okc (ok_callV (SPf_ok _ _ _ _ _ _) (mi := 185) (n := 2) (idx := 79) rfl m_F_chooseIfLess (by decide) cX0_ok w_579 w_581 w_6 (by decide +kernel) rfl) (
    okc (ok_iinc (n := 1) (by decide +kernel) rfl rfl) (
    okc (ok_goto (off := -64) (by decide +kernel) rfl) (
    okc (ok_ret rfl (by decide +kernel)) ( okn))))))))))))))))))))))))))))))))))))))
def pl_F_toldOf : List (Nat × mA) := [(0, a_iload 1 1), (1, a_if (fun x => decide (x ≠ 0)) 11 4), (4, a_aload 0 5), (5, a_getI 0 5 3 8), (8, a_goto 15), (11, a_aload 0 12), (12, a_getI 0 5 4 15), (15, a_iret)]
set_option maxRecDepth 20000 in
theorem ol_F_toldOf : okall B sp D cA (SPf B sp Ls xs adK adV) MT ⟨"WreckSky$Foresight", "toldOf", "(I)I"⟩ prog_2_method_2_code 2 (Option.some Jvm.ClassFile.FieldType.int) (pl_F_toldOf) := by
  unfold pl_F_toldOf
  exact
    okc (ok_iload_n (k := 1) (by decide +kernel) rfl rfl) (
    okc (ok_if_ne (off := 10) (by decide +kernel) rfl rfl) (
    okc (ok_aload_n (k := 0) (by decide +kernel) rfl rfl) (
    okc (ok_getI (k := 3) (idx := 26) cX0_ok (by decide) (by decide +kernel) w_194 (by decide +kernel) rfl) (
    okc (ok_goto (off := 7) (by decide +kernel) rfl) (
    okc (ok_aload_n (k := 0) (by decide +kernel) rfl rfl) (
    okc (ok_getI (k := 4) (idx := 30) cX0_ok (by decide) (by decide +kernel) w_195 (by decide +kernel) rfl) (
    okc (ok_iret rfl (by decide +kernel)) ( okn))))))))
def pl_M_brokenBehind : List (Nat × mA) := [(0, a_aload 0 1), (1, a_iload 1 2), (2, a_callO 9 36 121 1 5), (5, a_aload 0 6), (6, a_getR 9 36 0 9), (9, a_push 4 10), (10, a_ald 0 11), (11, a_istore 2 12), (12, a_aload 0 13), (13, a_callO 9 36 129 0 16), (16, a_iload 2 17), (17, a_iret)]
set_option maxRecDepth 20000 in
theorem ol_M_brokenBehind : okall B sp D cA (SPf B sp Ls xs adK adV) MT ⟨"WreckSkyModel", "brokenBehind", "(I)I"⟩ prog_11_method_45_code 3 (Option.some Jvm.ClassFile.FieldType.int) (pl_M_brokenBehind) := by
  unfold pl_M_brokenBehind
  exact
    okc (ok_aload_n (k := 0) (by decide +kernel) rfl rfl) (
    okc (ok_iload_n (k := 1) (by decide +kernel) rfl rfl) (
    okc (ok_callV (SPf_ok _ _ _ _ _ _) (mi := 121) (n := 1) (idx := 165) rfl m_M_goesOn (by decide) cX9_ok w_1218 w_1220 w_33 (by decide +kernel) rfl) (
    okc (ok_aload_n (k := 0) (by decide +kernel) rfl rfl) (
    okc (ok_getR (k := 0) (idx := 9) cX9_ok (by decide) (by decide +kernel) w_991 (by decide +kernel) rfl) (
    okc (ok_iconst (n := 4) (by decide +kernel) rfl rfl) (
    okc (ok_iald (by decide +kernel) rfl) (
    okc (ok_istore_n (k := 2) (by decide +kernel) rfl rfl) (
    okc (ok_aload_n (k := 0) (by decide +kernel) rfl rfl) (
    okc (ok_callV (SPf_ok _ _ _ _ _ _) (mi := 129) (n := 0) (idx := 174) rfl m_M_putsBack (by decide) cX9_ok w_1257 w_1259 w_40 (by decide +kernel) rfl) (
    okc (ok_iload_n (k := 2) (by decide +kernel) rfl rfl) (
    okc (ok_iret rfl (by decide +kernel)) ( okn))))))))))))
def pl_F_choosePace : List (Nat × mA) := [(0, a_aload 0 1), (1, a_callO 0 5 184 0 4), (4, a_push (-9) 6), (6, a_istore 4 8), (8, a_iload 4 10), (10, a_push 9 12), (12, a_cmp (fun x y => decide (y < x)) 64 15), (15, a_aload 0 16), (16, a_getR 0 5 0 19), (19, a_aload 1 20), (20, a_callO 3 11 172 1 23), (23, a_aload 0 24), (24, a_getR 0 5 0 27), (27, a_getR 3 11 0 30), (30, a_iload 2 31), (31, a_aald 4 32), (32, a_iload 4 34), (34, a_putI 7 6 3 37), (37, a_aload 0 38), (38, a_getR 0 5 0 41), (41, a_iload 3 42), (42, a_callO 3 11 119 1 45), (45, a_aload 0 46), (46, a_iload 4 48), (48, a_aload 0 49), (49, a_getR 0 5 0 52), (52, a_getI 3 11 6 55), (55, a_callO 0 5 185 2 58), (58, a_iinc 4 1 61), (61, a_goto 8), (64, a_ret)]
set_option maxRecDepth 20000 in
theorem ol_F_choosePace : okall B sp D cA (SPf B sp Ls xs adK adV) MT ⟨"WreckSky$Foresight", "choosePace", "(LWreckSky$Sky;II)V"⟩ prog_2_method_11_code 5 (Option.none : Option Jvm.ClassFile.FieldType) (pl_F_choosePace) := by
  unfold pl_F_choosePace
  exact
    okc (ok_aload_n (k := 0) (by decide +kernel) rfl rfl) (
    okc (ok_callV (SPf_ok _ _ _ _ _ _) (mi := 184) (n := 0) (idx := 76) rfl m_F_chooseNone (by decide) cX0_ok w_575 w_577 w_5 (by decide +kernel) rfl) (
    okc (ok_bipush (n := -9) (by decide +kernel) (by decide +kernel) rfl) (
    okc (ok_istore (by decide +kernel) rfl) (
    okc (ok_iload (by decide +kernel) rfl) (
    okc (ok_bipush (n := 9) (by decide +kernel) (by decide +kernel) rfl) (
    okc (ok_cmp_gt (off := 52) (by decide +kernel) rfl rfl) (
    okc (ok_aload_n (k := 0) (by decide +kernel) rfl rfl) (
    okc (ok_getR (k := 0) (idx := 12) cX0_ok (by decide) (by decide +kernel) w_191 (by decide +kernel) rfl) (
    okc (ok_aload_n (k := 1) (by decide +kernel) rfl rfl) (
    okc (ok_callV (SPf_ok _ _ _ _ _ _) (mi := 172) (n := 1) (idx := 33) rfl m_S_becomeAs (by decide) cX3_ok w_520 w_521 w_522 (by decide +kernel) rfl) (
    okc (ok_aload_n (k := 0) (by decide +kernel) rfl rfl) (
    okc (ok_getR (k := 0) (idx := 12) cX0_ok (by decide) (by decide +kernel) w_191 (by decide +kernel) rfl) (
    okc (ok_getR (k := 0) (idx := 56) cX3_ok (by decide) (by decide +kernel) w_136 (by decide +kernel) rfl) (
    okc (ok_iload_n (k := 2) (by decide +kernel) rfl rfl) (
    okc (ok_aald (C := "WreckSky$Wreck") (by decide) (fun _ => rfl) (by decide +kernel) rfl) (
    okc (ok_iload (by decide +kernel) rfl) (
    okc (ok_putI (k := 3) (idx := 83) cX7_ok (by decide) rfl rfl w_112 (by decide +kernel) rfl) (
    okc (ok_aload_n (k := 0) (by decide +kernel) rfl rfl) (
    okc (ok_getR (k := 0) (idx := 12) cX0_ok (by decide) (by decide +kernel) w_191 (by decide +kernel) rfl) (
    okc (ok_iload_n (k := 3) (by decide +kernel) rfl rfl) (
    okc (ok_callV (SPf_ok _ _ _ _ _ _) (mi := 119) (n := 1) (idx := 37) rfl m_S_passHours (by decide) cX3_ok w_528 w_471 w_472 (by decide +kernel) rfl) (
    okc (ok_aload_n (k := 0) (by decide +kernel) rfl rfl) (
    okc (ok_iload (by decide +kernel) rfl) (
    okc (ok_aload_n (k := 0) (by decide +kernel) rfl rfl) (
    okc (ok_getR (k := 0) (idx := 12) cX0_ok (by decide) (by decide +kernel) w_191 (by decide +kernel) rfl) (
    okc (ok_getI (k := 6) (idx := 41) cX3_ok (by decide) (by decide +kernel) w_149 (by decide +kernel) rfl) (
    okc (ok_callV (SPf_ok _ _ _ _ _ _) (mi := 185) (n := 2) (idx := 79) rfl m_F_chooseIfLess (by decide) cX0_ok w_579 w_581 w_6 (by decide +kernel) rfl) (
    okc (ok_iinc (n := 1) (by decide +kernel) rfl rfl) (
    okc (ok_goto (off := -53) (by decide +kernel) rfl) (
    okc (ok_ret rfl (by decide +kernel)) ( okn)))))))))))))))))))))))))))))))
def pl_F_choosePlaceUnder_1 : List (Nat × mA) := [(0, a_aload 0 1), (1, a_getR 0 5 0 4), (4, a_aload 1 5), (5, a_callO 3 11 172 1 8), (8, a_aload 0 9), (9, a_getR 0 5 2 12), (12, a_push 0 13), (13, a_call 182 2 16), (16, a_push 0 17), (17, a_istore 3 18), (18, a_iload 3 19), (19, a_iload 2 20), (20, a_cmp (fun x y => decide (y ≤ x)) 79 23), (23, a_aload 0 24), (24, a_getR 0 5 0 27), (27, a_push 1 28), (28, a_callO 3 11 119 1 31), (31, a_aload 0 32), (32, a_getR 0 5 0 35), (35, a_callO 3 11 186 0 38), (38, a_istore 4 40), (40, a_push 0 41), (41, a_istore 5 43), (43, a_iload 5 45), (45, a_push 30 47), (47, a_cmp (fun x y => decide (y ≤ x)) 73 50), (50, a_aload 0 51), (51, a_getR 0 5 2 54), (54, a_iload 5 56), (56, a_dup2 57), (57, a_ald 0 58), (58, a_iload 4 60), (60, a_iload 5 62), (62, a_bin (fun x y => x >>> (y &&& 31)) 63), (63, a_push 1 64), (64, a_bin (fun x y => x &&& y) 65), (65, a_bin (fun x y => x + y) 66), (66, a_ast 0 (fun x => x) 67), (67, a_iinc 5 1 70), (70, a_goto 43), (73, a_iinc 3 1 76), (76, a_goto 18), (79, a_aload 0 80), (80, a_push 0 81), (81, a_putI 0 5 3 84), (84, a_push 1 85), (85, a_istore 3 86), (86, a_iload 3 87), (87, a_push 30 89), (89, a_cmp (fun x y => decide (y ≤ x)) 128 92), (92, a_aload 0 93), (93, a_aload 0 94), (94, a_getR 0 5 2 97), (97, a_iload 3 98), (98, a_ald 0 99), (99, a_aload 0 100), (100, a_getR 0 5 2 103), (103, a_aload 0 104), (104, a_getI 0 5 3 107), (107, a_ald 0 108)]
set_option maxRecDepth 20000 in
theorem ol_F_choosePlaceUnder_1 : okall B sp D cA (SPf B sp Ls xs adK adV) MT ⟨"WreckSky$Foresight", "choosePlaceUnder", "(LWreckSky$Sky;I)V"⟩ prog_2_method_12_code 6 (Option.none : Option Jvm.ClassFile.FieldType) (pl_F_choosePlaceUnder_1) := by
  unfold pl_F_choosePlaceUnder_1
  exact
    okc (ok_aload_n (k := 0) (by decide +kernel) rfl rfl) (
    okc (ok_getR (k := 0) (idx := 12) cX0_ok (by decide) (by decide +kernel) w_191 (by decide +kernel) rfl) (
    okc (ok_aload_n (k := 1) (by decide +kernel) rfl rfl) (
    okc (ok_callV (SPf_ok _ _ _ _ _ _) (mi := 172) (n := 1) (idx := 33) rfl m_S_becomeAs (by decide) cX3_ok w_520 w_521 w_522 (by decide +kernel) rfl) (
    okc (ok_aload_n (k := 0) (by decide +kernel) rfl rfl) (
    okc (ok_getR (k := 2) (idx := 22) cX0_ok (by decide) (by decide +kernel) w_193 (by decide +kernel) rfl) (
    okc (ok_iconst (n := 0) (by decide +kernel) rfl rfl) (
    okc (ok_callS (SPf_ok _ _ _ _ _ _) (mi := 182) (n := 2) (idx := 44) rfl m_JArrays_fill (by decide) w_551 w_552 (by decide +kernel) rfl) (
    okc (ok_iconst (n := 0) (by decide +kernel) rfl rfl) (
    okc (ok_istore_n (k := 3) (by decide +kernel) rfl rfl) (
    okc (ok_iload_n (k := 3) (by decide +kernel) rfl rfl) (
    okc (ok_iload_n (k := 2) (by decide +kernel) rfl rfl) (
    okc (ok_cmp_ge (off := 59) (by decide +kernel) rfl rfl) (
    okc (ok_aload_n (k := 0) (by decide +kernel) rfl rfl) (
    okc (ok_getR (k := 0) (idx := 12) cX0_ok (by decide) (by decide +kernel) w_191 (by decide +kernel) rfl) (
    okc (ok_iconst (n := 1) (by decide +kernel) rfl rfl) (
    okc (ok_callV (SPf_ok _ _ _ _ _ _) (mi := 119) (n := 1) (idx := 37) rfl m_S_passHours (by decide) cX3_ok w_528 w_471 w_472 (by decide +kernel) rfl) (
    okc (ok_aload_n (k := 0) (by decide +kernel) rfl rfl) (
    okc (ok_getR (k := 0) (idx := 12) cX0_ok (by decide) (by decide +kernel) w_191 (by decide +kernel) rfl) (
    okc (ok_callV (SPf_ok _ _ _ _ _ _) (mi := 186) (n := 0) (idx := 86) rfl m_S_upPlaces (by decide) cX3_ok w_603 w_604 w_605 (by decide +kernel) rfl) (
    okc (ok_istore (by decide +kernel) rfl) (
    okc (ok_iconst (n := 0) (by decide +kernel) rfl rfl) (
    okc (ok_istore (by decide +kernel) rfl) (
    okc (ok_iload (by decide +kernel) rfl) (
    okc (ok_bipush (n := 30) (by decide +kernel) (by decide +kernel) rfl) (
    okc (ok_cmp_ge (off := 26) (by decide +kernel) rfl rfl) (
    okc (ok_aload_n (k := 0) (by decide +kernel) rfl rfl) (
    okc (ok_getR (k := 2) (idx := 22) cX0_ok (by decide) (by decide +kernel) w_193 (by decide +kernel) rfl) (
    okc (ok_iload (by decide +kernel) rfl) (
    okc (ok_dup2 (by decide +kernel) rfl) (
    okc (ok_iald (by decide +kernel) rfl) (
    okc (ok_iload (by decide +kernel) rfl) (
    okc (ok_iload (by decide +kernel) rfl) (
    okc (ok_ishr (by decide +kernel) rfl) (
    okc (ok_iconst (n := 1) (by decide +kernel) rfl rfl) (
    okc (ok_iand (by decide +kernel) rfl) (
    okc (ok_iadd (by decide +kernel) rfl) (
    okc (ok_iast (by decide +kernel) rfl) (
    okc (ok_iinc (n := 1) (by decide +kernel) rfl rfl) (
    okc (ok_goto (off := -27) (by decide +kernel) rfl) (
    okc (ok_iinc (n := 1) (by decide +kernel) rfl rfl) (
    okc (ok_goto (off := -58) (by decide +kernel) rfl) (
    okc (ok_aload_n (k := 0) (by decide +kernel) rfl rfl) (
    okc (ok_iconst (n := 0) (by decide +kernel) rfl rfl) (
    okc (ok_putI (k := 3) (idx := 26) cX0_ok (by decide) rfl rfl w_194 (by decide +kernel) rfl) (
    okc (ok_iconst (n := 1) (by decide +kernel) rfl rfl) (
    okc (ok_istore_n (k := 3) (by decide +kernel) rfl rfl) (
    okc (ok_iload_n (k := 3) (by decide +kernel) rfl rfl) (
    okc (ok_bipush (n := 30) (by decide +kernel) (by decide +kernel) rfl) (
    okc (ok_cmp_ge (off := 39) (by decide +kernel) rfl rfl) (
    okc (ok_aload_n (k := 0) (by decide +kernel) rfl rfl) (
    okc (ok_aload_n (k := 0) (by decide +kernel) rfl rfl) (
    okc (ok_getR (k := 2) (idx := 22) cX0_ok (by decide) (by decide +kernel) w_193 (by decide +kernel) rfl) (
    okc (ok_iload_n (k := 3) (by decide +kernel) rfl rfl) (
    okc (ok_iald (by decide +kernel) rfl) (
    okc (ok_aload_n (k := 0) (by decide +kernel) rfl rfl) (
    okc (ok_getR (k := 2) (idx := 22) cX0_ok (by decide) (by decide +kernel) w_193 (by decide +kernel) rfl) (
    okc (ok_aload_n (k := 0) (by decide +kernel) rfl rfl) (
    okc (ok_getI (k := 3) (idx := 26) cX0_ok (by decide) (by decide +kernel) w_194 (by decide +kernel) rfl) (
    okc (ok_iald (by decide +kernel) rfl) ( okn))))))))))))))))))))))))))))))))))))))))))))))))))))))))))))
def pl_F_choosePlaceUnder_2 : List (Nat × mA) := [(108, a_cmp (fun x y => decide (x ≤ y)) 115 111), (111, a_iload 3 112), (112, a_goto 119), (115, a_aload 0 116), (116, a_getI 0 5 3 119), (119, a_putI 0 5 3 122), (122, a_iinc 3 1 125), (125, a_goto 86), (128, a_aload 0 129), (129, a_aload 0 130), (130, a_getR 0 5 2 133), (133, a_aload 0 134), (134, a_getI 0 5 3 137), (137, a_ald 0 138), (138, a_putI 0 5 4 141), (141, a_ret)]
set_option maxRecDepth 20000 in
theorem ol_F_choosePlaceUnder_2 : okall B sp D cA (SPf B sp Ls xs adK adV) MT ⟨"WreckSky$Foresight", "choosePlaceUnder", "(LWreckSky$Sky;I)V"⟩ prog_2_method_12_code 6 (Option.none : Option Jvm.ClassFile.FieldType) (pl_F_choosePlaceUnder_2) := by
  unfold pl_F_choosePlaceUnder_2
  exact
    okc (ok_cmp_le (off := 7) (by decide +kernel) rfl rfl) (
    okc (ok_iload_n (k := 3) (by decide +kernel) rfl rfl) (
    okc (ok_goto (off := 7) (by decide +kernel) rfl) (
    okc (ok_aload_n (k := 0) (by decide +kernel) rfl rfl) (
    okc (ok_getI (k := 3) (idx := 26) cX0_ok (by decide) (by decide +kernel) w_194 (by decide +kernel) rfl) (
    okc (ok_putI (k := 3) (idx := 26) cX0_ok (by decide) rfl rfl w_194 (by decide +kernel) rfl) (
    okc (ok_iinc (n := 1) (by decide +kernel) rfl rfl) (
    okc (ok_goto (off := -39) (by decide +kernel) rfl) (
    okc (ok_aload_n (k := 0) (by decide +kernel) rfl rfl) (
    okc (ok_aload_n (k := 0) (by decide +kernel) rfl rfl) (
    okc (ok_getR (k := 2) (idx := 22) cX0_ok (by decide) (by decide +kernel) w_193 (by decide +kernel) rfl) (
    okc (ok_aload_n (k := 0) (by decide +kernel) rfl rfl) (
    okc (ok_getI (k := 3) (idx := 26) cX0_ok (by decide) (by decide +kernel) w_194 (by decide +kernel) rfl) (
    okc (ok_iald (by decide +kernel) rfl) (
    okc (ok_putI (k := 4) (idx := 30) cX0_ok (by decide) rfl rfl w_195 (by decide +kernel) rfl) (
    okc (ok_ret rfl (by decide +kernel)) ( okn))))))))))))))))
def pl_F_choosePlaceUnder : List (Nat × mA) := pl_F_choosePlaceUnder_1 ++ (pl_F_choosePlaceUnder_2)
theorem ol_F_choosePlaceUnder : okall B sp D cA (SPf B sp Ls xs adK adV) MT ⟨"WreckSky$Foresight", "choosePlaceUnder", "(LWreckSky$Sky;I)V"⟩ prog_2_method_12_code 6 (Option.none : Option Jvm.ClassFile.FieldType) (pl_F_choosePlaceUnder) := oka ol_F_choosePlaceUnder_1 (ol_F_choosePlaceUnder_2)
def pl_F_nearestWay : List (Nat × mA) := [(0, a_aload 0 1), (1, a_getR 0 5 0 4), (4, a_aload 1 5), (5, a_callO 3 11 172 1 8), (8, a_aload 0 9), (9, a_iload 2 10), (10, a_callO 0 5 187 1 13), (13, a_istore 4 15), (15, a_push 0 16), (16, a_istore 5 18), (18, a_iload 5 20), (20, a_iload 3 21), (21, a_cmp (fun x y => decide (y ≤ x)) 50 24), (24, a_aload 0 25), (25, a_getR 0 5 0 28), (28, a_push 1 29), (29, a_callO 3 11 119 1 32), (32, a_iload 4 34), (34, a_aload 0 35), (35, a_iload 2 36), (36, a_callO 0 5 187 1 39), (39, a_call 116 2 42), (42, a_istore 4 44), (44, a_iinc 5 1 47), (47, a_goto 18), (50, a_iload 4 52), (52, a_push 30 54), (54, a_cmp (fun x y => decide (y ≤ x)) 62 57), (57, a_iload 4 59), (59, a_goto 64), (62, a_push (-1000000005) 64), (64, a_iret)]
set_option maxRecDepth 20000 in
theorem ol_F_nearestWay : okall B sp D cA (SPf B sp Ls xs adK adV) MT ⟨"WreckSky$Foresight", "nearestWay", "(LWreckSky$Sky;II)I"⟩ prog_2_method_13_code 6 (Option.some Jvm.ClassFile.FieldType.int) (pl_F_nearestWay) := by
  unfold pl_F_nearestWay
  exact
    okc (ok_aload_n (k := 0) (by decide +kernel) rfl rfl) (
    okc (ok_getR (k := 0) (idx := 12) cX0_ok (by decide) (by decide +kernel) w_191 (by decide +kernel) rfl) (
    okc (ok_aload_n (k := 1) (by decide +kernel) rfl rfl) (
    okc (ok_callV (SPf_ok _ _ _ _ _ _) (mi := 172) (n := 1) (idx := 33) rfl m_S_becomeAs (by decide) cX3_ok w_520 w_521 w_522 (by decide +kernel) rfl) (
    okc (ok_aload_n (k := 0) (by decide +kernel) rfl rfl) (
    okc (ok_iload_n (k := 2) (by decide +kernel) rfl rfl) (
    okc (ok_callV (SPf_ok _ _ _ _ _ _) (mi := 187) (n := 1) (idx := 90) rfl m_F_nearestNow (by decide) cX0_ok w_615 w_617 w_7 (by decide +kernel) rfl) (
    okc (ok_istore (by decide +kernel) rfl) (
    okc (ok_iconst (n := 0) (by decide +kernel) rfl rfl) (
    okc (ok_istore (by decide +kernel) rfl) (
    okc (ok_iload (by decide +kernel) rfl) (
    okc (ok_iload_n (k := 3) (by decide +kernel) rfl rfl) (
    okc (ok_cmp_ge (off := 29) (by decide +kernel) rfl rfl) (
    okc (ok_aload_n (k := 0) (by decide +kernel) rfl rfl) (
    okc (ok_getR (k := 0) (idx := 12) cX0_ok (by decide) (by decide +kernel) w_191 (by decide +kernel) rfl) (
    okc (ok_iconst (n := 1) (by decide +kernel) rfl rfl) (
    okc (ok_callV (SPf_ok _ _ _ _ _ _) (mi := 119) (n := 1) (idx := 37) rfl m_S_passHours (by decide) cX3_ok w_528 w_471 w_472 (by decide +kernel) rfl) (
    okc (ok_iload (by decide +kernel) rfl) (
    okc (ok_aload_n (k := 0) (by decide +kernel) rfl rfl) (
    okc (ok_iload_n (k := 2) (by decide +kernel) rfl rfl) (
    okc (ok_callV (SPf_ok _ _ _ _ _ _) (mi := 187) (n := 1) (idx := 90) rfl m_F_nearestNow (by decide) cX0_ok w_615 w_617 w_7 (by decide +kernel) rfl) (
    okc (ok_callS (SPf_ok _ _ _ _ _ _) (mi := 116) (n := 2) (idx := 94) rfl m_JMath_min (by decide) w_625 w_394 (by decide +kernel) rfl) (
    okc (ok_istore (by decide +kernel) rfl) (
    okc (ok_iinc (n := 1) (by decide +kernel) rfl rfl) (
    okc (ok_goto (off := -29) (by decide +kernel) rfl) (
    okc (ok_iload (by decide +kernel) rfl) (
    okc (ok_bipush (n := 30) (by decide +kernel) (by decide +kernel) rfl) (
    okc (ok_cmp_ge (off := 8) (by decide +kernel) rfl rfl) (
    okc (ok_iload (by decide +kernel) rfl) (
    okc (ok_goto (off := 5) (by decide +kernel) rfl) (
    okc (ok_ldc (i := 25) w_190 (by decide +kernel) rfl) (
    okc (ok_iret rfl (by decide +kernel)) ( okn))))))))))))))))))))))))))))))))
def pl_M_nearer : List (Nat × mA) := [(0, a_iload 2 1), (1, a_istore 3 2), (2, a_push 0 3), (3, a_istore 4 5), (5, a_iload 4 7), (7, a_aload 0 8), (8, a_getR 9 36 0 11), (11, a_push 1 12), (12, a_ald 0 13), (13, a_cmp (fun x y => decide (y ≤ x)) 98 16), (16, a_iload 4 18), (18, a_iload 1 19), (19, a_cmp (fun x y => decide (x = y)) 92 22), (22, a_aload 0 23), (23, a_iload 1 24), (24, a_callO 9 36 113 1 27), (27, a_if (fun x => decide (x = 0)) 92 30), (30, a_aload 0 31), (31, a_iload 4 33), (33, a_callO 9 36 113 1 36), (36, a_if (fun x => decide (x = 0)) 92 39), (39, a_aload 0 40), (40, a_iload 4 42), (42, a_push 1 43), (43, a_callO 9 36 105 2 46), (46, a_aload 0 47), (47, a_iload 1 48), (48, a_push 1 49), (49, a_callO 9 36 105 2 52), (52, a_cmp (fun x y => decide (x ≠ y)) 92 55), (55, a_aload 0 56), (56, a_iload 4 58), (58, a_push 2 59), (59, a_callO 9 36 105 2 62), (62, a_aload 0 63), (63, a_iload 1 64), (64, a_push 2 65), (65, a_callO 9 36 105 2 68), (68, a_call 148 2 71), (71, a_istore 5 73), (73, a_iload 3 74), (74, a_push (-1000000005) 76), (76, a_cmp (fun x y => decide (x = y)) 85 79), (79, a_iload 5 81), (81, a_iload 3 82), (82, a_cmp (fun x y => decide (y ≤ x)) 90 85), (85, a_iload 5 87), (87, a_goto 91), (90, a_iload 3 91), (91, a_istore 3 92), (92, a_iinc 4 1 95), (95, a_goto 5), (98, a_iload 3 99), (99, a_iret)]
set_option maxRecDepth 20000 in
theorem ol_M_nearer : okall B sp D cA (SPf B sp Ls xs adK adV) MT ⟨"WreckSkyModel", "nearer", "(II)I"⟩ prog_11_method_50_code 6 (Option.some Jvm.ClassFile.FieldType.int) (pl_M_nearer) := by
  unfold pl_M_nearer
  exact
    okc (ok_iload_n (k := 2) (by decide +kernel) rfl rfl) (
    okc (ok_istore_n (k := 3) (by decide +kernel) rfl rfl) (
    okc (ok_iconst (n := 0) (by decide +kernel) rfl rfl) (
    okc (ok_istore (by decide +kernel) rfl) (
    okc (ok_iload (by decide +kernel) rfl) (
    okc (ok_aload_n (k := 0) (by decide +kernel) rfl rfl) (
    okc (ok_getR (k := 0) (idx := 9) cX9_ok (by decide) (by decide +kernel) w_991 (by decide +kernel) rfl) (
    okc (ok_iconst (n := 1) (by decide +kernel) rfl rfl) (
    okc (ok_iald (by decide +kernel) rfl) (
    okc (ok_cmp_ge (off := 85) (by decide +kernel) rfl rfl) (
    okc (ok_iload (by decide +kernel) rfl) (
    okc (ok_iload_n (k := 1) (by decide +kernel) rfl rfl) (
    okc (ok_cmp_eq (off := 73) (by decide +kernel) rfl rfl) (
    okc (ok_aload_n (k := 0) (by decide +kernel) rfl rfl) (
    okc (ok_iload_n (k := 1) (by decide +kernel) rfl rfl) (
    okc (ok_callV (SPf_ok _ _ _ _ _ _) (mi := 113) (n := 1) (idx := 137) rfl m_M_isUp (by decide) cX9_ok w_1184 w_1186 w_30 (by decide +kernel) rfl) (
    okc (ok_if_eq (off := 65) (by decide +kernel) rfl rfl) (
    okc (ok_aload_n (k := 0) (by decide +kernel) rfl rfl) (
    okc (ok_iload (by decide +kernel) rfl) (
    okc (ok_callV (SPf_ok _ _ _ _ _ _) (mi := 113) (n := 1) (idx := 137) rfl m_M_isUp (by decide) cX9_ok w_1184 w_1186 w_30 (by decide +kernel) rfl) (
    okc (ok_if_eq (off := 56) (by decide +kernel) rfl rfl) (
    okc (ok_aload_n (k := 0) (by decide +kernel) rfl rfl) (
    okc (ok_iload (by decide +kernel) rfl) (
    okc (ok_iconst (n := 1) (by decide +kernel) rfl rfl) (
    okc (ok_callV (SPf_ok _ _ _ _ _ _) (mi := 105) (n := 2) (idx := 88) rfl m_M_of (by decide) cX9_ok w_1130 w_1132 w_23 (by decide +kernel) rfl) (
    okc (ok_aload_n (k := 0) (by decide +kernel) rfl rfl) (
    okc (ok_iload_n (k := 1) (by decide +kernel) rfl rfl) (
    okc (ok_iconst (n := 1) (by decide +kernel) rfl rfl) (
    okc (ok_callV (SPf_ok _ _ _ _ _ _) (mi := 105) (n := 2) (idx := 88) rfl m_M_of (by decide) cX9_ok w_1130 w_1132 w_23 (by decide +kernel) rfl) (
    okc (ok_cmp_ne (off := 40) (by decide +kernel) rfl rfl) (
    okc (ok_aload_n (k := 0) (by decide +kernel) rfl rfl) (
    okc (ok_iload (by decide +kernel) rfl) (
    okc (ok_iconst (n := 2) (by decide +kernel) rfl rfl) (
    okc (ok_callV (SPf_ok _ _ _ _ _ _) (mi := 105) (n := 2) (idx := 88) rfl m_M_of (by decide) cX9_ok w_1130 w_1132 w_23 (by decide +kernel) rfl) (
    okc (ok_aload_n (k := 0) (by decide +kernel) rfl rfl) (
    okc (ok_iload_n (k := 1) (by decide +kernel) rfl rfl) (
    okc (ok_iconst (n := 2) (by decide +kernel) rfl rfl) (
    okc (ok_callV (SPf_ok _ _ _ _ _ _) (mi := 105) (n := 2) (idx := 88) rfl m_M_of (by decide) cX9_ok w_1130 w_1132 w_23 (by decide +kernel) rfl) (
    okc (ok_callS (SPf_ok _ _ _ _ _ _) (mi := 148) (n := 2) (idx := 187) rfl m_M_apart (by decide) w_1306 w_1307 (by decide +kernel) rfl) (
    okc (ok_istore (by decide +kernel) rfl) (
    okc (ok_iload_n (k := 3) (by decide +kernel) rfl rfl) (
    okc (ok_ldc (i := 177) w_1265 (by decide +kernel) rfl) (
    okc (ok_cmp_eq (off := 9) (by decide +kernel) rfl rfl) (
    okc (ok_iload (by decide +kernel) rfl) (
    okc (ok_iload_n (k := 3) (by decide +kernel) rfl rfl) (
    okc (ok_cmp_ge (off := 8) (by decide +kernel) rfl rfl) (
    okc (ok_iload (by decide +kernel) rfl) (
    okc (ok_goto (off := 4) (by decide +kernel) rfl) (
    okc (ok_iload_n (k := 3) (by decide +kernel) rfl rfl) (
    okc (ok_istore_n (k := 3) (by decide +kernel) rfl rfl) (
    okc (ok_iinc (n := 1) (by decide +kernel) rfl rfl) (
    okc (ok_goto (off := -90) (by decide +kernel) rfl) (
    okc (ok_iload_n (k := 3) (by decide +kernel) rfl rfl) (
    okc (ok_iret rfl (by decide +kernel)) ( okn))))))))))))))))))))))))))))))))))))))))))))))))))))))
def pl_W_isSheet : List (Nat × mA) := [(0, a_iload 0 1), (1, a_push 0 2), (2, a_push 3 3), (3, a_call 94 3 6), (6, a_zret)]
set_option maxRecDepth 20000 in
theorem ol_W_isSheet : okall B sp D cA (SPf B sp Ls xs adK adV) MT ⟨"WreckSky", "isSheet", "(I)Z"⟩ prog_1_method_49_code 1 (Option.some Jvm.ClassFile.FieldType.boolean) (pl_W_isSheet) := by
  unfold pl_W_isSheet
  exact
    okc (ok_iload_n (k := 0) (by decide +kernel) rfl rfl) (
    okc (ok_iconst (n := 0) (by decide +kernel) rfl rfl) (
    okc (ok_iconst (n := 3) (by decide +kernel) rfl rfl) (
    okc (ok_callS (SPf_ok _ _ _ _ _ _) (mi := 94) (n := 3) (idx := 72) rfl m_W_within (by decide) w_351 w_352 (by decide +kernel) rfl) (
    okc (ok_zret rfl (by decide +kernel)) ( okn)))))
def pl_H_isMissing : List (Nat × mA) := [(0, a_aload 0 1), (1, a_getI 2 3 1 4), (4, a_push (-1) 5), (5, a_cmp (fun x y => decide (x ≠ y)) 12 8), (8, a_push 1 9), (9, a_goto 13), (12, a_push 0 13), (13, a_zret)]
set_option maxRecDepth 20000 in
theorem ol_H_isMissing : okall B sp D cA (SPf B sp Ls xs adK adV) MT ⟨"WreckSky$Sheet", "isMissing", "()Z"⟩ prog_4_method_4_code 1 (Option.some Jvm.ClassFile.FieldType.boolean) (pl_H_isMissing) := by
  unfold pl_H_isMissing
  exact
    okc (ok_aload_n (k := 0) (by decide +kernel) rfl rfl) (
    okc (ok_getI (k := 1) (idx := 15) cX2_ok (by decide) (by decide +kernel) w_275 (by decide +kernel) rfl) (
    okc (ok_iconst (n := -1) (by decide +kernel) rfl rfl) (
    okc (ok_cmp_ne (off := 7) (by decide +kernel) rfl rfl) (
    okc (ok_iconst (n := 1) (by decide +kernel) rfl rfl) (
    okc (ok_goto (off := 4) (by decide +kernel) rfl) (
    okc (ok_iconst (n := 0) (by decide +kernel) rfl rfl) (
    okc (ok_zret rfl (by decide +kernel)) ( okn))))))))
end PR

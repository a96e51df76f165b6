section PR
variable {B : Nat} {sp : Nat → Value} {D : va_G} {cA : Nat → ClassId} {Ls : Nat} {xs : Nat → Int32} {adK adV : Nat → Nat}
def pl_W_item : List (Nat × mA) := [(0, a_iload 1 1), (1, a_call 165 1 4), (4, a_if (fun x => decide (x ≠ 0)) 10 7), (7, a_push (-1000000001) 9), (9, a_iret), (10, a_aload 0 11), (11, a_iload 1 12), (12, a_push 2 13), (13, a_callO 8 10 169 2 16), (16, a_istore 3 17), (17, a_iload 3 18), (18, a_if (fun x => decide (x = 0)) 23 21), (21, a_iload 3 22), (22, a_iret), (23, a_aload 0 24), (24, a_getR 8 10 6 27), (27, a_iload 1 28), (28, a_aald 7 29), (29, a_getR 4 4 1 32), (32, a_astore 4 34), (34, a_aload 4 36), (36, a_iload 2 37), (37, a_callO 2 3 161 1 40), (40, a_if (fun x => decide (x ≠ 0)) 47 43), (43, a_push (-1000000013) 46), (46, a_iret), (47, a_aload 4 49), (49, a_iload 2 50), (50, a_callO 2 3 162 1 53), (53, a_if (fun x => decide (x = 0)) 66 56), (56, a_aload 4 58), (58, a_getR 2 3 0 61), (61, a_iload 2 62), (62, a_ald 0 63), (63, a_goto 68), (66, a_push (-1000000012) 68), (68, a_iret)]
set_option maxRecDepth 20000 in
theorem ol_W_item : okall B sp D cA (SPf B sp Ls xs adK adV) MT ⟨"WreckSky", "item", "(II)I"⟩ prog_1_method_37_code 5 (Option.some Jvm.ClassFile.FieldType.int) (pl_W_item) := by
  unfold pl_W_item
  exact
    okc (ok_iload_n (k := 1) (by decide +kernel) rfl rfl) (
    okc (ok_callS (SPf_ok _ _ _ _ _ _) (mi := 165) (n := 1) (idx := 311) rfl m_W_isSlot (by decide) w_931 w_932 (by decide +kernel) rfl) (
    okc (ok_if_ne (off := 6) (by decide +kernel) rfl rfl) (
    okc (ok_ldc (i := 79) w_357 (by decide +kernel) rfl) (
    okc (ok_iret rfl (by decide +kernel)) (
    okc (ok_aload_n (k := 0) (by decide +kernel) rfl rfl) (
    okc (ok_iload_n (k := 1) (by decide +kernel) rfl rfl) (
    okc (ok_iconst (n := 2) (by decide +kernel) rfl rfl) (
    okc (ok_callV (SPf_ok _ _ _ _ _ _) (mi := 169) (n := 2) (idx := 335) rfl m_W_findingUnless (by decide) cX8_ok w_944 w_946 w_19 (by decide +kernel) rfl) (
    okc (ok_istore_n (k := 3) (by decide +kernel) rfl rfl) (
    okc (ok_iload_n (k := 3) (by decide +kernel) rfl rfl) (
    okc (ok_if_eq (off := 5) (by decide +kernel) rfl rfl) (
    okc (ok_iload_n (k := 3) (by decide +kernel) rfl rfl) (
    okc (ok_iret rfl (by decide +kernel)) (
    okc (ok_aload_n (k := 0) (by decide +kernel) rfl rfl) (
    okc (ok_getR (k := 6) (idx := 50) cX8_ok (by decide) (by decide +kernel) w_319 (by decide +kernel) rfl) (
    okc (ok_iload_n (k := 1) (by decide +kernel) rfl rfl) (
    okc (ok_aald (C := "WreckSky$Slot") (by decide) (fun _ => rfl) (by decide +kernel) rfl) (
    okc (ok_getR (k := 1) (idx := 325) cX4_ok (by decide) (by decide +kernel) w_299 (by decide +kernel) rfl) (
    okc (ok_astore (by decide +kernel) rfl) (
    okc (ok_aload (by decide +kernel) rfl) (
    okc (ok_iload_n (k := 2) (by decide +kernel) rfl rfl) (
    okc (ok_callV (SPf_ok _ _ _ _ _ _) (mi := 161) (n := 1) (idx := 280) rfl m_H_hasPlace (by decide) cX2_ok w_904 w_647 w_648 (by decide +kernel) rfl) (
    okc (ok_if_ne (off := 7) (by decide +kernel) rfl rfl) (
    okc (ok_ldc_w (i := 283) w_905 (by decide +kernel) rfl) (
    okc (ok_iret rfl (by decide +kernel)) (
    okc (ok_aload (by decide +kernel) rfl) (
    okc (ok_iload_n (k := 2) (by decide +kernel) rfl rfl) (
    okc (ok_callV (SPf_ok _ _ _ _ _ _) (mi := 162) (n := 1) (idx := 292) rfl m_H_hasNumber (by decide) cX2_ok w_912 w_643 w_644 (by decide +kernel) rfl) (
    okc (ok_if_eq (off := 13) (by decide +kernel) rfl rfl) (
    okc (ok_aload (by decide +kernel) rfl) (
    okc (ok_getR (k := 0) (idx := 287) cX2_ok (by decide) (by decide +kernel) w_274 (by decide +kernel) rfl) (
    okc (ok_iload_n (k := 2) (by decide +kernel) rfl rfl) (
    okc (ok_iald (by decide +kernel) rfl) (
    okc (ok_goto (off := 5) (by decide +kernel) rfl) (
    okc (ok_ldc (i := 133) w_422 (by decide +kernel) rfl) (
    okc (ok_iret rfl (by decide +kernel)) ( okn)))))))))))))))))))))))))))))))))))))
def pl_M_item : List (Nat × mA) := [(0, a_iload 1 1), (1, a_call 168 1 4), (4, a_if (fun x => decide (x ≠ 0)) 10 7), (7, a_push (-1000000001) 9), (9, a_iret), (10, a_aload 0 11), (11, a_getR 9 36 29 14), (14, a_iload 1 15), (15, a_ald 0 16), (16, a_if (fun x => decide (x ≠ 0)) 22 19), (19, a_push (-1000000011) 21), (21, a_iret), (22, a_aload 0 23), (23, a_getR 9 36 29 26), (26, a_iload 1 27), (27, a_ald 0 28), (28, a_push 2 29), (29, a_cmp (fun x y => decide (x = y)) 35 32), (32, a_push (-1000000012) 34), (34, a_iret), (35, a_iload 2 36), (36, a_push 0 37), (37, a_aload 0 38), (38, a_getR 9 36 30 41), (41, a_iload 1 42), (42, a_ald 0 43), (43, a_push 1 44), (44, a_bin (fun x y => x - y) 45), (45, a_call 97 3 48), (48, a_if (fun x => decide (x ≠ 0)) 55 51), (51, a_push (-1000000013) 54), (54, a_iret), (55, a_aload 0 56), (56, a_getR 9 36 32 59), (59, a_push 24 61), (61, a_iload 1 62), (62, a_bin (fun x y => x * y) 63), (63, a_iload 2 64), (64, a_bin (fun x y => x + y) 65), (65, a_ald 0 66), (66, a_istore 3 67), (67, a_iload 3 68), (68, a_push (-1000000005) 70), (70, a_cmp (fun x y => decide (x ≠ y)) 78 73), (73, a_push (-1000000012) 75), (75, a_goto 79), (78, a_iload 3 79), (79, a_iret)]
set_option maxRecDepth 20000 in
theorem ol_M_item : okall B sp D cA (SPf B sp Ls xs adK adV) MT ⟨"WreckSkyModel", "item", "(II)I"⟩ prog_11_method_83_code 4 (Option.some Jvm.ClassFile.FieldType.int) (pl_M_item) := by
  unfold pl_M_item
  exact
    okc (ok_iload_n (k := 1) (by decide +kernel) rfl rfl) (
    okc (ok_callS (SPf_ok _ _ _ _ _ _) (mi := 168) (n := 1) (idx := 269) rfl m_M_isSlot (by decide) w_1416 w_1417 (by decide +kernel) rfl) (
    okc (ok_if_ne (off := 6) (by decide +kernel) rfl rfl) (
    okc (ok_ldc (i := 100) w_1112 (by decide +kernel) rfl) (
    okc (ok_iret rfl (by decide +kernel)) (
    okc (ok_aload_n (k := 0) (by decide +kernel) rfl rfl) (
    okc (ok_getR (k := 29) (idx := 66) cX9_ok (by decide) (by decide +kernel) w_1020 (by decide +kernel) rfl) (
    okc (ok_iload_n (k := 1) (by decide +kernel) rfl rfl) (
    okc (ok_iald (by decide +kernel) rfl) (
    okc (ok_if_ne (off := 6) (by decide +kernel) rfl rfl) (
    okc (ok_ldc (i := 196) w_1316 (by decide +kernel) rfl) (
    okc (ok_iret rfl (by decide +kernel)) (
    okc (ok_aload_n (k := 0) (by decide +kernel) rfl rfl) (
    okc (ok_getR (k := 29) (idx := 66) cX9_ok (by decide) (by decide +kernel) w_1020 (by decide +kernel) rfl) (
    okc (ok_iload_n (k := 1) (by decide +kernel) rfl rfl) (
    okc (ok_iald (by decide +kernel) rfl) (
    okc (ok_iconst (n := 2) (by decide +kernel) rfl rfl) (
    okc (ok_cmp_eq (off := 6) (by decide +kernel) rfl rfl) (
    okc (ok_ldc (i := 133) w_1167 (by decide +kernel) rfl) (
    okc (ok_iret rfl (by decide +kernel)) (
    okc (ok_iload_n (k := 2) (by decide +kernel) rfl rfl) (
    okc (ok_iconst (n := 0) (by decide +kernel) rfl rfl) (
    okc (ok_aload_n (k := 0) (by decide +kernel) rfl rfl) (
    okc (ok_getR (k := 30) (idx := 69) cX9_ok (by decide) (by decide +kernel) w_1021 (by decide +kernel) rfl) (
    okc (ok_iload_n (k := 1) (by decide +kernel) rfl rfl) (
    okc (ok_iald (by decide +kernel) rfl) (
    okc (ok_iconst (n := 1) (by decide +kernel) rfl rfl) (
    okc (ok_isub (by decide +kernel) rfl) (
    okc (ok_callS (SPf_ok _ _ _ _ _ _) (mi := 97) (n := 3) (idx := 84) rfl m_M_in (by decide) w_1106 w_1107 (by decide +kernel) rfl) (
    okc (ok_if_ne (off := 7) (by decide +kernel) rfl rfl) (
    okc (ok_ldc_w (i := 266) w_1397 (by decide +kernel) rfl) (
    okc (ok_iret rfl (by decide +kernel)) (
    okc (ok_aload_n (k := 0) (by decide +kernel) rfl rfl) (
    okc (ok_getR (k := 32) (idx := 75) cX9_ok (by decide) (by decide +kernel) w_1023 (by decide +kernel) rfl) (
    okc (ok_bipush (n := 24) (by decide +kernel) (by decide +kernel) rfl) (
    okc (ok_iload_n (k := 1) (by decide +kernel) rfl rfl) (
    okc (ok_imul (by decide +kernel) rfl) (
    okc (ok_iload_n (k := 2) (by decide +kernel) rfl rfl) (
    okc (ok_iadd (by decide +kernel) rfl) (
    okc (ok_iald (by decide +kernel) rfl) (
    okc (ok_istore_n (k := 3) (by decide +kernel) rfl rfl) (
    okc (ok_iload_n (k := 3) (by decide +kernel) rfl rfl) (
    okc (ok_ldc (i := 177) w_1265 (by decide +kernel) rfl) (
    okc (ok_cmp_ne (off := 8) (by decide +kernel) rfl rfl) (
    okc (ok_ldc (i := 133) w_1167 (by decide +kernel) rfl) (
    okc (ok_goto (off := 4) (by decide +kernel) rfl) (
    okc (ok_iload_n (k := 3) (by decide +kernel) rfl rfl) (
    okc (ok_iret rfl (by decide +kernel)) ( okn))))))))))))))))))))))))))))))))))))))))))))))))
def pl_W_rest : List (Nat × mA) := [(0, a_iload 1 1), (1, a_call 165 1 4), (4, a_if (fun x => decide (x ≠ 0)) 10 7), (7, a_push (-1000000001) 9), (9, a_iret), (10, a_aload 0 11), (11, a_iload 1 12), (12, a_push 3 13), (13, a_callO 8 10 169 2 16), (16, a_istore 3 17), (17, a_iload 3 18), (18, a_if (fun x => decide (x = 0)) 23 21), (21, a_iload 3 22), (22, a_iret), (23, a_iload 2 24), (24, a_if (fun x => decide (x ≠ 0)) 32 27), (27, a_push (-1000000002) 29), (29, a_goto 43), (32, a_aload 0 33), (33, a_getR 8 10 6 36), (36, a_iload 1 37), (37, a_aald 7 38), (38, a_getI 4 4 2 41), (41, a_iload 2 42), (42, a_div (fun x y => x - x / y * y) 43), (43, a_iret)]
set_option maxRecDepth 20000 in
theorem ol_W_rest : okall B sp D cA (SPf B sp Ls xs adK adV) MT ⟨"WreckSky", "rest", "(II)I"⟩ prog_1_method_38_code 4 (Option.some Jvm.ClassFile.FieldType.int) (pl_W_rest) := by
  unfold pl_W_rest
  exact
    okc (ok_iload_n (k := 1) (by decide +kernel) rfl rfl) (
    okc (ok_callS (SPf_ok _ _ _ _ _ _) (mi := 165) (n := 1) (idx := 311) rfl m_W_isSlot (by decide) w_931 w_932 (by decide +kernel) rfl) (
    okc (ok_if_ne (off := 6) (by decide +kernel) rfl rfl) (
    okc (ok_ldc (i := 79) w_357 (by decide +kernel) rfl) (
    okc (ok_iret rfl (by decide +kernel)) (
    okc (ok_aload_n (k := 0) (by decide +kernel) rfl rfl) (
    okc (ok_iload_n (k := 1) (by decide +kernel) rfl rfl) (
    okc (ok_iconst (n := 3) (by decide +kernel) rfl rfl) (
    okc (ok_callV (SPf_ok _ _ _ _ _ _) (mi := 169) (n := 2) (idx := 335) rfl m_W_findingUnless (by decide) cX8_ok w_944 w_946 w_19 (by decide +kernel) rfl) (
    okc (ok_istore_n (k := 3) (by decide +kernel) rfl rfl) (
    okc (ok_iload_n (k := 3) (by decide +kernel) rfl rfl) (
    okc (ok_if_eq (off := 5) (by decide +kernel) rfl rfl) (
    okc (ok_iload_n (k := 3) (by decide +kernel) rfl rfl) (
    okc (ok_iret rfl (by decide +kernel)) (
    okc (ok_iload_n (k := 2) (by decide +kernel) rfl rfl) (
    okc (ok_if_ne (off := 8) (by decide +kernel) rfl rfl) (
    okc (ok_ldc (i := 142) w_439 (by decide +kernel) rfl) (
    okc (ok_goto (off := 14) (by decide +kernel) rfl) (
    okc (ok_aload_n (k := 0) (by decide +kernel) rfl rfl) (
    okc (ok_getR (k := 6) (idx := 50) cX8_ok (by decide) (by decide +kernel) w_319 (by decide +kernel) rfl) (
    okc (ok_iload_n (k := 1) (by decide +kernel) rfl rfl) (
    okc (ok_aald (C := "WreckSky$Slot") (by decide) (fun _ => rfl) (by decide +kernel) rfl) (
    okc (ok_getI (k := 2) (idx := 332) cX4_ok (by decide) (by decide +kernel) w_301 (by decide +kernel) rfl) (
    okc (ok_iload_n (k := 2) (by decide +kernel) rfl rfl) (
    okc (ok_irem (by decide +kernel) rfl) (
    okc (ok_iret rfl (by decide +kernel)) ( okn))))))))))))))))))))))))))
def pl_M_rest : List (Nat × mA) := [(0, a_iload 1 1), (1, a_call 168 1 4), (4, a_if (fun x => decide (x ≠ 0)) 10 7), (7, a_push (-1000000001) 9), (9, a_iret), (10, a_aload 0 11), (11, a_getR 9 36 29 14), (14, a_iload 1 15), (15, a_ald 0 16), (16, a_if (fun x => decide (x ≠ 0)) 22 19), (19, a_push (-1000000011) 21), (21, a_iret), (22, a_aload 0 23), (23, a_getR 9 36 29 26), (26, a_iload 1 27), (27, a_ald 0 28), (28, a_push 3 29), (29, a_cmp (fun x y => decide (x = y)) 35 32), (32, a_push (-1000000012) 34), (34, a_iret), (35, a_iload 2 36), (36, a_if (fun x => decide (x ≠ 0)) 44 39), (39, a_push (-1000000002) 41), (41, a_goto 61), (44, a_iload 2 45), (45, a_push (-1) 46), (46, a_cmp (fun x y => decide (x ≠ y)) 53 49), (49, a_push 0 50), (50, a_goto 61), (53, a_aload 0 54), (54, a_getR 9 36 30 57), (57, a_iload 1 58), (58, a_ald 0 59), (59, a_iload 2 60), (60, a_div (fun x y => x - x / y * y) 61), (61, a_iret)]
set_option maxRecDepth 20000 in
theorem ol_M_rest : okall B sp D cA (SPf B sp Ls xs adK adV) MT ⟨"WreckSkyModel", "rest", "(II)I"⟩ prog_11_method_84_code 3 (Option.some Jvm.ClassFile.FieldType.int) (pl_M_rest) := by
  unfold pl_M_rest
  exact
    okc (ok_iload_n (k := 1) (by decide +kernel) rfl rfl) (
    okc (ok_callS (SPf_ok _ _ _ _ _ _) (mi := 168) (n := 1) (idx := 269) rfl m_M_isSlot (by decide) w_1416 w_1417 (by decide +kernel) rfl) (
    okc (ok_if_ne (off := 6) (by decide +kernel) rfl rfl) (
    okc (ok_ldc (i := 100) w_1112 (by decide +kernel) rfl) (
    okc (ok_iret rfl (by decide +kernel)) (
    okc (ok_aload_n (k := 0) (by decide +kernel) rfl rfl) (
    okc (ok_getR (k := 29) (idx := 66) cX9_ok (by decide) (by decide +kernel) w_1020 (by decide +kernel) rfl) (
    okc (ok_iload_n (k := 1) (by decide +kernel) rfl rfl) (
    okc (ok_iald (by decide +kernel) rfl) (
    okc (ok_if_ne (off := 6) (by decide +kernel) rfl rfl) (
    okc (ok_ldc (i := 196) w_1316 (by decide +kernel) rfl) (
    okc (ok_iret rfl (by decide +kernel)) (
    okc (ok_aload_n (k := 0) (by decide +kernel) rfl rfl) (
    okc (ok_getR (k := 29) (idx := 66) cX9_ok (by decide) (by decide +kernel) w_1020 (by decide +kernel) rfl) (
    okc (ok_iload_n (k := 1) (by decide +kernel) rfl rfl) (
    okc (ok_iald (by decide +kernel) rfl) (
    okc (ok_iconst (n := 3) (by decide +kernel) rfl rfl) (
    okc (ok_cmp_eq (off := 6) (by decide +kernel) rfl rfl) (
    okc (ok_ldc (i := 133) w_1167 (by decide +kernel) rfl) (
    okc (ok_iret rfl (by decide +kernel)) (
    okc (ok_iload_n (k := 2) (by decide +kernel) rfl rfl) (
    okc (ok_if_ne (off := 8) (by decide +kernel) rfl rfl) (
    okc (ok_ldc (i := 140) w_1188 (by decide +kernel) rfl) (
    okc (ok_goto (off := 20) (by decide +kernel) rfl) (
    okc (ok_iload_n (k := 2) (by decide +kernel) rfl rfl) (
    okc (ok_iconst (n := -1) (by decide +kernel) rfl rfl) (
    okc (ok_cmp_ne (off := 7) (by decide +kernel) rfl rfl) (
    okc (ok_iconst (n := 0) (by decide +kernel) rfl rfl) (
    okc (ok_goto (off := 11) (by decide +kernel) rfl) (
    okc (ok_aload_n (k := 0) (by decide +kernel) rfl rfl) (
    okc (ok_getR (k := 30) (idx := 69) cX9_ok (by decide) (by decide +kernel) w_1021 (by decide +kernel) rfl) (
    okc (ok_iload_n (k := 1) (by decide +kernel) rfl rfl) (
    okc (ok_iald (by decide +kernel) rfl) (
    okc (ok_iload_n (k := 2) (by decide +kernel) rfl rfl) (
    okc (ok_irem (by decide +kernel) rfl) (
    okc (ok_iret rfl (by decide +kernel)) ( okn))))))))))))))))))))))))))))))))))))
def pl_W_tell : List (Nat × mA) := [(0, a_aload 0 1), (1, a_getI 8 10 8 4), (4, a_push 60 6), (6, a_cmp (fun x y => decide (x < y)) 12 9), (9, a_push (-1000000003) 11), (11, a_iret), (12, a_aload 0 13), (13, a_getR 8 10 7 16), (16, a_aload 0 17), (17, a_getI 8 10 8 20), (20, a_iload 1 21), (21, a_ast 0 (fun x => x) 22), (22, a_aload 0 23), (23, a_dup 24), (24, a_getI 8 10 8 27), (27, a_push 1 28), (28, a_bin (fun x y => x + y) 29), (29, a_putI 8 10 8 32), (32, a_aload 0 33), (33, a_getI 8 10 8 36), (36, a_iret)]
set_option maxRecDepth 20000 in
theorem ol_W_tell : okall B sp D cA (SPf B sp Ls xs adK adV) MT ⟨"WreckSky", "tell", "(I)I"⟩ prog_1_method_39_code 2 (Option.some Jvm.ClassFile.FieldType.int) (pl_W_tell) := by
  unfold pl_W_tell
  exact
    okc (ok_aload_n (k := 0) (by decide +kernel) rfl rfl) (
    okc (ok_getI (k := 8) (idx := 58) cX8_ok (by decide) (by decide +kernel) w_321 (by decide +kernel) rfl) (
    okc (ok_bipush (n := 60) (by decide +kernel) (by decide +kernel) rfl) (
    okc (ok_cmp_lt (off := 6) (by decide +kernel) rfl rfl) (
    okc (ok_ldc (i := 87) w_362 (by decide +kernel) rfl) (
    okc (ok_iret rfl (by decide +kernel)) (
    okc (ok_aload_n (k := 0) (by decide +kernel) rfl rfl) (
    okc (ok_getR (k := 7) (idx := 54) cX8_ok (by decide) (by decide +kernel) w_320 (by decide +kernel) rfl) (
    okc (ok_aload_n (k := 0) (by decide +kernel) rfl rfl) (
    okc (ok_getI (k := 8) (idx := 58) cX8_ok (by decide) (by decide +kernel) w_321 (by decide +kernel) rfl) (
    okc (ok_iload_n (k := 1) (by decide +kernel) rfl rfl) (
    okc (ok_iast (by decide +kernel) rfl) (
    okc (ok_aload_n (k := 0) (by decide +kernel) rfl rfl) (
    okc (ok_dup (by decide +kernel) rfl) (
    okc (ok_getI (k := 8) (idx := 58) cX8_ok (by decide) (by decide +kernel) w_321 (by decide +kernel) rfl) (
    okc (ok_iconst (n := 1) (by decide +kernel) rfl rfl) (
    okc (ok_iadd (by decide +kernel) rfl) (
    okc (ok_putI (k := 8) (idx := 58) cX8_ok (by decide) rfl rfl w_321 (by decide +kernel) rfl) (
    okc (ok_aload_n (k := 0) (by decide +kernel) rfl rfl) (
    okc (ok_getI (k := 8) (idx := 58) cX8_ok (by decide) (by decide +kernel) w_321 (by decide +kernel) rfl) (
    okc (ok_iret rfl (by decide +kernel)) ( okn)))))))))))))))))))))
def pl_M_tell : List (Nat × mA) := [(0, a_aload 0 1), (1, a_getI 9 36 35 4), (4, a_push 60 6), (6, a_cmp (fun x y => decide (x ≠ y)) 12 9), (9, a_push (-1000000003) 11), (11, a_iret), (12, a_aload 0 13), (13, a_getR 9 36 34 16), (16, a_aload 0 17), (17, a_getI 9 36 35 20), (20, a_iload 1 21), (21, a_ast 0 (fun x => x) 22), (22, a_aload 0 23), (23, a_dup 24), (24, a_getI 9 36 35 27), (27, a_push 1 28), (28, a_bin (fun x y => x + y) 29), (29, a_putI 9 36 35 32), (32, a_aload 0 33), (33, a_getI 9 36 35 36), (36, a_iret)]
set_option maxRecDepth 20000 in
theorem ol_M_tell : okall B sp D cA (SPf B sp Ls xs adK adV) MT ⟨"WreckSkyModel", "tell", "(I)I"⟩ prog_11_method_85_code 2 (Option.some Jvm.ClassFile.FieldType.int) (pl_M_tell) := by
  unfold pl_M_tell
  exact
    okc (ok_aload_n (k := 0) (by decide +kernel) rfl rfl) (
    okc (ok_getI (k := 35) (idx := 272) cX9_ok (by decide) (by decide +kernel) w_1026 (by decide +kernel) rfl) (
    okc (ok_bipush (n := 60) (by decide +kernel) (by decide +kernel) rfl) (
    okc (ok_cmp_ne (off := 6) (by decide +kernel) rfl rfl) (
    okc (ok_ldc (i := 101) w_1113 (by decide +kernel) rfl) (
    okc (ok_iret rfl (by decide +kernel)) (
    okc (ok_aload_n (k := 0) (by decide +kernel) rfl rfl) (
    okc (ok_getR (k := 34) (idx := 81) cX9_ok (by decide) (by decide +kernel) w_1025 (by decide +kernel) rfl) (
    okc (ok_aload_n (k := 0) (by decide +kernel) rfl rfl) (
    okc (ok_getI (k := 35) (idx := 272) cX9_ok (by decide) (by decide +kernel) w_1026 (by decide +kernel) rfl) (
    okc (ok_iload_n (k := 1) (by decide +kernel) rfl rfl) (
    okc (ok_iast (by decide +kernel) rfl) (
    okc (ok_aload_n (k := 0) (by decide +kernel) rfl rfl) (
    okc (ok_dup (by decide +kernel) rfl) (
    okc (ok_getI (k := 35) (idx := 272) cX9_ok (by decide) (by decide +kernel) w_1026 (by decide +kernel) rfl) (
    okc (ok_iconst (n := 1) (by decide +kernel) rfl rfl) (
    okc (ok_iadd (by decide +kernel) rfl) (
    okc (ok_putI (k := 35) (idx := 272) cX9_ok (by decide) rfl rfl w_1026 (by decide +kernel) rfl) (
    okc (ok_aload_n (k := 0) (by decide +kernel) rfl rfl) (
    okc (ok_getI (k := 35) (idx := 272) cX9_ok (by decide) (by decide +kernel) w_1026 (by decide +kernel) rfl) (
    okc (ok_iret rfl (by decide +kernel)) ( okn)))))))))))))))))))))
def pl_W_check : List (Nat × mA) := [(0, a_aload 0 1), (1, a_getI 8 10 8 4), (4, a_istore 2 5), (5, a_aload 0 6), (6, a_push 0 7), (7, a_putI 8 10 8 10), (10, a_iload 1 11), (11, a_push 1 12), (12, a_push 30 14), (14, a_call 94 3 17), (17, a_if (fun x => decide (x ≠ 0)) 23 20), (20, a_push (-1000000001) 22), (22, a_iret), (23, a_aload 0 24), (24, a_getI 8 10 9 27), (27, a_if (fun x => decide (x ≠ 0)) 33 30), (30, a_push (-1000000002) 32), (32, a_iret), (33, a_iload 1 34), (34, a_push 9999 37), (37, a_aload 0 38), (38, a_getR 8 10 1 41), (41, a_getI 3 11 9 44), (44, a_bin (fun x y => x - y) 45), (45, a_call 116 2 48), (48, a_istore 3 49), (49, a_aload 0 50), (50, a_getR 8 10 2 53), (53, a_aload 0 54), (54, a_getR 8 10 1 57), (57, a_iload 3 58), (58, a_aload 0 59), (59, a_getR 8 10 7 62), (62, a_iload 2 63), (63, a_callO 0 5 170 4 66), (66, a_istore 4 68), (68, a_iload 4 70), (70, a_iload 2 71), (71, a_cmp (fun x y => decide (x ≠ y)) 85 74), (74, a_iload 2 75), (75, a_push 2 76), (76, a_iload 3 77), (77, a_bin (fun x y => x * y) 78), (78, a_cmp (fun x y => decide (x ≠ y)) 85 81), (81, a_push 0 82), (82, a_goto 89), (85, a_push 1 86), (86, a_iload 4 88), (88, a_bin (fun x y => x + y) 89), (89, a_iret)]
set_option maxRecDepth 20000 in
theorem ol_W_check : okall B sp D cA (SPf B sp Ls xs adK adV) MT ⟨"WreckSky", "check", "(I)I"⟩ prog_1_method_40_code 5 (Option.some Jvm.ClassFile.FieldType.int) (pl_W_check) := by
  unfold pl_W_check
  exact
    okc (ok_aload_n (k := 0) (by decide +kernel) rfl rfl) (
    okc (ok_getI (k := 8) (idx := 58) cX8_ok (by decide) (by decide +kernel) w_321 (by decide +kernel) rfl) (
    okc (ok_istore_n (k := 2) (by decide +kernel) rfl rfl) (
    okc (ok_aload_n (k := 0) (by decide +kernel) rfl rfl) (
    okc (ok_iconst (n := 0) (by decide +kernel) rfl rfl) (
    okc (ok_putI (k := 8) (idx := 58) cX8_ok (by decide) rfl rfl w_321 (by decide +kernel) rfl) (
    okc (ok_iload_n (k := 1) (by decide +kernel) rfl rfl) (
    okc (ok_iconst (n := 1) (by decide +kernel) rfl rfl) (
    okc (ok_bipush (n := 30) (by decide +kernel) (by decide +kernel) rfl) (
    okc (ok_callS (SPf_ok _ _ _ _ _ _) (mi := 94) (n := 3) (idx := 72) rfl m_W_within (by decide) w_351 w_352 (by decide +kernel) rfl) (
    okc (ok_if_ne (off := 6) (by decide +kernel) rfl rfl) (
    okc (ok_ldc (i := 79) w_357 (by decide +kernel) rfl) (
    okc (ok_iret rfl (by decide +kernel)) (
    okc (ok_aload_n (k := 0) (by decide +kernel) rfl rfl) (
    okc (ok_getI (k := 9) (idx := 62) cX8_ok (by decide) (by decide +kernel) w_322 (by decide +kernel) rfl) (
    okc (ok_if_ne (off := 6) (by decide +kernel) rfl rfl) (
    okc (ok_ldc (i := 142) w_439 (by decide +kernel) rfl) (
    okc (ok_iret rfl (by decide +kernel)) (
    okc (ok_iload_n (k := 1) (by decide +kernel) rfl rfl) (
    okc (ok_sipush (n := 9999) (by decide +kernel) (by decide +kernel) rfl) (
    okc (ok_aload_n (k := 0) (by decide +kernel) rfl rfl) (
    okc (ok_getR (k := 1) (idx := 16) cX8_ok (by decide) (by decide +kernel) w_314 (by decide +kernel) rfl) (
    okc (ok_getI (k := 9) (idx := 119) cX3_ok (by decide) (by decide +kernel) w_156 (by decide +kernel) rfl) (
    okc (ok_isub (by decide +kernel) rfl) (
    okc (ok_callS (SPf_ok _ _ _ _ _ _) (mi := 116) (n := 2) (idx := 149) rfl m_JMath_min (by decide) w_393 w_394 (by decide +kernel) rfl) (
    okc (ok_istore_n (k := 3) (by decide +kernel) rfl rfl) (
    okc (ok_aload_n (k := 0) (by decide +kernel) rfl rfl) (
    okc (ok_getR (k := 2) (idx := 22) cX8_ok (by decide) (by decide +kernel) w_315 (by decide +kernel) rfl) (
    okc (ok_aload_n (k := 0) (by decide +kernel) rfl rfl) (
    okc (ok_getR (k := 1) (idx := 16) cX8_ok (by decide) (by decide +kernel) w_314 (by decide +kernel) rfl) (
    okc (ok_iload_n (k := 3) (by decide +kernel) rfl rfl) (
    okc (ok_aload_n (k := 0) (by decide +kernel) rfl rfl) (
    okc (ok_getR (k := 7) (idx := 54) cX8_ok (by decide) (by decide +kernel) w_320 (by decide +kernel) rfl) (
    okc (ok_iload_n (k := 2) (by decide +kernel) rfl rfl) (
    okc (ok_callV (SPf_ok _ _ _ _ _ _) (mi := 170) (n := 4) (idx := 338) rfl m_F_rightOnes (by decide) cX0_ok w_964 w_965 w_966 (by decide +kernel) rfl) (
    okc (ok_istore (by decide +kernel) rfl) (
    okc (ok_iload (by decide +kernel) rfl) (
    okc (ok_iload_n (k := 2) (by decide +kernel) rfl rfl) (
    okc (ok_cmp_ne (off := 14) (by decide +kernel) rfl rfl) (
    okc (ok_iload_n (k := 2) (by decide +kernel) rfl rfl) (
    okc (ok_iconst (n := 2) (by decide +kernel) rfl rfl) (
    okc (ok_iload_n (k := 3) (by decide +kernel) rfl rfl) (
    okc (ok_imul (by decide +kernel) rfl) (
    okc (ok_cmp_ne (off := 7) (by decide +kernel) rfl rfl) (
    okc (ok_iconst (n := 0) (by decide +kernel) rfl rfl) (
    okc (ok_goto (off := 7) (by decide +kernel) rfl) (
    okc (ok_iconst (n := 1) (by decide +kernel) rfl rfl) (
    okc (ok_iload (by decide +kernel) rfl) (
    okc (ok_iadd (by decide +kernel) rfl) (
    okc (ok_iret rfl (by decide +kernel)) ( okn))))))))))))))))))))))))))))))))))))))))))))))))))
def pl_M_check_1 : List (Nat × mA) := [(0, a_aload 0 1), (1, a_getI 9 36 35 4), (4, a_istore 2 5), (5, a_aload 0 6), (6, a_push 0 7), (7, a_putI 9 36 35 10), (10, a_iload 1 11), (11, a_push 1 12), (12, a_push 30 14), (14, a_call 97 3 17), (17, a_if (fun x => decide (x ≠ 0)) 23 20), (20, a_push (-1000000001) 22), (22, a_iret), (23, a_aload 0 24), (24, a_getI 9 36 3 27), (27, a_if (fun x => decide (x ≠ 0)) 33 30), (30, a_push (-1000000002) 32), (32, a_iret), (33, a_aload 0 34), (34, a_getR 9 36 0 37), (37, a_aload 0 38), (38, a_getR 9 36 2 41), (41, a_call 171 2 44), (44, a_aload 0 45), (45, a_getR 9 36 1 48), (48, a_aload 0 49), (49, a_getR 9 36 0 52), (52, a_call 171 2 55), (55, a_push 2 56), (56, a_push 9999 59), (59, a_aload 0 60), (60, a_getR 9 36 0 63), (63, a_push 2 64), (64, a_ald 0 65), (65, a_bin (fun x y => x - y) 66), (66, a_push 0 67), (67, a_iload 1 68), (68, a_call 120 3 71), (71, a_bin (fun x y => x * y) 72), (72, a_istore 3 73), (73, a_push 0 74), (74, a_istore 4 76), (76, a_push 0 77), (77, a_istore 5 79), (79, a_push 2 80), (80, a_iload 5 82), (82, a_bin (fun x y => x * y) 83), (83, a_iload 3 84), (84, a_cmp (fun x y => decide (y ≤ x)) 180 87), (87, a_iload 4 89), (89, a_push 2 90), (90, a_iload 5 92), (92, a_bin (fun x y => x * y) 93), (93, a_cmp (fun x y => decide (x ≠ y)) 180 96), (96, a_aload 0 97), (97, a_callO 9 36 131 0 100), (100, a_iload 4 102), (102, a_iload 4 104), (104, a_iload 2 105), (105, a_cmp (fun x y => decide (y ≤ x)) 128 108)]
set_option maxRecDepth 20000 in
theorem ol_M_check_1 : okall B sp D cA (SPf B sp Ls xs adK adV) MT ⟨"WreckSkyModel", "check", "(I)I"⟩ prog_11_method_86_code 6 (Option.some Jvm.ClassFile.FieldType.int) (pl_M_check_1) := by
  unfold pl_M_check_1
  exact
    okc (ok_aload_n (k := 0) (by decide +kernel) rfl rfl) (
    okc (ok_getI (k := 35) (idx := 272) cX9_ok (by decide) (by decide +kernel) w_1026 (by decide +kernel) rfl) (
    okc (ok_istore_n (k := 2) (by decide +kernel) rfl rfl) (
    okc (ok_aload_n (k := 0) (by decide +kernel) rfl rfl) (
    okc (ok_iconst (n := 0) (by decide +kernel) rfl rfl) (
    okc (ok_putI (k := 35) (idx := 272) cX9_ok (by decide) rfl rfl w_1026 (by decide +kernel) rfl) (
    okc (ok_iload_n (k := 1) (by decide +kernel) rfl rfl) (
    okc (ok_iconst (n := 1) (by decide +kernel) rfl rfl) (
    okc (ok_bipush (n := 30) (by decide +kernel) (by decide +kernel) rfl) (
    okc (ok_callS (SPf_ok _ _ _ _ _ _) (mi := 97) (n := 3) (idx := 84) rfl m_M_in (by decide) w_1106 w_1107 (by decide +kernel) rfl) (
    okc (ok_if_ne (off := 6) (by decide +kernel) rfl rfl) (
    okc (ok_ldc (i := 100) w_1112 (by decide +kernel) rfl) (
    okc (ok_iret rfl (by decide +kernel)) (
    okc (ok_aload_n (k := 0) (by decide +kernel) rfl rfl) (
    okc (ok_getI (k := 3) (idx := 275) cX9_ok (by decide) (by decide +kernel) w_994 (by decide +kernel) rfl) (
    okc (ok_if_ne (off := 6) (by decide +kernel) rfl rfl) (
    okc (ok_ldc (i := 140) w_1188 (by decide +kernel) rfl) (
    okc (ok_iret rfl (by decide +kernel)) (
    okc (ok_aload_n (k := 0) (by decide +kernel) rfl rfl) (
    okc (ok_getR (k := 0) (idx := 9) cX9_ok (by decide) (by decide +kernel) w_991 (by decide +kernel) rfl) (
    okc (ok_aload_n (k := 0) (by decide +kernel) rfl rfl) (
    okc (ok_getR (k := 2) (idx := 16) cX9_ok (by decide) (by decide +kernel) w_993 (by decide +kernel) rfl) (
    okc (ok_callS (SPf_ok _ _ _ _ _ _) (mi := 171) (n := 2) (idx := 279) rfl m_M_copyAll (by decide) w_1439 w_1440 (by decide +kernel) rfl) (
    okc (ok_aload_n (k := 0) (by decide +kernel) rfl rfl) (
    okc (ok_getR (k := 1) (idx := 13) cX9_ok (by decide) (by decide +kernel) w_992 (by decide +kernel) rfl) (
    okc (ok_aload_n (k := 0) (by decide +kernel) rfl rfl) (
    okc (ok_getR (k := 0) (idx := 9) cX9_ok (by decide) (by decide +kernel) w_991 (by decide +kernel) rfl) (
    okc (ok_callS (SPf_ok _ _ _ _ _ _) (mi := 171) (n := 2) (idx := 279) rfl m_M_copyAll (by decide) w_1439 w_1440 (by decide +kernel) rfl) (
    okc (ok_iconst (n := 2) (by decide +kernel) rfl rfl) (
    okc (ok_sipush (n := 9999) (by decide +kernel) (by decide +kernel) rfl) (
    okc (ok_aload_n (k := 0) (by decide +kernel) rfl rfl) (
    okc (ok_getR (k := 0) (idx := 9) cX9_ok (by decide) (by decide +kernel) w_991 (by decide +kernel) rfl) (
    okc (ok_iconst (n := 2) (by decide +kernel) rfl rfl) (
    okc (ok_iald (by decide +kernel) rfl) (
    okc (ok_isub (by decide +kernel) rfl) (
    okc (ok_iconst (n := 0) (by decide +kernel) rfl rfl) (
    okc (ok_iload_n (k := 1) (by decide +kernel) rfl rfl) (
    okc (ok_callS (SPf_ok _ _ _ _ _ _) (mi := 120) (n := 3) (idx := 113) rfl m_M_within (by decide) w_1149 w_1150 (by decide +kernel) rfl) (
    okc (ok_imul (by decide +kernel) rfl) (
    okc (ok_istore_n (k := 3) (by decide +kernel) rfl rfl) (
    okc (ok_iconst (n := 0) (by decide +kernel) rfl rfl) (
    okc (ok_istore (by decide +kernel) rfl) (
    okc (ok_iconst (n := 0) (by decide +kernel) rfl rfl) (
    okc (ok_istore (by decide +kernel) rfl) (
    okc (ok_iconst (n := 2) (by decide +kernel) rfl rfl) (
    okc (ok_iload (by decide +kernel) rfl) (
    okc (ok_imul (by decide +kernel) rfl) (
    okc (ok_iload_n (k := 3) (by decide +kernel) rfl rfl) (
    okc (ok_cmp_ge (off := 96) (by decide +kernel) rfl rfl) (
    okc (ok_iload (by decide +kernel) rfl) (
    okc (ok_iconst (n := 2) (by decide +kernel) rfl rfl) (
    okc (ok_iload (by decide +kernel) rfl) (
    okc (ok_imul (by decide +kernel) rfl) (
    okc (ok_cmp_ne (off := 87) (by decide +kernel) rfl rfl) (
    okc (ok_aload_n (k := 0) (by decide +kernel) rfl rfl) (
    okc (ok_callV (SPf_ok _ _ _ _ _ _) (mi := 131) (n := 0) (idx := 162) rfl m_M_hour (by decide) cX9_ok w_1222 w_1224 w_34 (by decide +kernel) rfl) (
    okc (ok_iload (by decide +kernel) rfl) (
    okc (ok_iload (by decide +kernel) rfl) (
    okc (ok_iload_n (k := 2) (by decide +kernel) rfl rfl) (
    okc (ok_cmp_ge (off := 23) (by decide +kernel) rfl rfl) ( okn))))))))))))))))))))))))))))))))))))))))))))))))))))))))))))
def pl_M_check_2 : List (Nat × mA) := [(108, a_aload 0 109), (109, a_getR 9 36 34 112), (112, a_iload 4 114), (114, a_ald 0 115), (115, a_aload 0 116), (116, a_getR 9 36 0 119), (119, a_push 4 120), (120, a_ald 0 121), (121, a_cmp (fun x y => decide (x ≠ y)) 128 124), (124, a_push 1 125), (125, a_goto 129), (128, a_push 0 129), (129, a_bin (fun x y => x + y) 130), (130, a_istore 4 132), (132, a_iload 4 134), (134, a_iload 4 136), (136, a_push 2 137), (137, a_iload 5 139), (139, a_bin (fun x y => x * y) 140), (140, a_push 1 141), (141, a_bin (fun x y => x + y) 142), (142, a_cmp (fun x y => decide (x ≠ y)) 170 145), (145, a_iload 4 147), (147, a_iload 2 148), (148, a_cmp (fun x y => decide (y ≤ x)) 170 151), (151, a_aload 0 152), (152, a_getR 9 36 34 155), (155, a_iload 4 157), (157, a_ald 0 158), (158, a_aload 0 159), (159, a_push 4 160), (160, a_callO 9 36 125 1 163), (163, a_cmp (fun x y => decide (x ≠ y)) 170 166), (166, a_push 1 167), (167, a_goto 171), (170, a_push 0 171), (171, a_bin (fun x y => x + y) 172), (172, a_istore 4 174), (174, a_iinc 5 1 177), (177, a_goto 79), (180, a_aload 0 181), (181, a_getR 9 36 2 184), (184, a_aload 0 185), (185, a_getR 9 36 0 188), (188, a_call 171 2 191), (191, a_iload 4 193), (193, a_iload 2 194), (194, a_cmp (fun x y => decide (x ≠ y)) 207 197), (197, a_iload 4 199), (199, a_iload 3 200), (200, a_cmp (fun x y => decide (x ≠ y)) 207 203), (203, a_push 0 204), (204, a_goto 211), (207, a_push 1 208), (208, a_iload 4 210), (210, a_bin (fun x y => x + y) 211), (211, a_iret)]
set_option maxRecDepth 20000 in
theorem ol_M_check_2 : okall B sp D cA (SPf B sp Ls xs adK adV) MT ⟨"WreckSkyModel", "check", "(I)I"⟩ prog_11_method_86_code 6 (Option.some Jvm.ClassFile.FieldType.int) (pl_M_check_2) := by
  unfold pl_M_check_2
  exact
    okc (ok_aload_n (k := 0) (by decide +kernel) rfl rfl) (
    okc (ok_getR (k := 34) (idx := 81) cX9_ok (by decide) (by decide +kernel) w_1025 (by decide +kernel) rfl) (
    okc (ok_iload (by decide +kernel) rfl) (
    okc (ok_iald (by decide +kernel) rfl) (
    okc (ok_aload_n (k := 0) (by decide +kernel) rfl rfl) (
    okc (ok_getR (k := 0) (idx := 9) cX9_ok (by decide) (by decide +kernel) w_991 (by decide +kernel) rfl) (
    okc (ok_iconst (n := 4) (by decide +kernel) rfl rfl) (
    okc (ok_iald (by decide +kernel) rfl) (
    okc (ok_cmp_ne (off := 7) (by decide +kernel) rfl rfl) (
    okc (ok_iconst (n := 1) (by decide +kernel) rfl rfl) (
    okc (ok_goto (off := 4) (by decide +kernel) rfl) (
    okc (ok_iconst (n := 0) (by decide +kernel) rfl rfl) (
    okc (ok_iadd (by decide +kernel) rfl) (
    okc (ok_istore (by decide +kernel) rfl) (
    okc (ok_iload (by decide +kernel) rfl) (
    okc (ok_iload (by decide +kernel) rfl) (
    okc (ok_iconst (n := 2) (by decide +kernel) rfl rfl) (
    okc (ok_iload (by decide +kernel) rfl) (
    okc (ok_imul (by decide +kernel) rfl) (
    okc (ok_iconst (n := 1) (by decide +kernel) rfl rfl) (
    okc (ok_iadd (by decide +kernel) rfl) (
    okc (ok_cmp_ne (off := 28) (by decide +kernel) rfl rfl) (
    okc (ok_iload (by decide +kernel) rfl) (
    okc (ok_iload_n (k := 2) (by decide +kernel) rfl rfl) (
    okc (ok_cmp_ge (off := 22) (by decide +kernel) rfl rfl) (
    okc (ok_aload_n (k := 0) (by decide +kernel) rfl rfl) (
    okc (ok_getR (k := 34) (idx := 81) cX9_ok (by decide) (by decide +kernel) w_1025 (by decide +kernel) rfl) (
    okc (ok_iload (by decide +kernel) rfl) (
    okc (ok_iald (by decide +kernel) rfl) (
    okc (ok_aload_n (k := 0) (by decide +kernel) rfl rfl) (
    okc (ok_iconst (n := 4) (by decide +kernel) rfl rfl) (
    okc (ok_callV (SPf_ok _ _ _ _ _ _) (mi := 125) (n := 1) (idx := 168) rfl m_M_ups (by decide) cX9_ok w_1245 w_1247 w_38 (by decide +kernel) rfl) (
    okc (ok_cmp_ne (off := 7) (by decide +kernel) rfl rfl) (
    okc (ok_iconst (n := 1) (by decide +kernel) rfl rfl) (
    okc (ok_goto (off := 4) (by decide +kernel) rfl) (
    okc (ok_iconst (n := 0) (by decide +kernel) rfl rfl) (
    okc (ok_iadd (by decide +kernel) rfl) (
    okc (ok_istore (by decide +kernel) rfl) (
    okc (ok_iinc (n := 1) (by decide +kernel) rfl rfl) (
    okc (ok_goto (off := -98) (by decide +kernel) rfl) (
    okc (ok_aload_n (k := 0) (by decide +kernel) rfl rfl) (
    okc (ok_getR (k := 2) (idx := 16) cX9_ok (by decide) (by decide +kernel) w_993 (by decide +kernel) rfl) (
    okc (ok_aload_n (k := 0) (by decide +kernel) rfl rfl) (
    okc (ok_getR (k := 0) (idx := 9) cX9_ok (by decide) (by decide +kernel) w_991 (by decide +kernel) rfl) (
    okc (ok_callS (SPf_ok _ _ _ _ _ _) (mi := 171) (n := 2) (idx := 279) rfl m_M_copyAll (by decide) w_1439 w_1440 (by decide +kernel) rfl) (
    okc (ok_iload (by decide +kernel) rfl) (
    okc (ok_iload_n (k := 2) (by decide +kernel) rfl rfl) (
    okc (ok_cmp_ne (off := 13) (by decide +kernel) rfl rfl) (
    okc (ok_iload (by decide +kernel) rfl) (
    okc (ok_iload_n (k := 3) (by decide +kernel) rfl rfl) (
    okc (ok_cmp_ne (off := 7) (by decide +kernel) rfl rfl) (
    okc (ok_iconst (n := 0) (by decide +kernel) rfl rfl) (
    okc (ok_goto (off := 7) (by decide +kernel) rfl) (
    okc (ok_iconst (n := 1) (by decide +kernel) rfl rfl) (
    okc (ok_iload (by decide +kernel) rfl) (
    okc (ok_iadd (by decide +kernel) rfl) (
    okc (ok_iret rfl (by decide +kernel)) ( okn)))))))))))))))))))))))))))))))))))))))))))))))))))))))))
def pl_M_check : List (Nat × mA) := pl_M_check_1 ++ (pl_M_check_2)
theorem ol_M_check : okall B sp D cA (SPf B sp Ls xs adK adV) MT ⟨"WreckSkyModel", "check", "(I)I"⟩ prog_11_method_86_code 6 (Option.some Jvm.ClassFile.FieldType.int) (pl_M_check) := oka ol_M_check_1 (ol_M_check_2)
def pl_W_keep : List (Nat × mA) := [(0, a_aload 0 1), (1, a_getR 8 10 1 4), (4, a_aload 0 5), (5, a_getR 8 10 0 8), (8, a_callO 3 11 172 1 11), (11, a_aload 0 12), (12, a_push 1 13), (13, a_putZ 8 10 9 16), (16, a_aload 0 17), (17, a_getR 8 10 1 20), (20, a_getI 3 11 3 23), (23, a_iret)]
set_option maxRecDepth 20000 in
theorem ol_W_keep : okall B sp D cA (SPf B sp Ls xs adK adV) MT ⟨"WreckSky", "keep", "()I"⟩ prog_1_method_41_code 1 (Option.some Jvm.ClassFile.FieldType.int) (pl_W_keep) := by
  unfold pl_W_keep
  exact
    okc (ok_aload_n (k := 0) (by decide +kernel) rfl rfl) (
    okc (ok_getR (k := 1) (idx := 16) cX8_ok (by decide) (by decide +kernel) w_314 (by decide +kernel) rfl) (
    okc (ok_aload_n (k := 0) (by decide +kernel) rfl rfl) (
    okc (ok_getR (k := 0) (idx := 10) cX8_ok (by decide) (by decide +kernel) w_313 (by decide +kernel) rfl) (
    okc (ok_callV (SPf_ok _ _ _ _ _ _) (mi := 172) (n := 1) (idx := 342) rfl m_S_becomeAs (by decide) cX3_ok w_976 w_521 w_522 (by decide +kernel) rfl) (
    okc (ok_aload_n (k := 0) (by decide +kernel) rfl rfl) (
    okc (ok_iconst (n := 1) (by decide +kernel) rfl rfl) (
    okc (ok_putZ (k := 9) (idx := 62) cX8_ok (by decide) rfl rfl w_322 (by decide +kernel) rfl) (
    okc (ok_aload_n (k := 0) (by decide +kernel) rfl rfl) (
    okc (ok_getR (k := 1) (idx := 16) cX8_ok (by decide) (by decide +kernel) w_314 (by decide +kernel) rfl) (
    okc (ok_getI (k := 3) (idx := 84) cX3_ok (by decide) (by decide +kernel) w_142 (by decide +kernel) rfl) (
    okc (ok_iret rfl (by decide +kernel)) ( okn))))))))))))
def pl_M_keep : List (Nat × mA) := [(0, a_aload 0 1), (1, a_getR 9 36 0 4), (4, a_aload 0 5), (5, a_getR 9 36 1 8), (8, a_call 171 2 11), (11, a_aload 0 12), (12, a_push 1 13), (13, a_putZ 9 36 3 16), (16, a_aload 0 17), (17, a_getR 9 36 0 20), (20, a_push 1 21), (21, a_ald 0 22), (22, a_iret)]
set_option maxRecDepth 20000 in
theorem ol_M_keep : okall B sp D cA (SPf B sp Ls xs adK adV) MT ⟨"WreckSkyModel", "keep", "()I"⟩ prog_11_method_87_code 1 (Option.some Jvm.ClassFile.FieldType.int) (pl_M_keep) := by
  unfold pl_M_keep
  exact
    okc (ok_aload_n (k := 0) (by decide +kernel) rfl rfl) (
    okc (ok_getR (k := 0) (idx := 9) cX9_ok (by decide) (by decide +kernel) w_991 (by decide +kernel) rfl) (
    okc (ok_aload_n (k := 0) (by decide +kernel) rfl rfl) (
    okc (ok_getR (k := 1) (idx := 13) cX9_ok (by decide) (by decide +kernel) w_992 (by decide +kernel) rfl) (
    okc (ok_callS (SPf_ok _ _ _ _ _ _) (mi := 171) (n := 2) (idx := 279) rfl m_M_copyAll (by decide) w_1439 w_1440 (by decide +kernel) rfl) (
    okc (ok_aload_n (k := 0) (by decide +kernel) rfl rfl) (
    okc (ok_iconst (n := 1) (by decide +kernel) rfl rfl) (
    okc (ok_putZ (k := 3) (idx := 275) cX9_ok (by decide) rfl rfl w_994 (by decide +kernel) rfl) (
    okc (ok_aload_n (k := 0) (by decide +kernel) rfl rfl) (
    okc (ok_getR (k := 0) (idx := 9) cX9_ok (by decide) (by decide +kernel) w_991 (by decide +kernel) rfl) (
    okc (ok_iconst (n := 1) (by decide +kernel) rfl rfl) (
    okc (ok_iald (by decide +kernel) rfl) (
    okc (ok_iret rfl (by decide +kernel)) ( okn)))))))))))))
def pl_W_back : List (Nat × mA) := [(0, a_aload 0 1), (1, a_getI 8 10 9 4), (4, a_if (fun x => decide (x ≠ 0)) 10 7), (7, a_push (-1000000002) 9), (9, a_iret), (10, a_aload 0 11), (11, a_getR 8 10 0 14), (14, a_aload 0 15), (15, a_getR 8 10 1 18), (18, a_callO 3 11 172 1 21), (21, a_aload 0 22), (22, a_getR 8 10 0 25), (25, a_getI 3 11 3 28), (28, a_iret)]
set_option maxRecDepth 20000 in
theorem ol_W_back : okall B sp D cA (SPf B sp Ls xs adK adV) MT ⟨"WreckSky", "back", "()I"⟩ prog_1_method_42_code 1 (Option.some Jvm.ClassFile.FieldType.int) (pl_W_back) := by
  unfold pl_W_back
  exact
    okc (ok_aload_n (k := 0) (by decide +kernel) rfl rfl) (
    okc (ok_getI (k := 9) (idx := 62) cX8_ok (by decide) (by decide +kernel) w_322 (by decide +kernel) rfl) (
    okc (ok_if_ne (off := 6) (by decide +kernel) rfl rfl) (
    okc (ok_ldc (i := 142) w_439 (by decide +kernel) rfl) (
    okc (ok_iret rfl (by decide +kernel)) (
    okc (ok_aload_n (k := 0) (by decide +kernel) rfl rfl) (
    okc (ok_getR (k := 0) (idx := 10) cX8_ok (by decide) (by decide +kernel) w_313 (by decide +kernel) rfl) (
    okc (ok_aload_n (k := 0) (by decide +kernel) rfl rfl) (
    okc (ok_getR (k := 1) (idx := 16) cX8_ok (by decide) (by decide +kernel) w_314 (by decide +kernel) rfl) (
    okc (ok_callV (SPf_ok _ _ _ _ _ _) (mi := 172) (n := 1) (idx := 342) rfl m_S_becomeAs (by decide) cX3_ok w_976 w_521 w_522 (by decide +kernel) rfl) (
    okc (ok_aload_n (k := 0) (by decide +kernel) rfl rfl) (
    okc (ok_getR (k := 0) (idx := 10) cX8_ok (by decide) (by decide +kernel) w_313 (by decide +kernel) rfl) (
    okc (ok_getI (k := 3) (idx := 84) cX3_ok (by decide) (by decide +kernel) w_142 (by decide +kernel) rfl) (
    okc (ok_iret rfl (by decide +kernel)) ( okn))))))))))))))
def pl_M_back : List (Nat × mA) := [(0, a_aload 0 1), (1, a_getI 9 36 3 4), (4, a_if (fun x => decide (x ≠ 0)) 10 7), (7, a_push (-1000000002) 9), (9, a_iret), (10, a_aload 0 11), (11, a_getR 9 36 1 14), (14, a_aload 0 15), (15, a_getR 9 36 0 18), (18, a_call 171 2 21), (21, a_aload 0 22), (22, a_getR 9 36 0 25), (25, a_push 1 26), (26, a_ald 0 27), (27, a_iret)]
set_option maxRecDepth 20000 in
theorem ol_M_back : okall B sp D cA (SPf B sp Ls xs adK adV) MT ⟨"WreckSkyModel", "back", "()I"⟩ prog_11_method_88_code 1 (Option.some Jvm.ClassFile.FieldType.int) (pl_M_back) := by
  unfold pl_M_back
  exact
    okc (ok_aload_n (k := 0) (by decide +kernel) rfl rfl) (
    okc (ok_getI (k := 3) (idx := 275) cX9_ok (by decide) (by decide +kernel) w_994 (by decide +kernel) rfl) (
    okc (ok_if_ne (off := 6) (by decide +kernel) rfl rfl) (
    okc (ok_ldc (i := 140) w_1188 (by decide +kernel) rfl) (
    okc (ok_iret rfl (by decide +kernel)) (
    okc (ok_aload_n (k := 0) (by decide +kernel) rfl rfl) (
    okc (ok_getR (k := 1) (idx := 13) cX9_ok (by decide) (by decide +kernel) w_992 (by decide +kernel) rfl) (
    okc (ok_aload_n (k := 0) (by decide +kernel) rfl rfl) (
    okc (ok_getR (k := 0) (idx := 9) cX9_ok (by decide) (by decide +kernel) w_991 (by decide +kernel) rfl) (
    okc (ok_callS (SPf_ok _ _ _ _ _ _) (mi := 171) (n := 2) (idx := 279) rfl m_M_copyAll (by decide) w_1439 w_1440 (by decide +kernel) rfl) (
    okc (ok_aload_n (k := 0) (by decide +kernel) rfl rfl) (
    okc (ok_getR (k := 0) (idx := 9) cX9_ok (by decide) (by decide +kernel) w_991 (by decide +kernel) rfl) (
    okc (ok_iconst (n := 1) (by decide +kernel) rfl rfl) (
    okc (ok_iald (by decide +kernel) rfl) (
    okc (ok_iret rfl (by decide +kernel)) ( okn)))))))))))))))
def pl_W_count : List (Nat × mA) := [(0, a_iload 1 1), (1, a_sw (t_sw 0 [48, 56, 64, 72, 83, 91, 96, 104] 112)), (48, a_aload 0 49), (49, a_getR 8 10 0 52), (52, a_getI 3 11 3 55), (55, a_iret), (56, a_aload 0 57), (57, a_getR 8 10 0 60), (60, a_getI 3 11 9 63), (63, a_iret), (64, a_aload 0 65), (65, a_getR 8 10 0 68), (68, a_getI 3 11 5 71), (71, a_iret), (72, a_aload 0 73), (73, a_getR 8 10 0 76), (76, a_callO 3 11 122 0 79), (79, a_call 127 1 82), (82, a_iret), (83, a_aload 0 84), (84, a_getR 8 10 0 87), (87, a_getI 3 11 4 90), (90, a_iret), (91, a_aload 0 92), (92, a_getI 8 10 8 95), (95, a_iret), (96, a_aload 0 97), (97, a_getR 8 10 3 100), (100, a_getI 5 2 1 103), (103, a_iret), (104, a_aload 0 105), (105, a_getR 8 10 0 108), (108, a_getI 3 11 10 111), (111, a_iret), (112, a_push (-1000000001) 114), (114, a_iret)]
set_option maxRecDepth 20000 in
theorem ol_W_count : okall B sp D cA (SPf B sp Ls xs adK adV) MT ⟨"WreckSky", "count", "(I)I"⟩ prog_1_method_43_code 2 (Option.some Jvm.ClassFile.FieldType.int) (pl_W_count) := by
  unfold pl_W_count
  exact
    okc (ok_iload_n (k := 1) (by decide +kernel) rfl rfl) (
    okc (ok_tab (dflt := 111) (lo := 0) (hi := 7) (offs := #[47, 55, 63, 71, 82, 90, 95, 103]) (len := 47) (by decide +kernel) rfl rfl rfl) (
    okc (ok_aload_n (k := 0) (by decide +kernel) rfl rfl) (
    okc (ok_getR (k := 0) (idx := 10) cX8_ok (by decide) (by decide +kernel) w_313 (by decide +kernel) rfl) (
    okc (ok_getI (k := 3) (idx := 84) cX3_ok (by decide) (by decide +kernel) w_142 (by decide +kernel) rfl) (
    okc (ok_iret rfl (by decide +kernel)) (
    okc (ok_aload_n (k := 0) (by decide +kernel) rfl rfl) (
    okc (ok_getR (k := 0) (idx := 10) cX8_ok (by decide) (by decide +kernel) w_313 (by decide +kernel) rfl) (
    okc (ok_getI (k := 9) (idx := 119) cX3_ok (by decide) (by decide +kernel) w_156 (by decide +kernel) rfl) (
    okc (ok_iret rfl (by decide +kernel)) (
    okc (ok_aload_n (k := 0) (by decide +kernel) rfl rfl) (
    okc (ok_getR (k := 0) (idx := 10) cX8_ok (by decide) (by decide +kernel) w_313 (by decide +kernel) rfl) (
    okc (ok_getI (k := 5) (idx := 146) cX3_ok (by decide) (by decide +kernel) w_147 (by decide +kernel) rfl) (
    okc (ok_iret rfl (by decide +kernel)) (
    okc (ok_aload_n (k := 0) (by decide +kernel) rfl rfl) (
    okc (ok_getR (k := 0) (idx := 10) cX8_ok (by decide) (by decide +kernel) w_313 (by decide +kernel) rfl) (
    okc (ok_callV (SPf_ok _ _ _ _ _ _) (mi := 122) (n := 0) (idx := 170) rfl m_S_upSet (by decide) cX3_ok w_500 w_501 w_502 (by decide +kernel) rfl) (
    okc (ok_callS (SPf_ok _ _ _ _ _ _) (mi := 127) (n := 1) (idx := 183) rfl m_JInteger_bitCount (by decide) w_529 w_530 (by decide +kernel) rfl) (
    okc (ok_iret rfl (by decide +kernel)) (
    okc (ok_aload_n (k := 0) (by decide +kernel) rfl rfl) (
    okc (ok_getR (k := 0) (idx := 10) cX8_ok (by decide) (by decide +kernel) w_313 (by decide +kernel) rfl) (
    okc (ok_getI (k := 4) (idx := 265) cX3_ok (by decide) (by decide +kernel) w_145 (by decide +kernel) rfl) (
    okc (ok_iret rfl (by decide +kernel)) (
    okc (ok_aload_n (k := 0) (by decide +kernel) rfl rfl) (
    okc (ok_getI (k := 8) (idx := 58) cX8_ok (by decide) (by decide +kernel) w_321 (by decide +kernel) rfl) (
    okc (ok_iret rfl (by decide +kernel)) (
    okc (ok_aload_n (k := 0) (by decide +kernel) rfl rfl) (
    okc (ok_getR (k := 3) (idx := 29) cX8_ok (by decide) (by decide +kernel) w_316 (by decide +kernel) rfl) (
    okc (ok_getI (k := 1) (idx := 251) cX5_ok (by decide) (by decide +kernel) w_217 (by decide +kernel) rfl) (
    okc (ok_iret rfl (by decide +kernel)) (
    okc (ok_aload_n (k := 0) (by decide +kernel) rfl rfl) (
    okc (ok_getR (k := 0) (idx := 10) cX8_ok (by decide) (by decide +kernel) w_313 (by decide +kernel) rfl) (
    okc (ok_getI (k := 10) (idx := 157) cX3_ok (by decide) (by decide +kernel) w_158 (by decide +kernel) rfl) (
    okc (ok_iret rfl (by decide +kernel)) (
    okc (ok_ldc (i := 79) w_357 (by decide +kernel) rfl) (
    okc (ok_iret rfl (by decide +kernel)) ( okn))))))))))))))))))))))))))))))))))))
def pl_M_count : List (Nat × mA) := [(0, a_iload 1 1), (1, a_sw (t_sw 0 [48, 55, 62, 69, 75, 83, 88, 93] 100)), (48, a_aload 0 49), (49, a_getR 9 36 0 52), (52, a_push 1 53), (53, a_ald 0 54), (54, a_iret), (55, a_aload 0 56), (56, a_getR 9 36 0 59), (59, a_push 2 60), (60, a_ald 0 61), (61, a_iret), (62, a_aload 0 63), (63, a_getR 9 36 0 66), (66, a_push 3 67), (67, a_ald 0 68), (68, a_iret), (69, a_aload 0 70), (70, a_push 0 71), (71, a_callO 9 36 125 1 74), (74, a_iret), (75, a_aload 0 76), (76, a_getR 9 36 0 79), (79, a_push 7 81), (81, a_ald 0 82), (82, a_iret), (83, a_aload 0 84), (84, a_getI 9 36 35 87), (87, a_iret), (88, a_aload 0 89), (89, a_getI 9 36 9 92), (92, a_iret), (93, a_aload 0 94), (94, a_getR 9 36 0 97), (97, a_push 0 98), (98, a_ald 0 99), (99, a_iret), (100, a_push (-1000000001) 102), (102, a_iret)]
set_option maxRecDepth 20000 in
theorem ol_M_count : okall B sp D cA (SPf B sp Ls xs adK adV) MT ⟨"WreckSkyModel", "count", "(I)I"⟩ prog_11_method_89_code 2 (Option.some Jvm.ClassFile.FieldType.int) (pl_M_count) := by
  unfold pl_M_count
  exact
    okc (ok_iload_n (k := 1) (by decide +kernel) rfl rfl) (
    okc (ok_tab (dflt := 99) (lo := 0) (hi := 7) (offs := #[47, 54, 61, 68, 74, 82, 87, 92]) (len := 47) (by decide +kernel) rfl rfl rfl) (
    okc (ok_aload_n (k := 0) (by decide +kernel) rfl rfl) (
    okc (ok_getR (k := 0) (idx := 9) cX9_ok (by decide) (by decide +kernel) w_991 (by decide +kernel) rfl) (
    okc (ok_iconst (n := 1) (by decide +kernel) rfl rfl) (
    okc (ok_iald (by decide +kernel) rfl) (
    okc (ok_iret rfl (by decide +kernel)) (
    okc (ok_aload_n (k := 0) (by decide +kernel) rfl rfl) (
    okc (ok_getR (k := 0) (idx := 9) cX9_ok (by decide) (by decide +kernel) w_991 (by decide +kernel) rfl) (
    okc (ok_iconst (n := 2) (by decide +kernel) rfl rfl) (
    okc (ok_iald (by decide +kernel) rfl) (
    okc (ok_iret rfl (by decide +kernel)) (
    okc (ok_aload_n (k := 0) (by decide +kernel) rfl rfl) (
    okc (ok_getR (k := 0) (idx := 9) cX9_ok (by decide) (by decide +kernel) w_991 (by decide +kernel) rfl) (
    okc (ok_iconst (n := 3) (by decide +kernel) rfl rfl) (
    okc (ok_iald (by decide +kernel) rfl) (
    okc (ok_iret rfl (by decide +kernel)) (
    okc (ok_aload_n (k := 0) (by decide +kernel) rfl rfl) (
    okc (ok_iconst (n := 0) (by decide +kernel) rfl rfl) (
    okc (ok_callV (SPf_ok _ _ _ _ _ _) (mi := 125) (n := 1) (idx := 168) rfl m_M_ups (by decide) cX9_ok w_1245 w_1247 w_38 (by decide +kernel) rfl) (
    okc (ok_iret rfl (by decide +kernel)) (
    okc (ok_aload_n (k := 0) (by decide +kernel) rfl rfl) (
    okc (ok_getR (k := 0) (idx := 9) cX9_ok (by decide) (by decide +kernel) w_991 (by decide +kernel) rfl) (
    okc (ok_bipush (n := 7) (by decide +kernel) (by decide +kernel) rfl) (
    okc (ok_iald (by decide +kernel) rfl) (
    okc (ok_iret rfl (by decide +kernel)) (
    okc (ok_aload_n (k := 0) (by decide +kernel) rfl rfl) (
    okc (ok_getI (k := 35) (idx := 272) cX9_ok (by decide) (by decide +kernel) w_1026 (by decide +kernel) rfl) (
    okc (ok_iret rfl (by decide +kernel)) (
    okc (ok_aload_n (k := 0) (by decide +kernel) rfl rfl) (
    okc (ok_getI (k := 9) (idx := 197) cX9_ok (by decide) (by decide +kernel) w_1000 (by decide +kernel) rfl) (
    okc (ok_iret rfl (by decide +kernel)) (
    okc (ok_aload_n (k := 0) (by decide +kernel) rfl rfl) (
    okc (ok_getR (k := 0) (idx := 9) cX9_ok (by decide) (by decide +kernel) w_991 (by decide +kernel) rfl) (
    okc (ok_iconst (n := 0) (by decide +kernel) rfl rfl) (
    okc (ok_iald (by decide +kernel) rfl) (
    okc (ok_iret rfl (by decide +kernel)) (
    okc (ok_ldc (i := 100) w_1112 (by decide +kernel) rfl) (
    okc (ok_iret rfl (by decide +kernel)) ( okn)))))))))))))))))))))))))))))))))))))))
def pl_S_init : List (Nat × mA) := [(0, a_aload 0 1), (1, a_obj 4), (4, a_aload 0 5), (5, a_push 14 7), (7, a_newa 4 10), (10, a_putR 3 11 0 13), (13, a_aload 0 14), (14, a_push 14 16), (16, a_newa 5 19), (19, a_putR 3 11 1 22), (22, a_aload 0 23), (23, a_push 96 25), (25, a_newa 0 27), (27, a_putR 3 11 2 30), (30, a_aload 0 31), (31, a_push 0 32), (32, a_putI 3 11 3 35), (35, a_aload 0 36), (36, a_push 0 37), (37, a_putI 3 11 4 40), (40, a_aload 0 41), (41, a_push 0 42), (42, a_putI 3 11 5 45), (45, a_aload 0 46), (46, a_push 0 47), (47, a_putI 3 11 6 50), (50, a_aload 0 51), (51, a_push 0 52), (52, a_putI 3 11 7 55), (55, a_aload 0 56), (56, a_push 0 57), (57, a_putI 3 11 8 60), (60, a_aload 0 61), (61, a_push 0 62), (62, a_putI 3 11 9 65), (65, a_aload 0 66), (66, a_push 1 67), (67, a_putI 3 11 10 70), (70, a_push 0 71), (71, a_istore 1 72), (72, a_iload 1 73), (73, a_push 14 75), (75, a_cmp (fun x y => decide (y ≤ x)) 97 78), (78, a_aload 0 79), (79, a_getR 3 11 0 82), (82, a_iload 1 83), (83, a_new 7 6 86), (86, a_dup 87), (87, a_callO 7 6 173 0 90), (90, a_aast 4 7 6 91), (91, a_iinc 1 1 94), (94, a_goto 72), (97, a_ret)]
set_option maxRecDepth 20000 in
theorem ol_S_init : okall B sp D cA (SPf B sp Ls xs adK adV) MT ⟨"WreckSky$Sky", "<init>", "()V"⟩ prog_5_method_1_code 2 (Option.none : Option Jvm.ClassFile.FieldType) (pl_S_init) := by
  unfold pl_S_init
  exact
    okc (ok_aload_n (k := 0) (by decide +kernel) rfl rfl) (
    okc (ok_obj (idx := 3) w_88 w_81 w_obj (by decide +kernel) rfl) (
    okc (ok_aload_n (k := 0) (by decide +kernel) rfl rfl) (
    okc (ok_bipush (n := 14) (by decide +kernel) (by decide +kernel) rfl) (
    okc (ok_anew (idx := 9) (C := "WreckSky$Wreck") (by decide) (fun _ => rfl) w_89 (fun _ h => h.2.2.2.2.2.2.2.2.2.2.2.1) (by decide +kernel) rfl) (
    okc (ok_putRF (k := 0) (idx := 11) cX3_ok (by decide) (by decide +kernel) rfl rfl rfl w_134 (by decide +kernel) rfl) (
    okc (ok_aload_n (k := 0) (by decide +kernel) rfl rfl) (
    okc (ok_bipush (n := 14) (by decide +kernel) (by decide +kernel) rfl) (
    okc (ok_anew (idx := 17) (C := "WreckSky$Text") (by decide) (fun _ => rfl) w_91 (fun _ h => h.2.2.2.2.2.2.2.2.2.2.2.2.1) (by decide +kernel) rfl) (
    okc (ok_putRF (k := 1) (idx := 19) cX3_ok (by decide) (by decide +kernel) rfl rfl rfl w_137 (by decide +kernel) rfl) (
    okc (ok_aload_n (k := 0) (by decide +kernel) rfl rfl) (
    okc (ok_bipush (n := 96) (by decide +kernel) (by decide +kernel) rfl) (
    okc (ok_newa (t := 0) (atype := .int) (ty := .int) (by decide) rfl (fun _ => rfl) (fun _ _ => rfl) rfl (by decide) w_133 (by decide +kernel) rfl) (
    okc (ok_putRF (k := 2) (idx := 23) cX3_ok (by decide) (by decide +kernel) rfl rfl rfl w_139 (by decide +kernel) rfl) (
    okc (ok_aload_n (k := 0) (by decide +kernel) rfl rfl) (
    okc (ok_iconst (n := 0) (by decide +kernel) rfl rfl) (
    okc (ok_putI (k := 3) (idx := 27) cX3_ok (by decide) rfl rfl w_141 (by decide +kernel) rfl) (
    okc (ok_aload_n (k := 0) (by decide +kernel) rfl rfl) (
    okc (ok_iconst (n := 0) (by decide +kernel) rfl rfl) (
    okc (ok_putI (k := 4) (idx := 31) cX3_ok (by decide) rfl rfl w_144 (by decide +kernel) rfl) (
    okc (ok_aload_n (k := 0) (by decide +kernel) rfl rfl) (
    okc (ok_iconst (n := 0) (by decide +kernel) rfl rfl) (
    okc (ok_putI (k := 5) (idx := 34) cX3_ok (by decide) rfl rfl w_146 (by decide +kernel) rfl) (
    okc (ok_aload_n (k := 0) (by decide +kernel) rfl rfl) (
    okc (ok_iconst (n := 0) (by decide +kernel) rfl rfl) (
    okc (ok_putI (k := 6) (idx := 37) cX3_ok (by decide) rfl rfl w_148 (by decide +kernel) rfl) (
    okc (ok_aload_n (k := 0) (by decide +kernel) rfl rfl) (
    okc (ok_iconst (n := 0) (by decide +kernel) rfl rfl) (
    okc (ok_putI (k := 7) (idx := 40) cX3_ok (by decide) rfl rfl w_151 (by decide +kernel) rfl) (
    okc (ok_aload_n (k := 0) (by decide +kernel) rfl rfl) (
    okc (ok_iconst (n := 0) (by decide +kernel) rfl rfl) (
    okc (ok_putI (k := 8) (idx := 43) cX3_ok (by decide) rfl rfl w_153 (by decide +kernel) rfl) (
    okc (ok_aload_n (k := 0) (by decide +kernel) rfl rfl) (
    okc (ok_iconst (n := 0) (by decide +kernel) rfl rfl) (
    okc (ok_putI (k := 9) (idx := 46) cX3_ok (by decide) rfl rfl w_155 (by decide +kernel) rfl) (
    okc (ok_aload_n (k := 0) (by decide +kernel) rfl rfl) (
    okc (ok_iconst (n := 1) (by decide +kernel) rfl rfl) (
    okc (ok_putI (k := 10) (idx := 49) cX3_ok (by decide) rfl rfl w_157 (by decide +kernel) rfl) (
    okc (ok_iconst (n := 0) (by decide +kernel) rfl rfl) (
    okc (ok_istore_n (k := 1) (by decide +kernel) rfl rfl) (
    okc (ok_iload_n (k := 1) (by decide +kernel) rfl rfl) (
    okc (ok_bipush (n := 14) (by decide +kernel) (by decide +kernel) rfl) (
    okc (ok_cmp_ge (off := 22) (by decide +kernel) rfl rfl) (
    okc (ok_aload_n (k := 0) (by decide +kernel) rfl rfl) (
    okc (ok_getR (k := 0) (idx := 11) cX3_ok (by decide) (by decide +kernel) w_134 (by decide +kernel) rfl) (
    okc (ok_iload_n (k := 1) (by decide +kernel) rfl rfl) (
    okc (ok_new (idx := 9) cX7_ok dX7_ok w_89 w_93 w_58 (by decide +kernel) rfl) (
    okc (ok_dup (by decide +kernel) rfl) (
    okc (ok_callI (SPf_ok _ _ _ _ _ _) (mi := 173) (n := 0) (idx := 52) rfl m_K_init (by decide) rfl w_94 w_95 (by decide +kernel) rfl) (
    okc (ok_aast (by decide) (fun _ => rfl) cX7_ok (by decide +kernel) rfl) (
    okc (ok_iinc (n := 1) (by decide +kernel) rfl rfl) (
    okc (ok_goto (off := -22) (by decide +kernel) rfl) (
    okc (ok_ret rfl (by decide +kernel)) ( okn)))))))))))))))))))))))))))))))))))))))))))))))))))))
def pl_F_init : List (Nat × mA) := [(0, a_aload 0 1), (1, a_obj 4), (4, a_aload 0 5), (5, a_new 3 11 8), (8, a_dup 9), (9, a_callO 3 11 87 0 12), (12, a_putR 0 5 0 15), (15, a_aload 0 16), (16, a_push 61 18), (18, a_newa 0 20), (20, a_putR 0 5 1 23), (23, a_aload 0 24), (24, a_push 30 26), (26, a_newa 0 28), (28, a_putR 0 5 2 31), (31, a_aload 0 32), (32, a_push (-1000000005) 34), (34, a_putI 0 5 3 37), (37, a_aload 0 38), (38, a_push (-1000000005) 40), (40, a_putI 0 5 4 43), (43, a_ret)]
set_option maxRecDepth 20000 in
theorem ol_F_init : okall B sp D cA (SPf B sp Ls xs adK adV) MT ⟨"WreckSky$Foresight", "<init>", "()V"⟩ prog_2_method_1_code 1 (Option.none : Option Jvm.ClassFile.FieldType) (pl_F_init) := by
  unfold pl_F_init
  exact
    okc (ok_aload_n (k := 0) (by decide +kernel) rfl rfl) (
    okc (ok_obj (idx := 3) w_187 w_81 w_obj (by decide +kernel) rfl) (
    okc (ok_aload_n (k := 0) (by decide +kernel) rfl rfl) (
    okc (ok_new (idx := 9) cX3_ok dX3_ok w_188 w_84 w_57 (by decide +kernel) rfl) (
    okc (ok_dup (by decide +kernel) rfl) (
    okc (ok_callI (SPf_ok _ _ _ _ _ _) (mi := 87) (n := 0) (idx := 11) rfl m_S_init (by decide) rfl w_189 w_86 (by decide +kernel) rfl) (
    okc (ok_putRF (k := 0) (idx := 12) cX0_ok (by decide) (by decide +kernel) rfl rfl rfl w_191 (by decide +kernel) rfl) (
    okc (ok_aload_n (k := 0) (by decide +kernel) rfl rfl) (
    okc (ok_bipush (n := 61) (by decide +kernel) (by decide +kernel) rfl) (
    okc (ok_newa (t := 0) (atype := .int) (ty := .int) (by decide) rfl (fun _ => rfl) (fun _ _ => rfl) rfl (by decide) w_133 (by decide +kernel) rfl) (
    okc (ok_putRF (k := 1) (idx := 18) cX0_ok (by decide) (by decide +kernel) rfl rfl rfl w_192 (by decide +kernel) rfl) (
    okc (ok_aload_n (k := 0) (by decide +kernel) rfl rfl) (
    okc (ok_bipush (n := 30) (by decide +kernel) (by decide +kernel) rfl) (
    okc (ok_newa (t := 0) (atype := .int) (ty := .int) (by decide) rfl (fun _ => rfl) (fun _ _ => rfl) rfl (by decide) w_133 (by decide +kernel) rfl) (
    okc (ok_putRF (k := 2) (idx := 22) cX0_ok (by decide) (by decide +kernel) rfl rfl rfl w_193 (by decide +kernel) rfl) (
    okc (ok_aload_n (k := 0) (by decide +kernel) rfl rfl) (
    okc (ok_ldc (i := 25) w_190 (by decide +kernel) rfl) (
    okc (ok_putI (k := 3) (idx := 26) cX0_ok (by decide) rfl rfl w_194 (by decide +kernel) rfl) (
    okc (ok_aload_n (k := 0) (by decide +kernel) rfl rfl) (
    okc (ok_ldc (i := 25) w_190 (by decide +kernel) rfl) (
    okc (ok_putI (k := 4) (idx := 30) cX0_ok (by decide) rfl rfl w_195 (by decide +kernel) rfl) (
    okc (ok_ret rfl (by decide +kernel)) ( okn))))))))))))))))))))))
def pl_T_init : List (Nat × mA) := [(0, a_aload 0 1), (1, a_obj 4), (4, a_aload 0 5), (5, a_push 96 7), (7, a_newa 0 9), (9, a_putR 5 2 0 12), (12, a_aload 0 13), (13, a_push 0 14), (14, a_putI 5 2 1 17), (17, a_ret)]
set_option maxRecDepth 20000 in
theorem ol_T_init : okall B sp D cA (SPf B sp Ls xs adK adV) MT ⟨"WreckSky$Tape", "<init>", "()V"⟩ prog_7_method_1_code 1 (Option.none : Option Jvm.ClassFile.FieldType) (pl_T_init) := by
  unfold pl_T_init
  exact
    okc (ok_aload_n (k := 0) (by decide +kernel) rfl rfl) (
    okc (ok_obj (idx := 3) w_212 w_81 w_obj (by decide +kernel) rfl) (
    okc (ok_aload_n (k := 0) (by decide +kernel) rfl rfl) (
    okc (ok_bipush (n := 96) (by decide +kernel) (by decide +kernel) rfl) (
    okc (ok_newa (t := 0) (atype := .int) (ty := .int) (by decide) rfl (fun _ => rfl) (fun _ _ => rfl) rfl (by decide) w_133 (by decide +kernel) rfl) (
    okc (ok_putRF (k := 0) (idx := 9) cX5_ok (by decide) (by decide +kernel) rfl rfl rfl w_213 (by decide +kernel) rfl) (
    okc (ok_aload_n (k := 0) (by decide +kernel) rfl rfl) (
    okc (ok_iconst (n := 0) (by decide +kernel) rfl rfl) (
    okc (ok_putI (k := 1) (idx := 15) cX5_ok (by decide) rfl rfl w_215 (by decide +kernel) rfl) (
    okc (ok_ret rfl (by decide +kernel)) ( okn))))))))))
def pl_R_init : List (Nat × mA) := [(0, a_aload 0 1), (1, a_obj 4), (4, a_aload 0 5), (5, a_push 96 7), (7, a_newa 0 9), (9, a_putR 1 10 1 12), (12, a_aload 0 13), (13, a_spec 10 15), (15, a_putR 1 10 4 18), (18, a_aload 0 19), (19, a_aload 1 20), (20, a_putR 1 10 0 23), (23, a_ret)]
set_option maxRecDepth 20000 in
theorem ol_R_init : okall B sp D cA (SPf B sp Ls xs adK adV) MT ⟨"WreckSky$Reader", "<init>", "(LWreckSky$Tape;)V"⟩ prog_3_method_1_code 2 (Option.none : Option Jvm.ClassFile.FieldType) (pl_R_init) := by
  unfold pl_R_init
  exact
    okc (ok_aload_n (k := 0) (by decide +kernel) rfl rfl) (
    okc (ok_obj (idx := 3) w_228 w_81 w_obj (by decide +kernel) rfl) (
    okc (ok_aload_n (k := 0) (by decide +kernel) rfl rfl) (
    okc (ok_bipush (n := 96) (by decide +kernel) (by decide +kernel) rfl) (
    okc (ok_newa (t := 0) (atype := .int) (ty := .int) (by decide) rfl (fun _ => rfl) (fun _ _ => rfl) rfl (by decide) w_133 (by decide +kernel) rfl) (
    okc (ok_putRF (k := 1) (idx := 9) cX1_ok (by decide) (by decide +kernel) rfl rfl rfl w_231 (by decide +kernel) rfl) (
    okc (ok_aload_n (k := 0) (by decide +kernel) rfl rfl) (
    okc (ok_str (i := 0) (k := 15) (by decide) (fun U h => h.2.2.2.2.2.1.1) (by decide +kernel) rfl) (
    okc (ok_putR (k := 4) (idx := 17) cX1_ok (by decide) (by decide +kernel) rfl w_234 (by decide +kernel) rfl) (
    okc (ok_aload_n (k := 0) (by decide +kernel) rfl rfl) (
    okc (ok_aload_n (k := 1) (by decide +kernel) rfl rfl) (
    okc (ok_putRF (k := 0) (idx := 21) cX1_ok (by decide) (by decide +kernel) rfl rfl rfl w_230 (by decide +kernel) rfl) (
    okc (ok_ret rfl (by decide +kernel)) ( okn)))))))))))))
def pl_H_init : List (Nat × mA) := [(0, a_aload 0 1), (1, a_obj 4), (4, a_aload 0 5), (5, a_push 24 7), (7, a_newa 0 9), (9, a_putR 2 3 0 12), (12, a_aload 0 13), (13, a_push (-1) 14), (14, a_putI 2 3 1 17), (17, a_aload 0 18), (18, a_push 0 19), (19, a_putI 2 3 2 22), (22, a_ret)]
set_option maxRecDepth 20000 in
theorem ol_H_init : okall B sp D cA (SPf B sp Ls xs adK adV) MT ⟨"WreckSky$Sheet", "<init>", "()V"⟩ prog_4_method_1_code 1 (Option.none : Option Jvm.ClassFile.FieldType) (pl_H_init) := by
  unfold pl_H_init
  exact
    okc (ok_aload_n (k := 0) (by decide +kernel) rfl rfl) (
    okc (ok_obj (idx := 3) w_271 w_81 w_obj (by decide +kernel) rfl) (
    okc (ok_aload_n (k := 0) (by decide +kernel) rfl rfl) (
    okc (ok_bipush (n := 24) (by decide +kernel) (by decide +kernel) rfl) (
    okc (ok_newa (t := 0) (atype := .int) (ty := .int) (by decide) rfl (fun _ => rfl) (fun _ _ => rfl) rfl (by decide) w_133 (by decide +kernel) rfl) (
    okc (ok_putRF (k := 0) (idx := 9) cX2_ok (by decide) (by decide +kernel) rfl rfl rfl w_272 (by decide +kernel) rfl) (
    okc (ok_aload_n (k := 0) (by decide +kernel) rfl rfl) (
    okc (ok_iconst (n := -1) (by decide +kernel) rfl rfl) (
    okc (ok_putI (k := 1) (idx := 15) cX2_ok (by decide) rfl rfl w_275 (by decide +kernel) rfl) (
    okc (ok_aload_n (k := 0) (by decide +kernel) rfl rfl) (
    okc (ok_iconst (n := 0) (by decide +kernel) rfl rfl) (
    okc (ok_putI (k := 2) (idx := 19) cX2_ok (by decide) rfl rfl w_277 (by decide +kernel) rfl) (
    okc (ok_ret rfl (by decide +kernel)) ( okn)))))))))))))
def pl_O_init : List (Nat × mA) := [(0, a_aload 0 1), (1, a_obj 4), (4, a_aload 0 5), (5, a_new 7 6 8), (8, a_dup 9), (9, a_callO 7 6 173 0 12), (12, a_putR 4 4 0 15), (15, a_aload 0 16), (16, a_new 2 3 19), (19, a_dup 20), (20, a_callO 2 3 91 0 23), (23, a_putR 4 4 1 26), (26, a_aload 0 27), (27, a_push 0 28), (28, a_putI 4 4 2 31), (31, a_aload 0 32), (32, a_push 0 33), (33, a_putI 4 4 3 36), (36, a_ret)]
set_option maxRecDepth 20000 in
theorem ol_O_init : okall B sp D cA (SPf B sp Ls xs adK adV) MT ⟨"WreckSky$Slot", "<init>", "()V"⟩ prog_6_method_1_code 1 (Option.none : Option Jvm.ClassFile.FieldType) (pl_O_init) := by
  unfold pl_O_init
  exact
    okc (ok_aload_n (k := 0) (by decide +kernel) rfl rfl) (
    okc (ok_obj (idx := 3) w_291 w_81 w_obj (by decide +kernel) rfl) (
    okc (ok_aload_n (k := 0) (by decide +kernel) rfl rfl) (
    okc (ok_new (idx := 9) cX7_ok dX7_ok w_292 w_93 w_58 (by decide +kernel) rfl) (
    okc (ok_dup (by decide +kernel) rfl) (
    okc (ok_callI (SPf_ok _ _ _ _ _ _) (mi := 173) (n := 0) (idx := 11) rfl m_K_init (by decide) rfl w_293 w_95 (by decide +kernel) rfl) (
    okc (ok_putRF (k := 0) (idx := 12) cX4_ok (by decide) (by decide +kernel) rfl rfl rfl w_296 (by decide +kernel) rfl) (
    okc (ok_aload_n (k := 0) (by decide +kernel) rfl rfl) (
    okc (ok_new (idx := 18) cX2_ok dX2_ok w_294 w_267 w_62 (by decide +kernel) rfl) (
    okc (ok_dup (by decide +kernel) rfl) (
    okc (ok_callI (SPf_ok _ _ _ _ _ _) (mi := 91) (n := 0) (idx := 20) rfl m_H_init (by decide) rfl w_295 w_269 (by decide +kernel) rfl) (
    okc (ok_putRF (k := 1) (idx := 21) cX4_ok (by decide) (by decide +kernel) rfl rfl rfl w_298 (by decide +kernel) rfl) (
    okc (ok_aload_n (k := 0) (by decide +kernel) rfl rfl) (
    okc (ok_iconst (n := 0) (by decide +kernel) rfl rfl) (
    okc (ok_putI (k := 2) (idx := 25) cX4_ok (by decide) rfl rfl w_300 (by decide +kernel) rfl) (
    okc (ok_aload_n (k := 0) (by decide +kernel) rfl rfl) (
    okc (ok_iconst (n := 0) (by decide +kernel) rfl rfl) (
    okc (ok_putI (k := 3) (idx := 29) cX4_ok (by decide) rfl rfl w_302 (by decide +kernel) rfl) (
    okc (ok_ret rfl (by decide +kernel)) ( okn)))))))))))))))))))
def pl_W_isKind : List (Nat × mA) := [(0, a_iload 0 1), (1, a_push 0 2), (2, a_push 5 3), (3, a_call 94 3 6), (6, a_zret)]
set_option maxRecDepth 20000 in
theorem ol_W_isKind : okall B sp D cA (SPf B sp Ls xs adK adV) MT ⟨"WreckSky", "isKind", "(I)Z"⟩ prog_1_method_47_code 1 (Option.some Jvm.ClassFile.FieldType.boolean) (pl_W_isKind) := by
  unfold pl_W_isKind
  exact
    okc (ok_iload_n (k := 0) (by decide +kernel) rfl rfl) (
    okc (ok_iconst (n := 0) (by decide +kernel) rfl rfl) (
    okc (ok_iconst (n := 5) (by decide +kernel) rfl rfl) (
    okc (ok_callS (SPf_ok _ _ _ _ _ _) (mi := 94) (n := 3) (idx := 72) rfl m_W_within (by decide) w_351 w_352 (by decide +kernel) rfl) (
    okc (ok_zret rfl (by decide +kernel)) ( okn)))))
def pl_W_within : List (Nat × mA) := [(0, a_iload 0 1), (1, a_iload 1 2), (2, a_cmp (fun x y => decide (x < y)) 14 5), (5, a_iload 0 6), (6, a_iload 2 7), (7, a_cmp (fun x y => decide (y < x)) 14 10), (10, a_push 1 11), (11, a_goto 15), (14, a_push 0 15), (15, a_zret)]
set_option maxRecDepth 20000 in
theorem ol_W_within : okall B sp D cA (SPf B sp Ls xs adK adV) MT ⟨"WreckSky", "within", "(III)Z"⟩ prog_1_method_44_code 3 (Option.some Jvm.ClassFile.FieldType.boolean) (pl_W_within) := by
  unfold pl_W_within
  exact
    okc (ok_iload_n (k := 0) (by decide +kernel) rfl rfl) (
    okc (ok_iload_n (k := 1) (by decide +kernel) rfl rfl) (
    okc (ok_cmp_lt (off := 12) (by decide +kernel) rfl rfl) (
    okc (ok_iload_n (k := 0) (by decide +kernel) rfl rfl) (
    okc (ok_iload_n (k := 2) (by decide +kernel) rfl rfl) (
    okc (ok_cmp_gt (off := 7) (by decide +kernel) rfl rfl) (
    okc (ok_iconst (n := 1) (by decide +kernel) rfl rfl) (
    okc (ok_goto (off := 4) (by decide +kernel) rfl) (
    okc (ok_iconst (n := 0) (by decide +kernel) rfl rfl) (
    okc (ok_zret rfl (by decide +kernel)) ( okn))))))))))
def pl_W_isPlace : List (Nat × mA) := [(0, a_iload 0 1), (1, a_push 0 2), (2, a_push 29 4), (4, a_call 94 3 7), (7, a_zret)]
set_option maxRecDepth 20000 in
theorem ol_W_isPlace : okall B sp D cA (SPf B sp Ls xs adK adV) MT ⟨"WreckSky", "isPlace", "(I)Z"⟩ prog_1_method_48_code 1 (Option.some Jvm.ClassFile.FieldType.boolean) (pl_W_isPlace) := by
  unfold pl_W_isPlace
  exact
    okc (ok_iload_n (k := 0) (by decide +kernel) rfl rfl) (
    okc (ok_iconst (n := 0) (by decide +kernel) rfl rfl) (
    okc (ok_bipush (n := 29) (by decide +kernel) (by decide +kernel) rfl) (
    okc (ok_callS (SPf_ok _ _ _ _ _ _) (mi := 94) (n := 3) (idx := 72) rfl m_W_within (by decide) w_351 w_352 (by decide +kernel) rfl) (
    okc (ok_zret rfl (by decide +kernel)) ( okn)))))
def pl_S_addWreck : List (Nat × mA) := [(0, a_aload 0 1), (1, a_getI 3 11 3 4), (4, a_push 14 6), (6, a_cmp (fun x y => decide (x < y)) 11 9), (9, a_push 0 10), (10, a_zret), (11, a_aload 0 12), (12, a_getR 3 11 0 15), (15, a_aload 0 16), (16, a_getI 3 11 3 19), (19, a_aald 4 20), (20, a_astore 6 22), (22, a_aload 0 23), (23, a_dup 24), (24, a_getI 3 11 3 27), (27, a_push 1 28), (28, a_bin (fun x y => x + y) 29), (29, a_putI 3 11 3 32), (32, a_aload 6 34), (34, a_iload 1 35), (35, a_putI 7 6 0 38), (38, a_aload 6 40), (40, a_iload 2 41), (41, a_putI 7 6 1 44), (44, a_aload 6 46), (46, a_iload 3 47), (47, a_putI 7 6 2 50), (50, a_aload 6 52), (52, a_iload 4 54), (54, a_putI 7 6 3 57), (57, a_aload 6 59), (59, a_iload 5 61), (61, a_putI 7 6 4 64), (64, a_aload 6 66), (66, a_push 1 67), (67, a_putZ 7 6 5 70), (70, a_push 1 71), (71, a_zret)]
set_option maxRecDepth 20000 in
theorem ol_S_addWreck : okall B sp D cA (SPf B sp Ls xs adK adV) MT ⟨"WreckSky$Sky", "addWreck", "(IIIII)Z"⟩ prog_5_method_4_code 7 (Option.some Jvm.ClassFile.FieldType.boolean) (pl_S_addWreck) := by
  unfold pl_S_addWreck
  exact
    okc (ok_aload_n (k := 0) (by decide +kernel) rfl rfl) (
    okc (ok_getI (k := 3) (idx := 27) cX3_ok (by decide) (by decide +kernel) w_141 (by decide +kernel) rfl) (
    okc (ok_bipush (n := 14) (by decide +kernel) (by decide +kernel) rfl) (
    okc (ok_cmp_lt (off := 5) (by decide +kernel) rfl rfl) (
    okc (ok_iconst (n := 0) (by decide +kernel) rfl rfl) (
    okc (ok_zret rfl (by decide +kernel)) (
    okc (ok_aload_n (k := 0) (by decide +kernel) rfl rfl) (
    okc (ok_getR (k := 0) (idx := 11) cX3_ok (by decide) (by decide +kernel) w_134 (by decide +kernel) rfl) (
    okc (ok_aload_n (k := 0) (by decide +kernel) rfl rfl) (
    okc (ok_getI (k := 3) (idx := 27) cX3_ok (by decide) (by decide +kernel) w_141 (by decide +kernel) rfl) (
    okc (ok_aald (C := "WreckSky$Wreck") (by decide) (fun _ => rfl) (by decide +kernel) rfl) (
    okc (ok_astore (by decide +kernel) rfl) (
    okc (ok_aload_n (k := 0) (by decide +kernel) rfl rfl) (
    okc (ok_dup (by decide +kernel) rfl) (
    okc (ok_getI (k := 3) (idx := 27) cX3_ok (by decide) (by decide +kernel) w_141 (by decide +kernel) rfl) (
    okc (ok_iconst (n := 1) (by decide +kernel) rfl rfl) (
    okc (ok_iadd (by decide +kernel) rfl) (
    okc (ok_putI (k := 3) (idx := 27) cX3_ok (by decide) rfl rfl w_141 (by decide +kernel) rfl) (
    okc (ok_aload (by decide +kernel) rfl) (
    okc (ok_iload_n (k := 1) (by decide +kernel) rfl rfl) (
    okc (ok_putI (k := 0) (idx := 61) cX7_ok (by decide) rfl rfl w_100 (by decide +kernel) rfl) (
    okc (ok_aload (by decide +kernel) rfl) (
    okc (ok_iload_n (k := 2) (by decide +kernel) rfl rfl) (
    okc (ok_putI (k := 1) (idx := 64) cX7_ok (by decide) rfl rfl w_103 (by decide +kernel) rfl) (
    okc (ok_aload (by decide +kernel) rfl) (
    okc (ok_iload_n (k := 3) (by decide +kernel) rfl rfl) (
    okc (ok_putI (k := 2) (idx := 67) cX7_ok (by decide) rfl rfl w_107 (by decide +kernel) rfl) (
    okc (ok_aload (by decide +kernel) rfl) (
    okc (ok_iload (by decide +kernel) rfl) (
    okc (ok_putI (k := 3) (idx := 70) cX7_ok (by decide) rfl rfl w_111 (by decide +kernel) rfl) (
    okc (ok_aload (by decide +kernel) rfl) (
    okc (ok_iload (by decide +kernel) rfl) (
    okc (ok_putI (k := 4) (idx := 73) cX7_ok (by decide) rfl rfl w_115 (by decide +kernel) rfl) (
    okc (ok_aload (by decide +kernel) rfl) (
    okc (ok_iconst (n := 1) (by decide +kernel) rfl rfl) (
    okc (ok_putZ (k := 5) (idx := 76) cX7_ok (by decide) rfl rfl w_118 (by decide +kernel) rfl) (
    okc (ok_iconst (n := 1) (by decide +kernel) rfl rfl) (
    okc (ok_zret rfl (by decide +kernel)) ( okn))))))))))))))))))))))))))))))))))))))
def pl_M_in : List (Nat × mA) := [(0, a_iload 0 1), (1, a_iload 1 2), (2, a_cmp (fun x y => decide (x < y)) 14 5), (5, a_iload 0 6), (6, a_iload 2 7), (7, a_cmp (fun x y => decide (y < x)) 14 10), (10, a_push 1 11), (11, a_goto 15), (14, a_push 0 15), (15, a_zret)]
set_option maxRecDepth 20000 in
theorem ol_M_in : okall B sp D cA (SPf B sp Ls xs adK adV) MT ⟨"WreckSkyModel", "in", "(III)Z"⟩ prog_11_method_2_code 3 (Option.some Jvm.ClassFile.FieldType.boolean) (pl_M_in) := by
  unfold pl_M_in
  exact
    okc (ok_iload_n (k := 0) (by decide +kernel) rfl rfl) (
    okc (ok_iload_n (k := 1) (by decide +kernel) rfl rfl) (
    okc (ok_cmp_lt (off := 12) (by decide +kernel) rfl rfl) (
    okc (ok_iload_n (k := 0) (by decide +kernel) rfl rfl) (
    okc (ok_iload_n (k := 2) (by decide +kernel) rfl rfl) (
    okc (ok_cmp_gt (off := 7) (by decide +kernel) rfl rfl) (
    okc (ok_iconst (n := 1) (by decide +kernel) rfl rfl) (
    okc (ok_goto (off := 4) (by decide +kernel) rfl) (
    okc (ok_iconst (n := 0) (by decide +kernel) rfl rfl) (
    okc (ok_zret rfl (by decide +kernel)) ( okn))))))))))
end PR

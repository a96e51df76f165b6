section PR
variable {B : Nat} {sp : Nat → Value} {D : va_G} {cA : Nat → ClassId} {Ls : Nat} {xs : Nat → Int32} {adK adV : Nat → Nat}
def pl_M_mark_1 : List (Nat × mA) := [(0, a_iload 1 1), (1, a_call 146 1 4), (4, a_if (fun x => decide (x ≠ 0)) 10 7), (7, a_push (-1000000001) 9), (9, a_iret), (10, a_aload 0 11), (11, a_getR 9 36 26 14), (14, a_iload 1 15), (15, a_ald 0 16), (16, a_if (fun x => decide (0 ≤ x)) 22 19), (19, a_push (-1000000011) 21), (21, a_iret), (22, a_iload 2 23), (23, a_push 0 24), (24, a_aload 0 25), (25, a_getR 9 36 27 28), (28, a_iload 1 29), (29, a_ald 0 30), (30, a_push 1 31), (31, a_bin (fun x y => x - y) 32), (32, a_call 97 3 35), (35, a_if (fun x => decide (x ≠ 0)) 42 38), (38, a_push (-1000000013) 41), (41, a_iret), (42, a_aload 0 43), (43, a_getR 9 36 26 46), (46, a_iload 1 47), (47, a_ald 0 48), (48, a_if (fun x => decide (x ≠ 0)) 60 51), (51, a_iload 3 52), (52, a_push (-1000000005) 54), (54, a_cmp (fun x y => decide (x ≠ y)) 60 57), (57, a_push (-1000000012) 59), (59, a_iret), (60, a_aload 0 61), (61, a_getR 9 36 26 64), (64, a_iload 1 65), (65, a_ald 0 66), (66, a_push 1 67), (67, a_cmp (fun x y => decide (x ≠ y)) 92 70), (70, a_iload 3 71), (71, a_push (-1000000005) 73), (73, a_cmp (fun x y => decide (x = y)) 92 76), (76, a_iload 3 77), (77, a_push (-99999) 80), (80, a_push 99999 83), (83, a_call 97 3 86), (86, a_if (fun x => decide (x ≠ 0)) 92 89), (89, a_push (-1000000001) 91), (91, a_iret), (92, a_aload 0 93), (93, a_getR 9 36 28 96), (96, a_push 24 98), (98, a_iload 1 99), (99, a_bin (fun x y => x * y) 100), (100, a_iload 2 101), (101, a_bin (fun x y => x + y) 102), (102, a_aload 0 103), (103, a_getR 9 36 26 106), (106, a_iload 1 107)]
set_option maxRecDepth 20000 in
theorem ol_M_mark_1 : okall B sp D cA (SPf B sp Ls xs adK adV) MT ⟨"WreckSkyModel", "mark", "(III)I"⟩ prog_11_method_77_code 4 (Option.some Jvm.ClassFile.FieldType.int) (pl_M_mark_1) := by
  unfold pl_M_mark_1
  exact
    okc (ok_iload_n (k := 1) (by decide +kernel) rfl rfl) (
    okc (ok_callS (SPf_ok _ _ _ _ _ _) (mi := 146) (n := 1) (idx := 193) rfl m_M_isSheet (by decide) w_1313 w_1314 (by decide +kernel) rfl) (
    okc (ok_if_ne (off := 6) (by decide +kernel) rfl rfl) (
    okc (ok_ldc (i := 100) w_1112 (by decide +kernel) rfl) (
    okc (ok_iret rfl (by decide +kernel)) (
    okc (ok_aload_n (k := 0) (by decide +kernel) rfl rfl) (
    okc (ok_getR (k := 26) (idx := 57) cX9_ok (by decide) (by decide +kernel) w_1017 (by decide +kernel) rfl) (
    okc (ok_iload_n (k := 1) (by decide +kernel) rfl rfl) (
    okc (ok_iald (by decide +kernel) rfl) (
    okc (ok_if_ge (off := 6) (by decide +kernel) rfl rfl) (
    okc (ok_ldc (i := 196) w_1316 (by decide +kernel) rfl) (
    okc (ok_iret rfl (by decide +kernel)) (
    okc (ok_iload_n (k := 2) (by decide +kernel) rfl rfl) (
    okc (ok_iconst (n := 0) (by decide +kernel) rfl rfl) (
    okc (ok_aload_n (k := 0) (by decide +kernel) rfl rfl) (
    okc (ok_getR (k := 27) (idx := 60) cX9_ok (by decide) (by decide +kernel) w_1018 (by decide +kernel) rfl) (
    okc (ok_iload_n (k := 1) (by decide +kernel) rfl rfl) (
    okc (ok_iald (by decide +kernel) rfl) (
    okc (ok_iconst (n := 1) (by decide +kernel) rfl rfl) (
    okc (ok_isub (by decide +kernel) rfl) (
    okc (ok_callS (SPf_ok _ _ _ _ _ _) (mi := 97) (n := 3) (idx := 84) rfl m_M_in (by decide) w_1106 w_1107 (by decide +kernel) rfl) (
    okc (ok_if_ne (off := 7) (by decide +kernel) rfl rfl) (
    okc (ok_ldc_w (i := 266) w_1397 (by decide +kernel) rfl) (
    okc (ok_iret rfl (by decide +kernel)) (
    okc (ok_aload_n (k := 0) (by decide +kernel) rfl rfl) (
    okc (ok_getR (k := 26) (idx := 57) cX9_ok (by decide) (by decide +kernel) w_1017 (by decide +kernel) rfl) (
    okc (ok_iload_n (k := 1) (by decide +kernel) rfl rfl) (
    okc (ok_iald (by decide +kernel) rfl) (
    okc (ok_if_ne (off := 12) (by decide +kernel) rfl rfl) (
    okc (ok_iload_n (k := 3) (by decide +kernel) rfl rfl) (
    okc (ok_ldc (i := 177) w_1265 (by decide +kernel) rfl) (
    okc (ok_cmp_ne (off := 6) (by decide +kernel) rfl rfl) (
    okc (ok_ldc (i := 133) w_1167 (by decide +kernel) rfl) (
    okc (ok_iret rfl (by decide +kernel)) (
    okc (ok_aload_n (k := 0) (by decide +kernel) rfl rfl) (
    okc (ok_getR (k := 26) (idx := 57) cX9_ok (by decide) (by decide +kernel) w_1017 (by decide +kernel) rfl) (
    okc (ok_iload_n (k := 1) (by decide +kernel) rfl rfl) (
    okc (ok_iald (by decide +kernel) rfl) (
    okc (ok_iconst (n := 1) (by decide +kernel) rfl rfl) (
    okc (ok_cmp_ne (off := 25) (by decide +kernel) rfl rfl) (
    okc (ok_iload_n (k := 3) (by decide +kernel) rfl rfl) (
    okc (ok_ldc (i := 177) w_1265 (by decide +kernel) rfl) (
    okc (ok_cmp_eq (off := 19) (by decide +kernel) rfl rfl) (
    okc (ok_iload_n (k := 3) (by decide +kernel) rfl rfl) (
    okc (ok_ldc_w (i := 267) w_1398 (by decide +kernel) rfl) (
    okc (ok_ldc_w (i := 268) w_1399 (by decide +kernel) rfl) (
    okc (ok_callS (SPf_ok _ _ _ _ _ _) (mi := 97) (n := 3) (idx := 84) rfl m_M_in (by decide) w_1106 w_1107 (by decide +kernel) rfl) (
    okc (ok_if_ne (off := 6) (by decide +kernel) rfl rfl) (
    okc (ok_ldc (i := 100) w_1112 (by decide +kernel) rfl) (
    okc (ok_iret rfl (by decide +kernel)) (
    okc (ok_aload_n (k := 0) (by decide +kernel) rfl rfl) (
    okc (ok_getR (k := 28) (idx := 63) cX9_ok (by decide) (by decide +kernel) w_1019 (by decide +kernel) rfl) (
    okc (ok_bipush (n := 24) (by decide +kernel) (by decide +kernel) rfl) (
    okc (ok_iload_n (k := 1) (by decide +kernel) rfl rfl) (
    okc (ok_imul (by decide +kernel) rfl) (
    okc (ok_iload_n (k := 2) (by decide +kernel) rfl rfl) (
    okc (ok_iadd (by decide +kernel) rfl) (
    okc (ok_aload_n (k := 0) (by decide +kernel) rfl rfl) (
    okc (ok_getR (k := 26) (idx := 57) cX9_ok (by decide) (by decide +kernel) w_1017 (by decide +kernel) rfl) (
    okc (ok_iload_n (k := 1) (by decide +kernel) rfl rfl) ( okn))))))))))))))))))))))))))))))))))))))))))))))))))))))))))))
def pl_M_mark_2 : List (Nat × mA) := [(107, a_ald 0 108), (108, a_if (fun x => decide (x ≠ 0)) 116 111), (111, a_iload 3 112), (112, a_un (fun x => x.toInt16.toInt32) 113), (113, a_goto 117), (116, a_iload 3 117), (117, a_ast 0 (fun x => x) 118), (118, a_push 1 119), (119, a_iret)]
set_option maxRecDepth 20000 in
theorem ol_M_mark_2 : okall B sp D cA (SPf B sp Ls xs adK adV) MT ⟨"WreckSkyModel", "mark", "(III)I"⟩ prog_11_method_77_code 4 (Option.some Jvm.ClassFile.FieldType.int) (pl_M_mark_2) := by
  unfold pl_M_mark_2
  exact
    okc (ok_iald (by decide +kernel) rfl) (
    okc (ok_if_ne (off := 8) (by decide +kernel) rfl rfl) (
    okc (ok_iload_n (k := 3) (by decide +kernel) rfl rfl) (
    okc (ok_i2s (by decide +kernel) rfl) (
    okc (ok_goto (off := 4) (by decide +kernel) rfl) (
    okc (ok_iload_n (k := 3) (by decide +kernel) rfl rfl) (
    okc (ok_iast (by decide +kernel) rfl) (
    okc (ok_iconst (n := 1) (by decide +kernel) rfl rfl) (
    okc (ok_iret rfl (by decide +kernel)) ( okn)))))))))
def pl_M_mark : List (Nat × mA) := pl_M_mark_1 ++ (pl_M_mark_2)
theorem ol_M_mark : okall B sp D cA (SPf B sp Ls xs adK adV) MT ⟨"WreckSkyModel", "mark", "(III)I"⟩ prog_11_method_77_code 4 (Option.some Jvm.ClassFile.FieldType.int) (pl_M_mark) := oka ol_M_mark_1 (ol_M_mark_2)
def pl_W_pour : List (Nat × mA) := [(0, a_iload 1 1), (1, a_call 143 1 4), (4, a_if (fun x => decide (x ≠ 0)) 10 7), (7, a_push (-1000000001) 9), (9, a_iret), (10, a_aload 0 11), (11, a_getR 8 10 5 14), (14, a_iload 1 15), (15, a_aald 6 16), (16, a_astore 2 17), (17, a_aload 2 18), (18, a_callO 2 3 144 0 21), (21, a_if (fun x => decide (x = 0)) 27 24), (24, a_push (-1000000011) 26), (26, a_iret), (27, a_push 0 28), (28, a_istore 3 29), (29, a_push 0 30), (30, a_istore 4 32), (32, a_iload 4 34), (34, a_aload 0 35), (35, a_getR 8 10 0 38), (38, a_getI 3 11 3 41), (41, a_cmp (fun x y => decide (y ≤ x)) 110 44), (44, a_aload 2 45), (45, a_iload 4 47), (47, a_callO 2 3 162 1 50), (50, a_if (fun x => decide (x = 0)) 104 53), (53, a_aload 2 54), (54, a_getR 2 3 0 57), (57, a_iload 4 59), (59, a_ald 0 60), (60, a_push 1 61), (61, a_push 99 63), (63, a_call 163 3 66), (66, a_istore 5 68), (68, a_aload 0 69), (69, a_getR 8 10 0 72), (72, a_getR 3 11 0 75), (75, a_iload 4 77), (77, a_aald 4 78), (78, a_getI 7 6 4 81), (81, a_iload 5 83), (83, a_cmp (fun x y => decide (x = y)) 89 86), (86, a_iinc 3 1 89), (89, a_aload 0 90), (90, a_getR 8 10 0 93), (93, a_getR 3 11 0 96), (96, a_iload 4 98), (98, a_aald 4 99), (99, a_iload 5 101), (101, a_putI 7 6 4 104), (104, a_iinc 4 1 107), (107, a_goto 32), (110, a_iload 3 111), (111, a_iret)]
set_option maxRecDepth 20000 in
theorem ol_W_pour : okall B sp D cA (SPf B sp Ls xs adK adV) MT ⟨"WreckSky", "pour", "(I)I"⟩ prog_1_method_32_code 6 (Option.some Jvm.ClassFile.FieldType.int) (pl_W_pour) := by
  unfold pl_W_pour
  exact
    okc (ok_iload_n (k := 1) (by decide +kernel) rfl rfl) (
    okc (ok_callS (SPf_ok _ _ _ _ _ _) (mi := 143) (n := 1) (idx := 217) rfl m_W_isSheet (by decide) w_630 w_631 (by decide +kernel) rfl) (
    okc (ok_if_ne (off := 6) (by decide +kernel) rfl rfl) (
    okc (ok_ldc (i := 79) w_357 (by decide +kernel) rfl) (
    okc (ok_iret rfl (by decide +kernel)) (
    okc (ok_aload_n (k := 0) (by decide +kernel) rfl rfl) (
    okc (ok_getR (k := 5) (idx := 44) cX8_ok (by decide) (by decide +kernel) w_318 (by decide +kernel) rfl) (
    okc (ok_iload_n (k := 1) (by decide +kernel) rfl rfl) (
    okc (ok_aald (C := "WreckSky$Sheet") (by decide) (fun _ => rfl) (by decide +kernel) rfl) (
    okc (ok_astore_n (k := 2) (by decide +kernel) rfl rfl) (
    okc (ok_aload_n (k := 2) (by decide +kernel) rfl rfl) (
    okc (ok_callV (SPf_ok _ _ _ _ _ _) (mi := 144) (n := 0) (idx := 220) rfl m_H_isMissing (by decide) cX2_ok w_633 w_634 w_635 (by decide +kernel) rfl) (
    okc (ok_if_eq (off := 6) (by decide +kernel) rfl rfl) (
    okc (ok_ldc (i := 224) w_637 (by decide +kernel) rfl) (
    okc (ok_iret rfl (by decide +kernel)) (
    okc (ok_iconst (n := 0) (by decide +kernel) rfl rfl) (
    okc (ok_istore_n (k := 3) (by decide +kernel) rfl rfl) (
    okc (ok_iconst (n := 0) (by decide +kernel) rfl rfl) (
    okc (ok_istore (by decide +kernel) rfl) (
    okc (ok_iload (by decide +kernel) rfl) (
    okc (ok_aload_n (k := 0) (by decide +kernel) rfl rfl) (
    okc (ok_getR (k := 0) (idx := 10) cX8_ok (by decide) (by decide +kernel) w_313 (by decide +kernel) rfl) (
    okc (ok_getI (k := 3) (idx := 84) cX3_ok (by decide) (by decide +kernel) w_142 (by decide +kernel) rfl) (
    okc (ok_cmp_ge (off := 69) (by decide +kernel) rfl rfl) (
    okc (ok_aload_n (k := 2) (by decide +kernel) rfl rfl) (
    okc (ok_iload (by decide +kernel) rfl) (
    okc (ok_callV (SPf_ok _ _ _ _ _ _) (mi := 162) (n := 1) (idx := 292) rfl m_H_hasNumber (by decide) cX2_ok w_912 w_643 w_644 (by decide +kernel) rfl) (
    okc (ok_if_eq (off := 54) (by decide +kernel) rfl rfl) (
    okc (ok_aload_n (k := 2) (by decide +kernel) rfl rfl) (
    okc (ok_getR (k := 0) (idx := 287) cX2_ok (by decide) (by decide +kernel) w_274 (by decide +kernel) rfl) (
    okc (ok_iload (by decide +kernel) rfl) (
    okc (ok_iald (by decide +kernel) rfl) (
    okc (ok_iconst (n := 1) (by decide +kernel) rfl rfl) (
    okc (ok_bipush (n := 99) (by decide +kernel) (by decide +kernel) rfl) (
    okc (ok_callS (SPf_ok _ _ _ _ _ _) (mi := 163) (n := 3) (idx := 295) rfl m_W_held (by decide) w_913 w_391 (by decide +kernel) rfl) (
    okc (ok_istore (by decide +kernel) rfl) (
    okc (ok_aload_n (k := 0) (by decide +kernel) rfl rfl) (
    okc (ok_getR (k := 0) (idx := 10) cX8_ok (by decide) (by decide +kernel) w_313 (by decide +kernel) rfl) (
    okc (ok_getR (k := 0) (idx := 91) cX3_ok (by decide) (by decide +kernel) w_135 (by decide +kernel) rfl) (
    okc (ok_iload (by decide +kernel) rfl) (
    okc (ok_aald (C := "WreckSky$Wreck") (by decide) (fun _ => rfl) (by decide +kernel) rfl) (
    okc (ok_getI (k := 4) (idx := 109) cX7_ok (by decide) (by decide +kernel) w_114 (by decide +kernel) rfl) (
    okc (ok_iload (by decide +kernel) rfl) (
    okc (ok_cmp_eq (off := 6) (by decide +kernel) rfl rfl) (
    okc (ok_iinc (n := 1) (by decide +kernel) rfl rfl) (
    okc (ok_aload_n (k := 0) (by decide +kernel) rfl rfl) (
    okc (ok_getR (k := 0) (idx := 10) cX8_ok (by decide) (by decide +kernel) w_313 (by decide +kernel) rfl) (
    okc (ok_getR (k := 0) (idx := 91) cX3_ok (by decide) (by decide +kernel) w_135 (by decide +kernel) rfl) (
    okc (ok_iload (by decide +kernel) rfl) (
    okc (ok_aald (C := "WreckSky$Wreck") (by decide) (fun _ => rfl) (by decide +kernel) rfl) (
    okc (ok_iload (by decide +kernel) rfl) (
    okc (ok_putI (k := 4) (idx := 109) cX7_ok (by decide) rfl rfl w_114 (by decide +kernel) rfl) (
    okc (ok_iinc (n := 1) (by decide +kernel) rfl rfl) (
    okc (ok_goto (off := -75) (by decide +kernel) rfl) (
    okc (ok_iload_n (k := 3) (by decide +kernel) rfl rfl) (
    okc (ok_iret rfl (by decide +kernel)) ( okn))))))))))))))))))))))))))))))))))))))))))))))))))))))))
def pl_M_pour_1 : List (Nat × mA) := [(0, a_iload 1 1), (1, a_call 146 1 4), (4, a_if (fun x => decide (x ≠ 0)) 10 7), (7, a_push (-1000000001) 9), (9, a_iret), (10, a_aload 0 11), (11, a_getR 9 36 26 14), (14, a_iload 1 15), (15, a_ald 0 16), (16, a_if (fun x => decide (0 ≤ x)) 22 19), (19, a_push (-1000000011) 21), (21, a_iret), (22, a_push 0 23), (23, a_istore 2 24), (24, a_push 0 25), (25, a_istore 3 26), (26, a_iload 3 27), (27, a_aload 0 28), (28, a_getR 9 36 27 31), (31, a_iload 1 32), (32, a_ald 0 33), (33, a_cmp (fun x y => decide (y ≤ x)) 119 36), (36, a_iload 3 37), (37, a_aload 0 38), (38, a_getR 9 36 0 41), (41, a_push 1 42), (42, a_ald 0 43), (43, a_cmp (fun x y => decide (y ≤ x)) 119 46), (46, a_aload 0 47), (47, a_getR 9 36 28 50), (50, a_push 24 52), (52, a_iload 1 53), (53, a_bin (fun x y => x * y) 54), (54, a_iload 3 55), (55, a_bin (fun x y => x + y) 56), (56, a_ald 0 57), (57, a_istore 4 59), (59, a_iload 4 61), (61, a_push (-1000000005) 63), (63, a_cmp (fun x y => decide (x ≠ y)) 75 66), (66, a_aload 0 67), (67, a_iload 3 68), (68, a_push 4 69), (69, a_callO 9 36 105 2 72), (72, a_goto 83), (75, a_iload 4 77), (77, a_push 1 78), (78, a_push 99 80), (80, a_call 120 3 83), (83, a_istore 5 85), (85, a_iload 2 86), (86, a_aload 0 87), (87, a_push 8 89), (89, a_push 6 91), (91, a_iload 3 92), (92, a_bin (fun x y => x * y) 93), (93, a_bin (fun x y => x + y) 94), (94, a_push 4 95), (95, a_bin (fun x y => x + y) 96), (96, a_iload 5 98)]
set_option maxRecDepth 20000 in
theorem ol_M_pour_1 : okall B sp D cA (SPf B sp Ls xs adK adV) MT ⟨"WreckSkyModel", "pour", "(I)I"⟩ prog_11_method_78_code 6 (Option.some Jvm.ClassFile.FieldType.int) (pl_M_pour_1) := by
  unfold pl_M_pour_1
  exact
    okc (ok_iload_n (k := 1) (by decide +kernel) rfl rfl) (
    okc (ok_callS (SPf_ok _ _ _ _ _ _) (mi := 146) (n := 1) (idx := 193) rfl m_M_isSheet (by decide) w_1313 w_1314 (by decide +kernel) rfl) (
    okc (ok_if_ne (off := 6) (by decide +kernel) rfl rfl) (
    okc (ok_ldc (i := 100) w_1112 (by decide +kernel) rfl) (
    okc (ok_iret rfl (by decide +kernel)) (
    okc (ok_aload_n (k := 0) (by decide +kernel) rfl rfl) (
    okc (ok_getR (k := 26) (idx := 57) cX9_ok (by decide) (by decide +kernel) w_1017 (by decide +kernel) rfl) (
    okc (ok_iload_n (k := 1) (by decide +kernel) rfl rfl) (
    okc (ok_iald (by decide +kernel) rfl) (
    okc (ok_if_ge (off := 6) (by decide +kernel) rfl rfl) (
    okc (ok_ldc (i := 196) w_1316 (by decide +kernel) rfl) (
    okc (ok_iret rfl (by decide +kernel)) (
    okc (ok_iconst (n := 0) (by decide +kernel) rfl rfl) (
    okc (ok_istore_n (k := 2) (by decide +kernel) rfl rfl) (
    okc (ok_iconst (n := 0) (by decide +kernel) rfl rfl) (
    okc (ok_istore_n (k := 3) (by decide +kernel) rfl rfl) (
    okc (ok_iload_n (k := 3) (by decide +kernel) rfl rfl) (
    okc (ok_aload_n (k := 0) (by decide +kernel) rfl rfl) (
    okc (ok_getR (k := 27) (idx := 60) cX9_ok (by decide) (by decide +kernel) w_1018 (by decide +kernel) rfl) (
    okc (ok_iload_n (k := 1) (by decide +kernel) rfl rfl) (
    okc (ok_iald (by decide +kernel) rfl) (
    okc (ok_cmp_ge (off := 86) (by decide +kernel) rfl rfl) (
    okc (ok_iload_n (k := 3) (by decide +kernel) rfl rfl) (
    okc (ok_aload_n (k := 0) (by decide +kernel) rfl rfl) (
    okc (ok_getR (k := 0) (idx := 9) cX9_ok (by decide) (by decide +kernel) w_991 (by decide +kernel) rfl) (
    okc (ok_iconst (n := 1) (by decide +kernel) rfl rfl) (
    okc (ok_iald (by decide +kernel) rfl) (
    okc (ok_cmp_ge (off := 76) (by decide +kernel) rfl rfl) (
    okc (ok_aload_n (k := 0) (by decide +kernel) rfl rfl) (
    okc (ok_getR (k := 28) (idx := 63) cX9_ok (by decide) (by decide +kernel) w_1019 (by decide +kernel) rfl) (
    okc (ok_bipush (n := 24) (by decide +kernel) (by decide +kernel) rfl) (
    okc (ok_iload_n (k := 1) (by decide +kernel) rfl rfl) (
    okc (ok_imul (by decide +kernel) rfl) (
    okc (ok_iload_n (k := 3) (by decide +kernel) rfl rfl) (
    okc (ok_iadd (by decide +kernel) rfl) (
    okc (ok_iald (by decide +kernel) rfl) (
    okc (ok_istore (by decide +kernel) rfl) (
    okc (ok_iload (by decide +kernel) rfl) (
    okc (ok_ldc (i := 177) w_1265 (by decide +kernel) rfl) (
    okc (ok_cmp_ne (off := 12) (by decide +kernel) rfl rfl) (
    okc (ok_aload_n (k := 0) (by decide +kernel) rfl rfl) (
    okc (ok_iload_n (k := 3) (by decide +kernel) rfl rfl) (
    okc (ok_iconst (n := 4) (by decide +kernel) rfl rfl) (
    okc (ok_callV (SPf_ok _ _ _ _ _ _) (mi := 105) (n := 2) (idx := 88) rfl m_M_of (by decide) cX9_ok w_1130 w_1132 w_23 (by decide +kernel) rfl) (
    okc (ok_goto (off := 11) (by decide +kernel) rfl) (
    okc (ok_iload (by decide +kernel) rfl) (
    okc (ok_iconst (n := 1) (by decide +kernel) rfl rfl) (
    okc (ok_bipush (n := 99) (by decide +kernel) (by decide +kernel) rfl) (
    okc (ok_callS (SPf_ok _ _ _ _ _ _) (mi := 120) (n := 3) (idx := 113) rfl m_M_within (by decide) w_1149 w_1150 (by decide +kernel) rfl) (
    okc (ok_istore (by decide +kernel) rfl) (
    okc (ok_iload_n (k := 2) (by decide +kernel) rfl rfl) (
    okc (ok_aload_n (k := 0) (by decide +kernel) rfl rfl) (
    okc (ok_bipush (n := 8) (by decide +kernel) (by decide +kernel) rfl) (
    okc (ok_bipush (n := 6) (by decide +kernel) (by decide +kernel) rfl) (
    okc (ok_iload_n (k := 3) (by decide +kernel) rfl rfl) (
    okc (ok_imul (by decide +kernel) rfl) (
    okc (ok_iadd (by decide +kernel) rfl) (
    okc (ok_iconst (n := 4) (by decide +kernel) rfl rfl) (
    okc (ok_iadd (by decide +kernel) rfl) (
    okc (ok_iload (by decide +kernel) rfl) ( okn))))))))))))))))))))))))))))))))))))))))))))))))))))))))))))
def pl_M_pour_2 : List (Nat × mA) := [(98, a_callO 9 36 111 2 101), (101, a_iload 5 103), (103, a_cmp (fun x y => decide (x ≠ y)) 110 106), (106, a_push 0 107), (107, a_goto 111), (110, a_push 1 111), (111, a_bin (fun x y => x + y) 112), (112, a_istore 2 113), (113, a_iinc 3 1 116), (116, a_goto 26), (119, a_iload 2 120), (120, a_iret)]
set_option maxRecDepth 20000 in
theorem ol_M_pour_2 : okall B sp D cA (SPf B sp Ls xs adK adV) MT ⟨"WreckSkyModel", "pour", "(I)I"⟩ prog_11_method_78_code 6 (Option.some Jvm.ClassFile.FieldType.int) (pl_M_pour_2) := by
  unfold pl_M_pour_2
  exact
    okc (ok_callV (SPf_ok _ _ _ _ _ _) (mi := 111) (n := 2) (idx := 134) rfl m_M_becomes (by decide) cX9_ok w_1172 w_1174 w_29 (by decide +kernel) rfl) (
    okc (ok_iload (by decide +kernel) rfl) (
    okc (ok_cmp_ne (off := 7) (by decide +kernel) rfl rfl) (
    okc (ok_iconst (n := 0) (by decide +kernel) rfl rfl) (
    okc (ok_goto (off := 4) (by decide +kernel) rfl) (
    okc (ok_iconst (n := 1) (by decide +kernel) rfl rfl) (
    okc (ok_iadd (by decide +kernel) rfl) (
    okc (ok_istore_n (k := 2) (by decide +kernel) rfl rfl) (
    okc (ok_iinc (n := 1) (by decide +kernel) rfl rfl) (
    okc (ok_goto (off := -90) (by decide +kernel) rfl) (
    okc (ok_iload_n (k := 2) (by decide +kernel) rfl rfl) (
    okc (ok_iret rfl (by decide +kernel)) ( okn))))))))))))
def pl_M_pour : List (Nat × mA) := pl_M_pour_1 ++ (pl_M_pour_2)
theorem ol_M_pour : okall B sp D cA (SPf B sp Ls xs adK adV) MT ⟨"WreckSkyModel", "pour", "(I)I"⟩ prog_11_method_78_code 6 (Option.some Jvm.ClassFile.FieldType.int) (pl_M_pour) := oka ol_M_pour_1 (ol_M_pour_2)
def pl_W_reads : List (Nat × mA) := [(0, a_iload 1 1), (1, a_call 143 1 4), (4, a_if (fun x => decide (x ≠ 0)) 10 7), (7, a_push (-1000000001) 9), (9, a_iret), (10, a_aload 0 11), (11, a_getR 8 10 5 14), (14, a_iload 1 15), (15, a_aald 6 16), (16, a_astore 2 17), (17, a_aload 2 18), (18, a_callO 2 3 144 0 21), (21, a_if (fun x => decide (x = 0)) 27 24), (24, a_push (-1000000011) 26), (26, a_iret), (27, a_push 0 28), (28, a_istore 3 29), (29, a_iload 3 30), (30, a_aload 2 31), (31, a_getI 2 3 2 34), (34, a_cmp (fun x y => decide (y ≤ x)) 85 37), (37, a_aload 2 38), (38, a_iload 3 39), (39, a_callO 2 3 162 1 42), (42, a_if (fun x => decide (x = 0)) 79 45), (45, a_aload 0 46), (46, a_getR 8 10 0 49), (49, a_iload 3 50), (50, a_callO 3 11 100 1 53), (53, a_if (fun x => decide (x = 0)) 77 56), (56, a_aload 0 57), (57, a_getR 8 10 0 60), (60, a_getR 3 11 0 63), (63, a_iload 3 64), (64, a_aald 4 65), (65, a_getI 7 6 2 68), (68, a_aload 2 69), (69, a_getR 2 3 0 72), (72, a_iload 3 73), (73, a_ald 0 74), (74, a_cmp (fun x y => decide (x = y)) 79 77), (77, a_iload 3 78), (78, a_iret), (79, a_iinc 3 1 82), (82, a_goto 29), (85, a_push (-1000000005) 88), (88, a_iret)]
set_option maxRecDepth 20000 in
theorem ol_W_reads : okall B sp D cA (SPf B sp Ls xs adK adV) MT ⟨"WreckSky", "reads", "(I)I"⟩ prog_1_method_33_code 4 (Option.some Jvm.ClassFile.FieldType.int) (pl_W_reads) := by
  unfold pl_W_reads
  exact
    okc (ok_iload_n (k := 1) (by decide +kernel) rfl rfl) (
    okc (ok_callS (SPf_ok _ _ _ _ _ _) (mi := 143) (n := 1) (idx := 217) rfl m_W_isSheet (by decide) w_630 w_631 (by decide +kernel) rfl) (
    okc (ok_if_ne (off := 6) (by decide +kernel) rfl rfl) (
    okc (ok_ldc (i := 79) w_357 (by decide +kernel) rfl) (
    okc (ok_iret rfl (by decide +kernel)) (
    okc (ok_aload_n (k := 0) (by decide +kernel) rfl rfl) (
    okc (ok_getR (k := 5) (idx := 44) cX8_ok (by decide) (by decide +kernel) w_318 (by decide +kernel) rfl) (
    okc (ok_iload_n (k := 1) (by decide +kernel) rfl rfl) (
    okc (ok_aald (C := "WreckSky$Sheet") (by decide) (fun _ => rfl) (by decide +kernel) rfl) (
    okc (ok_astore_n (k := 2) (by decide +kernel) rfl rfl) (
    okc (ok_aload_n (k := 2) (by decide +kernel) rfl rfl) (
    okc (ok_callV (SPf_ok _ _ _ _ _ _) (mi := 144) (n := 0) (idx := 220) rfl m_H_isMissing (by decide) cX2_ok w_633 w_634 w_635 (by decide +kernel) rfl) (
    okc (ok_if_eq (off := 6) (by decide +kernel) rfl rfl) (
    okc (ok_ldc (i := 224) w_637 (by decide +kernel) rfl) (
    okc (ok_iret rfl (by decide +kernel)) (
    okc (ok_iconst (n := 0) (by decide +kernel) rfl rfl) (
    okc (ok_istore_n (k := 3) (by decide +kernel) rfl rfl) (
    okc (ok_iload_n (k := 3) (by decide +kernel) rfl rfl) (
    okc (ok_aload_n (k := 2) (by decide +kernel) rfl rfl) (
    okc (ok_getI (k := 2) (idx := 299) cX2_ok (by decide) (by decide +kernel) w_279 (by decide +kernel) rfl) (
    okc (ok_cmp_ge (off := 51) (by decide +kernel) rfl rfl) (
    okc (ok_aload_n (k := 2) (by decide +kernel) rfl rfl) (
    okc (ok_iload_n (k := 3) (by decide +kernel) rfl rfl) (
    okc (ok_callV (SPf_ok _ _ _ _ _ _) (mi := 162) (n := 1) (idx := 292) rfl m_H_hasNumber (by decide) cX2_ok w_912 w_643 w_644 (by decide +kernel) rfl) (
    okc (ok_if_eq (off := 37) (by decide +kernel) rfl rfl) (
    okc (ok_aload_n (k := 0) (by decide +kernel) rfl rfl) (
    okc (ok_getR (k := 0) (idx := 10) cX8_ok (by decide) (by decide +kernel) w_313 (by decide +kernel) rfl) (
    okc (ok_iload_n (k := 3) (by decide +kernel) rfl rfl) (
    okc (ok_callV (SPf_ok _ _ _ _ _ _) (mi := 100) (n := 1) (idx := 88) rfl m_S_hasWreck (by decide) cX3_ok w_367 w_368 w_369 (by decide +kernel) rfl) (
    okc (ok_if_eq (off := 24) (by decide +kernel) rfl rfl) (
    okc (ok_aload_n (k := 0) (by decide +kernel) rfl rfl) (
    okc (ok_getR (k := 0) (idx := 10) cX8_ok (by decide) (by decide +kernel) w_313 (by decide +kernel) rfl) (
    okc (ok_getR (k := 0) (idx := 91) cX3_ok (by decide) (by decide +kernel) w_135 (by decide +kernel) rfl) (
    okc (ok_iload_n (k := 3) (by decide +kernel) rfl rfl) (
    okc (ok_aald (C := "WreckSky$Wreck") (by decide) (fun _ => rfl) (by decide +kernel) rfl) (
    okc (ok_getI (k := 2) (idx := 103) cX7_ok (by decide) (by decide +kernel) w_106 (by decide +kernel) rfl) (
    okc (ok_aload_n (k := 2) (by decide +kernel) rfl rfl) (
    okc (ok_getR (k := 0) (idx := 287) cX2_ok (by decide) (by decide +kernel) w_274 (by decide +kernel) rfl) (
    okc (ok_iload_n (k := 3) (by decide +kernel) rfl rfl) (
    okc (ok_iald (by decide +kernel) rfl) (
    okc (ok_cmp_eq (off := 5) (by decide +kernel) rfl rfl) (
    okc (ok_iload_n (k := 3) (by decide +kernel) rfl rfl) (
    okc (ok_iret rfl (by decide +kernel)) (
    okc (ok_iinc (n := 1) (by decide +kernel) rfl rfl) (
    okc (ok_goto (off := -53) (by decide +kernel) rfl) (
    okc (ok_ldc_w (i := 274) w_889 (by decide +kernel) rfl) (
    okc (ok_iret rfl (by decide +kernel)) ( okn)))))))))))))))))))))))))))))))))))))))))))))))
def pl_M_reads : List (Nat × mA) := [(0, a_iload 1 1), (1, a_call 146 1 4), (4, a_if (fun x => decide (x ≠ 0)) 10 7), (7, a_push (-1000000001) 9), (9, a_iret), (10, a_aload 0 11), (11, a_getR 9 36 26 14), (14, a_iload 1 15), (15, a_ald 0 16), (16, a_if (fun x => decide (0 ≤ x)) 22 19), (19, a_push (-1000000011) 21), (21, a_iret), (22, a_push 0 23), (23, a_istore 2 24), (24, a_iload 2 25), (25, a_aload 0 26), (26, a_getR 9 36 27 29), (29, a_iload 1 30), (30, a_ald 0 31), (31, a_cmp (fun x y => decide (y ≤ x)) 78 34), (34, a_aload 0 35), (35, a_getR 9 36 28 38), (38, a_push 24 40), (40, a_iload 1 41), (41, a_bin (fun x y => x * y) 42), (42, a_iload 2 43), (43, a_bin (fun x y => x + y) 44), (44, a_ald 0 45), (45, a_istore 3 46), (46, a_iload 3 47), (47, a_push (-1000000005) 49), (49, a_cmp (fun x y => decide (x = y)) 72 52), (52, a_aload 0 53), (53, a_iload 2 54), (54, a_callO 9 36 104 1 57), (57, a_if (fun x => decide (x = 0)) 70 60), (60, a_iload 3 61), (61, a_aload 0 62), (62, a_iload 2 63), (63, a_push 2 64), (64, a_callO 9 36 105 2 67), (67, a_cmp (fun x y => decide (x = y)) 72 70), (70, a_iload 2 71), (71, a_iret), (72, a_iinc 2 1 75), (75, a_goto 24), (78, a_push (-1000000005) 80), (80, a_iret)]
set_option maxRecDepth 20000 in
theorem ol_M_reads : okall B sp D cA (SPf B sp Ls xs adK adV) MT ⟨"WreckSkyModel", "reads", "(I)I"⟩ prog_11_method_79_code 4 (Option.some Jvm.ClassFile.FieldType.int) (pl_M_reads) := by
  unfold pl_M_reads
  exact
    okc (ok_iload_n (k := 1) (by decide +kernel) rfl rfl) (
    okc (ok_callS (SPf_ok _ _ _ _ _ _) (mi := 146) (n := 1) (idx := 193) rfl m_M_isSheet (by decide) w_1313 w_1314 (by decide +kernel) rfl) (
    okc (ok_if_ne (off := 6) (by decide +kernel) rfl rfl) (
    okc (ok_ldc (i := 100) w_1112 (by decide +kernel) rfl) (
    okc (ok_iret rfl (by decide +kernel)) (
    okc (ok_aload_n (k := 0) (by decide +kernel) rfl rfl) (
    okc (ok_getR (k := 26) (idx := 57) cX9_ok (by decide) (by decide +kernel) w_1017 (by decide +kernel) rfl) (
    okc (ok_iload_n (k := 1) (by decide +kernel) rfl rfl) (
    okc (ok_iald (by decide +kernel) rfl) (
    okc (ok_if_ge (off := 6) (by decide +kernel) rfl rfl) (
    okc (ok_ldc (i := 196) w_1316 (by decide +kernel) rfl) (
    okc (ok_iret rfl (by decide +kernel)) (
    okc (ok_iconst (n := 0) (by decide +kernel) rfl rfl) (
    okc (ok_istore_n (k := 2) (by decide +kernel) rfl rfl) (
    okc (ok_iload_n (k := 2) (by decide +kernel) rfl rfl) (
    okc (ok_aload_n (k := 0) (by decide +kernel) rfl rfl) (
    okc (ok_getR (k := 27) (idx := 60) cX9_ok (by decide) (by decide +kernel) w_1018 (by decide +kernel) rfl) (
    okc (ok_iload_n (k := 1) (by decide +kernel) rfl rfl) (
    okc (ok_iald (by decide +kernel) rfl) (
    okc (ok_cmp_ge (off := 47) (by decide +kernel) rfl rfl) (
    okc (ok_aload_n (k := 0) (by decide +kernel) rfl rfl) (
    okc (ok_getR (k := 28) (idx := 63) cX9_ok (by decide) (by decide +kernel) w_1019 (by decide +kernel) rfl) (
    okc (ok_bipush (n := 24) (by decide +kernel) (by decide +kernel) rfl) (
    okc (ok_iload_n (k := 1) (by decide +kernel) rfl rfl) (
    okc (ok_imul (by decide +kernel) rfl) (
    okc (ok_iload_n (k := 2) (by decide +kernel) rfl rfl) (
    okc (ok_iadd (by decide +kernel) rfl) (
    okc (ok_iald (by decide +kernel) rfl) (
    okc (ok_istore_n (k := 3) (by decide +kernel) rfl rfl) (
    okc (ok_iload_n (k := 3) (by decide +kernel) rfl rfl) (
    okc (ok_ldc (i := 177) w_1265 (by decide +kernel) rfl) (
    okc (ok_cmp_eq (off := 23) (by decide +kernel) rfl rfl) (
    okc (ok_aload_n (k := 0) (by decide +kernel) rfl rfl) (
    okc (ok_iload_n (k := 2) (by decide +kernel) rfl rfl) (
    okc (ok_callV (SPf_ok _ _ _ _ _ _) (mi := 104) (n := 1) (idx := 117) rfl m_M_isWreck (by decide) cX9_ok w_1126 w_1128 w_22 (by decide +kernel) rfl) (
    okc (ok_if_eq (off := 13) (by decide +kernel) rfl rfl) (
    okc (ok_iload_n (k := 3) (by decide +kernel) rfl rfl) (
    okc (ok_aload_n (k := 0) (by decide +kernel) rfl rfl) (
    okc (ok_iload_n (k := 2) (by decide +kernel) rfl rfl) (
    okc (ok_iconst (n := 2) (by decide +kernel) rfl rfl) (
    okc (ok_callV (SPf_ok _ _ _ _ _ _) (mi := 105) (n := 2) (idx := 88) rfl m_M_of (by decide) cX9_ok w_1130 w_1132 w_23 (by decide +kernel) rfl) (
    okc (ok_cmp_eq (off := 5) (by decide +kernel) rfl rfl) (
    okc (ok_iload_n (k := 2) (by decide +kernel) rfl rfl) (
    okc (ok_iret rfl (by decide +kernel)) (
    okc (ok_iinc (n := 1) (by decide +kernel) rfl rfl) (
    okc (ok_goto (off := -51) (by decide +kernel) rfl) (
    okc (ok_ldc (i := 177) w_1265 (by decide +kernel) rfl) (
    okc (ok_iret rfl (by decide +kernel)) ( okn))))))))))))))))))))))))))))))))))))))))))))))))
def pl_W_copy : List (Nat × mA) := [(0, a_iload 1 1), (1, a_call 143 1 4), (4, a_if (fun x => decide (x = 0)) 14 7), (7, a_iload 3 8), (8, a_call 143 1 11), (11, a_if (fun x => decide (x ≠ 0)) 17 14), (14, a_push (-1000000001) 16), (16, a_iret), (17, a_aload 0 18), (18, a_getR 8 10 5 21), (21, a_iload 1 22), (22, a_aald 6 23), (23, a_astore 6 25), (25, a_aload 0 26), (26, a_getR 8 10 5 29), (29, a_iload 3 30), (30, a_aald 6 31), (31, a_astore 7 33), (33, a_aload 6 35), (35, a_callO 2 3 144 0 38), (38, a_if (fun x => decide (x ≠ 0)) 49 41), (41, a_aload 7 43), (43, a_callO 2 3 144 0 46), (46, a_if (fun x => decide (x = 0)) 52 49), (49, a_push (-1000000011) 51), (51, a_iret), (52, a_aload 6 54), (54, a_getI 2 3 1 57), (57, a_aload 7 59), (59, a_getI 2 3 1 62), (62, a_cmp (fun x y => decide (x = y)) 68 65), (65, a_push (-1000000012) 67), (67, a_iret), (68, a_aload 6 70), (70, a_iload 2 71), (71, a_iload 5 73), (73, a_callO 2 3 164 2 76), (76, a_if (fun x => decide (x = 0)) 91 79), (79, a_aload 7 81), (81, a_iload 4 83), (83, a_iload 5 85), (85, a_callO 2 3 164 2 88), (88, a_if (fun x => decide (x ≠ 0)) 95 91), (91, a_push (-1000000013) 94), (94, a_iret), (95, a_aload 6 97), (97, a_getR 2 3 0 100), (100, a_iload 2 101), (101, a_aload 7 103), (103, a_getR 2 3 0 106), (106, a_iload 4 108), (108, a_iload 5 110), (110, a_copy 113), (113, a_iload 5 115), (115, a_iret)]
set_option maxRecDepth 20000 in
theorem ol_W_copy : okall B sp D cA (SPf B sp Ls xs adK adV) MT ⟨"WreckSky", "copy", "(IIIII)I"⟩ prog_1_method_34_code 8 (Option.some Jvm.ClassFile.FieldType.int) (pl_W_copy) := by
  unfold pl_W_copy
  exact
    okc (ok_iload_n (k := 1) (by decide +kernel) rfl rfl) (
    okc (ok_callS (SPf_ok _ _ _ _ _ _) (mi := 143) (n := 1) (idx := 217) rfl m_W_isSheet (by decide) w_630 w_631 (by decide +kernel) rfl) (
    okc (ok_if_eq (off := 10) (by decide +kernel) rfl rfl) (
    okc (ok_iload_n (k := 3) (by decide +kernel) rfl rfl) (
    okc (ok_callS (SPf_ok _ _ _ _ _ _) (mi := 143) (n := 1) (idx := 217) rfl m_W_isSheet (by decide) w_630 w_631 (by decide +kernel) rfl) (
    okc (ok_if_ne (off := 6) (by decide +kernel) rfl rfl) (
    okc (ok_ldc (i := 79) w_357 (by decide +kernel) rfl) (
    okc (ok_iret rfl (by decide +kernel)) (
    okc (ok_aload_n (k := 0) (by decide +kernel) rfl rfl) (
    okc (ok_getR (k := 5) (idx := 44) cX8_ok (by decide) (by decide +kernel) w_318 (by decide +kernel) rfl) (
    okc (ok_iload_n (k := 1) (by decide +kernel) rfl rfl) (
    okc (ok_aald (C := "WreckSky$Sheet") (by decide) (fun _ => rfl) (by decide +kernel) rfl) (
    okc (ok_astore (by decide +kernel) rfl) (
    okc (ok_aload_n (k := 0) (by decide +kernel) rfl rfl) (
    okc (ok_getR (k := 5) (idx := 44) cX8_ok (by decide) (by decide +kernel) w_318 (by decide +kernel) rfl) (
    okc (ok_iload_n (k := 3) (by decide +kernel) rfl rfl) (
    okc (ok_aald (C := "WreckSky$Sheet") (by decide) (fun _ => rfl) (by decide +kernel) rfl) (
    okc (ok_astore (by decide +kernel) rfl) (
    okc (ok_aload (by decide +kernel) rfl) (
    okc (ok_callV (SPf_ok _ _ _ _ _ _) (mi := 144) (n := 0) (idx := 220) rfl m_H_isMissing (by decide) cX2_ok w_633 w_634 w_635 (by decide +kernel) rfl) (
    okc (ok_if_ne (off := 11) (by decide +kernel) rfl rfl) (
    okc (ok_aload (by decide +kernel) rfl) (
    okc (ok_callV (SPf_ok _ _ _ _ _ _) (mi := 144) (n := 0) (idx := 220) rfl m_H_isMissing (by decide) cX2_ok w_633 w_634 w_635 (by decide +kernel) rfl) (
    okc (ok_if_eq (off := 6) (by decide +kernel) rfl rfl) (
    okc (ok_ldc (i := 224) w_637 (by decide +kernel) rfl) (
    okc (ok_iret rfl (by decide +kernel)) (
    okc (ok_aload (by decide +kernel) rfl) (
    okc (ok_getI (k := 1) (idx := 284) cX2_ok (by decide) (by decide +kernel) w_276 (by decide +kernel) rfl) (
    okc (ok_aload (by decide +kernel) rfl) (
    okc (ok_getI (k := 1) (idx := 284) cX2_ok (by decide) (by decide +kernel) w_276 (by decide +kernel) rfl) (
    okc (ok_cmp_eq (off := 6) (by decide +kernel) rfl rfl) (
    okc (ok_ldc (i := 133) w_422 (by decide +kernel) rfl) (
    okc (ok_iret rfl (by decide +kernel)) (
    okc (ok_aload (by decide +kernel) rfl) (
    okc (ok_iload_n (k := 2) (by decide +kernel) rfl rfl) (
    okc (ok_iload (by decide +kernel) rfl) (
    okc (ok_callV (SPf_ok _ _ _ _ _ _) (mi := 164) (n := 2) (idx := 302) rfl m_H_hasPlaces (by decide) cX2_ok w_922 w_923 w_924 (by decide +kernel) rfl) (
    okc (ok_if_eq (off := 15) (by decide +kernel) rfl rfl) (
    okc (ok_aload (by decide +kernel) rfl) (
    okc (ok_iload (by decide +kernel) rfl) (
    okc (ok_iload (by decide +kernel) rfl) (
    okc (ok_callV (SPf_ok _ _ _ _ _ _) (mi := 164) (n := 2) (idx := 302) rfl m_H_hasPlaces (by decide) cX2_ok w_922 w_923 w_924 (by decide +kernel) rfl) (
    okc (ok_if_ne (off := 7) (by decide +kernel) rfl rfl) (
    okc (ok_ldc_w (i := 283) w_905 (by decide +kernel) rfl) (
    okc (ok_iret rfl (by decide +kernel)) (
    okc (ok_aload (by decide +kernel) rfl) (
    okc (ok_getR (k := 0) (idx := 287) cX2_ok (by decide) (by decide +kernel) w_274 (by decide +kernel) rfl) (
    okc (ok_iload_n (k := 2) (by decide +kernel) rfl rfl) (
    okc (ok_aload (by decide +kernel) rfl) (
    okc (ok_getR (k := 0) (idx := 287) cX2_ok (by decide) (by decide +kernel) w_274 (by decide +kernel) rfl) (
    okc (ok_iload (by decide +kernel) rfl) (
    okc (ok_iload (by decide +kernel) rfl) (
    okc (ok_copy (idx := 305) w_926 w_859 w_858 w_74 (by decide +kernel) rfl) (
    okc (ok_iload (by decide +kernel) rfl) (
    okc (ok_iret rfl (by decide +kernel)) ( okn)))))))))))))))))))))))))))))))))))))))))))))))))))))))
def pl_M_copy_1 : List (Nat × mA) := [(0, a_iload 1 1), (1, a_call 146 1 4), (4, a_if (fun x => decide (x = 0)) 14 7), (7, a_iload 3 8), (8, a_call 146 1 11), (11, a_if (fun x => decide (x ≠ 0)) 17 14), (14, a_push (-1000000001) 16), (16, a_iret), (17, a_aload 0 18), (18, a_getR 9 36 26 21), (21, a_iload 1 22), (22, a_ald 0 23), (23, a_if (fun x => decide (x < 0)) 35 26), (26, a_aload 0 27), (27, a_getR 9 36 26 30), (30, a_iload 3 31), (31, a_ald 0 32), (32, a_if (fun x => decide (0 ≤ x)) 38 35), (35, a_push (-1000000011) 37), (37, a_iret), (38, a_aload 0 39), (39, a_getR 9 36 26 42), (42, a_iload 1 43), (43, a_ald 0 44), (44, a_aload 0 45), (45, a_getR 9 36 26 48), (48, a_iload 3 49), (49, a_ald 0 50), (50, a_cmp (fun x y => decide (x = y)) 56 53), (53, a_push (-1000000012) 55), (55, a_iret), (56, a_iload 2 57), (57, a_if (fun x => decide (x < 0)) 97 60), (60, a_iload 4 62), (62, a_if (fun x => decide (x < 0)) 97 65), (65, a_iload 5 67), (67, a_if (fun x => decide (x < 0)) 97 70), (70, a_iload 2 71), (71, a_aload 0 72), (72, a_getR 9 36 27 75), (75, a_iload 1 76), (76, a_ald 0 77), (77, a_iload 5 79), (79, a_bin (fun x y => x - y) 80), (80, a_cmp (fun x y => decide (y < x)) 97 83), (83, a_iload 4 85), (85, a_aload 0 86), (86, a_getR 9 36 27 89), (89, a_iload 3 90), (90, a_ald 0 91), (91, a_iload 5 93), (93, a_bin (fun x y => x - y) 94), (94, a_cmp (fun x y => decide (x ≤ y)) 101 97), (97, a_push (-1000000013) 100), (100, a_iret), (101, a_push 0 102), (102, a_istore 6 104), (104, a_iload 6 106), (106, a_iload 5 108), (108, a_cmp (fun x y => decide (y ≤ x)) 138 111)]
set_option maxRecDepth 20000 in
theorem ol_M_copy_1 : okall B sp D cA (SPf B sp Ls xs adK adV) MT ⟨"WreckSkyModel", "copy", "(IIIII)I"⟩ prog_11_method_80_code 7 (Option.some Jvm.ClassFile.FieldType.int) (pl_M_copy_1) := by
  unfold pl_M_copy_1
  exact
    okc (ok_iload_n (k := 1) (by decide +kernel) rfl rfl) (
    okc (ok_callS (SPf_ok _ _ _ _ _ _) (mi := 146) (n := 1) (idx := 193) rfl m_M_isSheet (by decide) w_1313 w_1314 (by decide +kernel) rfl) (
    okc (ok_if_eq (off := 10) (by decide +kernel) rfl rfl) (
    okc (ok_iload_n (k := 3) (by decide +kernel) rfl rfl) (
    okc (ok_callS (SPf_ok _ _ _ _ _ _) (mi := 146) (n := 1) (idx := 193) rfl m_M_isSheet (by decide) w_1313 w_1314 (by decide +kernel) rfl) (
    okc (ok_if_ne (off := 6) (by decide +kernel) rfl rfl) (
    okc (ok_ldc (i := 100) w_1112 (by decide +kernel) rfl) (
    okc (ok_iret rfl (by decide +kernel)) (
    okc (ok_aload_n (k := 0) (by decide +kernel) rfl rfl) (
    okc (ok_getR (k := 26) (idx := 57) cX9_ok (by decide) (by decide +kernel) w_1017 (by decide +kernel) rfl) (
    okc (ok_iload_n (k := 1) (by decide +kernel) rfl rfl) (
    okc (ok_iald (by decide +kernel) rfl) (
    okc (ok_if_lt (off := 12) (by decide +kernel) rfl rfl) (
    okc (ok_aload_n (k := 0) (by decide +kernel) rfl rfl) (
    okc (ok_getR (k := 26) (idx := 57) cX9_ok (by decide) (by decide +kernel) w_1017 (by decide +kernel) rfl) (
    okc (ok_iload_n (k := 3) (by decide +kernel) rfl rfl) (
    okc (ok_iald (by decide +kernel) rfl) (
    okc (ok_if_ge (off := 6) (by decide +kernel) rfl rfl) (
    okc (ok_ldc (i := 196) w_1316 (by decide +kernel) rfl) (
    okc (ok_iret rfl (by decide +kernel)) (
    okc (ok_aload_n (k := 0) (by decide +kernel) rfl rfl) (
    okc (ok_getR (k := 26) (idx := 57) cX9_ok (by decide) (by decide +kernel) w_1017 (by decide +kernel) rfl) (
    okc (ok_iload_n (k := 1) (by decide +kernel) rfl rfl) (
    okc (ok_iald (by decide +kernel) rfl) (
    okc (ok_aload_n (k := 0) (by decide +kernel) rfl rfl) (
    okc (ok_getR (k := 26) (idx := 57) cX9_ok (by decide) (by decide +kernel) w_1017 (by decide +kernel) rfl) (
    okc (ok_iload_n (k := 3) (by decide +kernel) rfl rfl) (
    okc (ok_iald (by decide +kernel) rfl) (
    okc (ok_cmp_eq (off := 6) (by decide +kernel) rfl rfl) (
    okc (ok_ldc (i := 133) w_1167 (by decide +kernel) rfl) (
    okc (ok_iret rfl (by decide +kernel)) (
    okc (ok_iload_n (k := 2) (by decide +kernel) rfl rfl) (
    okc (ok_if_lt (off := 40) (by decide +kernel) rfl rfl) (
    okc (ok_iload (by decide +kernel) rfl) (
    okc (ok_if_lt (off := 35) (by decide +kernel) rfl rfl) (
    okc (ok_iload (by decide +kernel) rfl) (
    okc (ok_if_lt (off := 30) (by decide +kernel) rfl rfl) (
    okc (ok_iload_n (k := 2) (by decide +kernel) rfl rfl) (
    okc (ok_aload_n (k := 0) (by decide +kernel) rfl rfl) (
    okc (ok_getR (k := 27) (idx := 60) cX9_ok (by decide) (by decide +kernel) w_1018 (by decide +kernel) rfl) (
    okc (ok_iload_n (k := 1) (by decide +kernel) rfl rfl) (
    okc (ok_iald (by decide +kernel) rfl) (
    okc (ok_iload (by decide +kernel) rfl) (
    okc (ok_isub (by decide +kernel) rfl) (
    okc (ok_cmp_gt (off := 17) (by decide +kernel) rfl rfl) (
    okc (ok_iload (by decide +kernel) rfl) (
    okc (ok_aload_n (k := 0) (by decide +kernel) rfl rfl) (
    okc (ok_getR (k := 27) (idx := 60) cX9_ok (by decide) (by decide +kernel) w_1018 (by decide +kernel) rfl) (
    okc (ok_iload_n (k := 3) (by decide +kernel) rfl rfl) (
    okc (ok_iald (by decide +kernel) rfl) (
    okc (ok_iload (by decide +kernel) rfl) (
    okc (ok_isub (by decide +kernel) rfl) (
    okc (ok_cmp_le (off := 7) (by decide +kernel) rfl rfl) (
    okc (ok_ldc_w (i := 266) w_1397 (by decide +kernel) rfl) (
    okc (ok_iret rfl (by decide +kernel)) (
    okc (ok_iconst (n := 0) (by decide +kernel) rfl rfl) (
    okc (ok_istore (by decide +kernel) rfl) (
    okc (ok_iload (by decide +kernel) rfl) (
    okc (ok_iload (by decide +kernel) rfl) (
    okc (ok_cmp_ge (off := 30) (by decide +kernel) rfl rfl) ( okn))))))))))))))))))))))))))))))))))))))))))))))))))))))))))))
def pl_M_copy_2 : List (Nat × mA) := [(111, a_aload 0 112), (112, a_getR 9 36 33 115), (115, a_iload 6 117), (117, a_aload 0 118), (118, a_getR 9 36 28 121), (121, a_push 24 123), (123, a_iload 1 124), (124, a_bin (fun x y => x * y) 125), (125, a_iload 2 126), (126, a_bin (fun x y => x + y) 127), (127, a_iload 6 129), (129, a_bin (fun x y => x + y) 130), (130, a_ald 0 131), (131, a_ast 0 (fun x => x) 132), (132, a_iinc 6 1 135), (135, a_goto 104), (138, a_push 0 139), (139, a_istore 6 141), (141, a_iload 6 143), (143, a_iload 5 145), (145, a_cmp (fun x y => decide (y ≤ x)) 176 148), (148, a_aload 0 149), (149, a_getR 9 36 28 152), (152, a_push 24 154), (154, a_iload 3 155), (155, a_bin (fun x y => x * y) 156), (156, a_iload 4 158), (158, a_bin (fun x y => x + y) 159), (159, a_iload 6 161), (161, a_bin (fun x y => x + y) 162), (162, a_aload 0 163), (163, a_getR 9 36 33 166), (166, a_iload 6 168), (168, a_ald 0 169), (169, a_ast 0 (fun x => x) 170), (170, a_iinc 6 1 173), (173, a_goto 141), (176, a_iload 5 178), (178, a_iret)]
set_option maxRecDepth 20000 in
theorem ol_M_copy_2 : okall B sp D cA (SPf B sp Ls xs adK adV) MT ⟨"WreckSkyModel", "copy", "(IIIII)I"⟩ prog_11_method_80_code 7 (Option.some Jvm.ClassFile.FieldType.int) (pl_M_copy_2) := by
  unfold pl_M_copy_2
  exact
    okc (ok_aload_n (k := 0) (by decide +kernel) rfl rfl) (
    okc (ok_getR (k := 33) (idx := 78) cX9_ok (by decide) (by decide +kernel) w_1024 (by decide +kernel) rfl) (
    okc (ok_iload (by decide +kernel) rfl) (
    okc (ok_aload_n (k := 0) (by decide +kernel) rfl rfl) (
    okc (ok_getR (k := 28) (idx := 63) cX9_ok (by decide) (by decide +kernel) w_1019 (by decide +kernel) rfl) (
    okc (ok_bipush (n := 24) (by decide +kernel) (by decide +kernel) rfl) (
    okc (ok_iload_n (k := 1) (by decide +kernel) rfl rfl) (
    okc (ok_imul (by decide +kernel) rfl) (
    okc (ok_iload_n (k := 2) (by decide +kernel) rfl rfl) (
    okc (ok_iadd (by decide +kernel) rfl) (
    okc (ok_iload (by decide +kernel) rfl) (
    okc (ok_iadd (by decide +kernel) rfl) (
    okc (ok_iald (by decide +kernel) rfl) (
    okc (ok_iast (by decide +kernel) rfl) (
    okc (ok_iinc (n := 1) (by decide +kernel) rfl rfl) (
    okc (ok_goto (off := -31) (by decide +kernel) rfl) (
    okc (ok_iconst (n := 0) (by decide +kernel) rfl rfl) (
    okc (ok_istore (by decide +kernel) rfl) (
    okc (ok_iload (by decide +kernel) rfl) (
    okc (ok_iload (by decide +kernel) rfl) (
    okc (ok_cmp_ge (off := 31) (by decide +kernel) rfl rfl) (
    okc (ok_aload_n (k := 0) (by decide +kernel) rfl rfl) (
    okc (ok_getR (k := 28) (idx := 63) cX9_ok (by decide) (by decide +kernel) w_1019 (by decide +kernel) rfl) (
    okc (ok_bipush (n := 24) (by decide +kernel) (by decide +kernel) rfl) (
    okc (ok_iload_n (k := 3) (by decide +kernel) rfl rfl) (
    okc (ok_imul (by decide +kernel) rfl) (
    okc (ok_iload (by decide +kernel) rfl) (
    okc (ok_iadd (by decide +kernel) rfl) (
    okc (ok_iload (by decide +kernel) rfl) (
    okc (ok_iadd (by decide +kernel) rfl) (
    okc (ok_aload_n (k := 0) (by decide +kernel) rfl rfl) (
    okc (ok_getR (k := 33) (idx := 78) cX9_ok (by decide) (by decide +kernel) w_1024 (by decide +kernel) rfl) (
    okc (ok_iload (by decide +kernel) rfl) (
    okc (ok_iald (by decide +kernel) rfl) (
    okc (ok_iast (by decide +kernel) rfl) (
    okc (ok_iinc (n := 1) (by decide +kernel) rfl rfl) (
    okc (ok_goto (off := -32) (by decide +kernel) rfl) (
    okc (ok_iload (by decide +kernel) rfl) (
    okc (ok_iret rfl (by decide +kernel)) ( okn)))))))))))))))))))))))))))))))))))))))
def pl_M_copy : List (Nat × mA) := pl_M_copy_1 ++ (pl_M_copy_2)
theorem ol_M_copy : okall B sp D cA (SPf B sp Ls xs adK adV) MT ⟨"WreckSkyModel", "copy", "(IIIII)I"⟩ prog_11_method_80_code 7 (Option.some Jvm.ClassFile.FieldType.int) (pl_M_copy) := oka ol_M_copy_1 (ol_M_copy_2)
def pl_W_lay_1 : List (Nat × mA) := [(0, a_iload 1 1), (1, a_call 165 1 4), (4, a_if (fun x => decide (x = 0)) 16 7), (7, a_iload 2 8), (8, a_push 0 9), (9, a_push 3 10), (10, a_call 94 3 13), (13, a_if (fun x => decide (x ≠ 0)) 19 16), (16, a_push (-1000000001) 18), (18, a_iret), (19, a_iload 2 20), (20, a_push 1 21), (21, a_cmp (fun x y => decide (x ≠ y)) 35 24), (24, a_aload 0 25), (25, a_getR 8 10 0 28), (28, a_iload 3 29), (29, a_callO 3 11 100 1 32), (32, a_if (fun x => decide (x = 0)) 47 35), (35, a_iload 2 36), (36, a_push 2 37), (37, a_cmp (fun x y => decide (x ≠ y)) 50 40), (40, a_iload 3 41), (41, a_call 143 1 44), (44, a_if (fun x => decide (x ≠ 0)) 50 47), (47, a_push (-1000000001) 49), (49, a_iret), (50, a_iload 2 51), (51, a_push 2 52), (52, a_cmp (fun x y => decide (x ≠ y)) 70 55), (55, a_aload 0 56), (56, a_getR 8 10 5 59), (59, a_iload 3 60), (60, a_aald 6 61), (61, a_callO 2 3 144 0 64), (64, a_if (fun x => decide (x = 0)) 70 67), (67, a_push (-1000000011) 69), (69, a_iret), (70, a_aload 0 71), (71, a_getR 8 10 6 74), (74, a_iload 1 75), (75, a_aald 7 76), (76, a_astore 4 78), (78, a_aload 4 80), (80, a_getI 4 4 3 83), (83, a_istore 5 85), (85, a_aload 4 87), (87, a_iload 2 88), (88, a_putI 4 4 3 91), (91, a_iload 2 92), (92, a_push 1 93), (93, a_cmp (fun x y => decide (x ≠ y)) 116 96), (96, a_aload 4 98), (98, a_getR 4 4 0 101), (101, a_aload 0 102), (102, a_getR 8 10 0 105), (105, a_getR 3 11 0 108), (108, a_iload 3 109), (109, a_aald 4 110), (110, a_callO 7 6 166 1 113), (113, a_goto 144)]
set_option maxRecDepth 20000 in
theorem ol_W_lay_1 : okall B sp D cA (SPf B sp Ls xs adK adV) MT ⟨"WreckSky", "lay", "(III)I"⟩ prog_1_method_35_code 6 (Option.some Jvm.ClassFile.FieldType.int) (pl_W_lay_1) := by
  unfold pl_W_lay_1
  exact
    okc (ok_iload_n (k := 1) (by decide +kernel) rfl rfl) (
    okc (ok_callS (SPf_ok _ _ _ _ _ _) (mi := 165) (n := 1) (idx := 311) rfl m_W_isSlot (by decide) w_931 w_932 (by decide +kernel) rfl) (
    okc (ok_if_eq (off := 12) (by decide +kernel) rfl rfl) (
    okc (ok_iload_n (k := 2) (by decide +kernel) rfl rfl) (
    okc (ok_iconst (n := 0) (by decide +kernel) rfl rfl) (
    okc (ok_iconst (n := 3) (by decide +kernel) rfl rfl) (
    okc (ok_callS (SPf_ok _ _ _ _ _ _) (mi := 94) (n := 3) (idx := 72) rfl m_W_within (by decide) w_351 w_352 (by decide +kernel) rfl) (
    okc (ok_if_ne (off := 6) (by decide +kernel) rfl rfl) (
    okc (ok_ldc (i := 79) w_357 (by decide +kernel) rfl) (
    okc (ok_iret rfl (by decide +kernel)) (
    okc (ok_iload_n (k := 2) (by decide +kernel) rfl rfl) (
    okc (ok_iconst (n := 1) (by decide +kernel) rfl rfl) (
    okc (ok_cmp_ne (off := 14) (by decide +kernel) rfl rfl) (
    okc (ok_aload_n (k := 0) (by decide +kernel) rfl rfl) (
    okc (ok_getR (k := 0) (idx := 10) cX8_ok (by decide) (by decide +kernel) w_313 (by decide +kernel) rfl) (
    okc (ok_iload_n (k := 3) (by decide +kernel) rfl rfl) (
    okc (ok_callV (SPf_ok _ _ _ _ _ _) (mi := 100) (n := 1) (idx := 88) rfl m_S_hasWreck (by decide) cX3_ok w_367 w_368 w_369 (by decide +kernel) rfl) (
    okc (ok_if_eq (off := 15) (by decide +kernel) rfl rfl) (
    okc (ok_iload_n (k := 2) (by decide +kernel) rfl rfl) (
    okc (ok_iconst (n := 2) (by decide +kernel) rfl rfl) (
    okc (ok_cmp_ne (off := 13) (by decide +kernel) rfl rfl) (
    okc (ok_iload_n (k := 3) (by decide +kernel) rfl rfl) (
    okc (ok_callS (SPf_ok _ _ _ _ _ _) (mi := 143) (n := 1) (idx := 217) rfl m_W_isSheet (by decide) w_630 w_631 (by decide +kernel) rfl) (
    okc (ok_if_ne (off := 6) (by decide +kernel) rfl rfl) (
    okc (ok_ldc (i := 79) w_357 (by decide +kernel) rfl) (
    okc (ok_iret rfl (by decide +kernel)) (
    okc (ok_iload_n (k := 2) (by decide +kernel) rfl rfl) (
    okc (ok_iconst (n := 2) (by decide +kernel) rfl rfl) (
    okc (ok_cmp_ne (off := 18) (by decide +kernel) rfl rfl) (
    okc (ok_aload_n (k := 0) (by decide +kernel) rfl rfl) (
    okc (ok_getR (k := 5) (idx := 44) cX8_ok (by decide) (by decide +kernel) w_318 (by decide +kernel) rfl) (
    okc (ok_iload_n (k := 3) (by decide +kernel) rfl rfl) (
    okc (ok_aald (C := "WreckSky$Sheet") (by decide) (fun _ => rfl) (by decide +kernel) rfl) (
    okc (ok_callV (SPf_ok _ _ _ _ _ _) (mi := 144) (n := 0) (idx := 220) rfl m_H_isMissing (by decide) cX2_ok w_633 w_634 w_635 (by decide +kernel) rfl) (
    okc (ok_if_eq (off := 6) (by decide +kernel) rfl rfl) (
    okc (ok_ldc (i := 224) w_637 (by decide +kernel) rfl) (
    okc (ok_iret rfl (by decide +kernel)) (
    okc (ok_aload_n (k := 0) (by decide +kernel) rfl rfl) (
    okc (ok_getR (k := 6) (idx := 50) cX8_ok (by decide) (by decide +kernel) w_319 (by decide +kernel) rfl) (
    okc (ok_iload_n (k := 1) (by decide +kernel) rfl rfl) (
    okc (ok_aald (C := "WreckSky$Slot") (by decide) (fun _ => rfl) (by decide +kernel) rfl) (
    okc (ok_astore (by decide +kernel) rfl) (
    okc (ok_aload (by decide +kernel) rfl) (
    okc (ok_getI (k := 3) (idx := 314) cX4_ok (by decide) (by decide +kernel) w_303 (by decide +kernel) rfl) (
    okc (ok_istore (by decide +kernel) rfl) (
    okc (ok_aload (by decide +kernel) rfl) (
    okc (ok_iload_n (k := 2) (by decide +kernel) rfl rfl) (
    okc (ok_putI (k := 3) (idx := 314) cX4_ok (by decide) rfl rfl w_303 (by decide +kernel) rfl) (
    okc (ok_iload_n (k := 2) (by decide +kernel) rfl rfl) (
    okc (ok_iconst (n := 1) (by decide +kernel) rfl rfl) (
    okc (ok_cmp_ne (off := 23) (by decide +kernel) rfl rfl) (
    okc (ok_aload (by decide +kernel) rfl) (
    okc (ok_getR (k := 0) (idx := 317) cX4_ok (by decide) (by decide +kernel) w_297 (by decide +kernel) rfl) (
    okc (ok_aload_n (k := 0) (by decide +kernel) rfl rfl) (
    okc (ok_getR (k := 0) (idx := 10) cX8_ok (by decide) (by decide +kernel) w_313 (by decide +kernel) rfl) (
    okc (ok_getR (k := 0) (idx := 91) cX3_ok (by decide) (by decide +kernel) w_135 (by decide +kernel) rfl) (
    okc (ok_iload_n (k := 3) (by decide +kernel) rfl rfl) (
    okc (ok_aald (C := "WreckSky$Wreck") (by decide) (fun _ => rfl) (by decide +kernel) rfl) (
    okc (ok_callV (SPf_ok _ _ _ _ _ _) (mi := 166) (n := 1) (idx := 321) rfl m_K_becomeAs (by decide) cX7_ok w_934 w_525 w_526 (by decide +kernel) rfl) (
    okc (ok_goto (off := 31) (by decide +kernel) rfl) ( okn))))))))))))))))))))))))))))))))))))))))))))))))))))))))))))
def pl_W_lay_2 : List (Nat × mA) := [(116, a_iload 2 117), (117, a_push 2 118), (118, a_cmp (fun x y => decide (x ≠ y)) 138 121), (121, a_aload 4 123), (123, a_getR 4 4 1 126), (126, a_aload 0 127), (127, a_getR 8 10 5 130), (130, a_iload 3 131), (131, a_aald 6 132), (132, a_callO 2 3 167 1 135), (135, a_goto 144), (138, a_aload 4 140), (140, a_iload 3 141), (141, a_putI 4 4 2 144), (144, a_iload 5 146), (146, a_iret)]
set_option maxRecDepth 20000 in
theorem ol_W_lay_2 : okall B sp D cA (SPf B sp Ls xs adK adV) MT ⟨"WreckSky", "lay", "(III)I"⟩ prog_1_method_35_code 6 (Option.some Jvm.ClassFile.FieldType.int) (pl_W_lay_2) := by
  unfold pl_W_lay_2
  exact
    okc (ok_iload_n (k := 2) (by decide +kernel) rfl rfl) (
    okc (ok_iconst (n := 2) (by decide +kernel) rfl rfl) (
    okc (ok_cmp_ne (off := 20) (by decide +kernel) rfl rfl) (
    okc (ok_aload (by decide +kernel) rfl) (
    okc (ok_getR (k := 1) (idx := 325) cX4_ok (by decide) (by decide +kernel) w_299 (by decide +kernel) rfl) (
    okc (ok_aload_n (k := 0) (by decide +kernel) rfl rfl) (
    okc (ok_getR (k := 5) (idx := 44) cX8_ok (by decide) (by decide +kernel) w_318 (by decide +kernel) rfl) (
    okc (ok_iload_n (k := 3) (by decide +kernel) rfl rfl) (
    okc (ok_aald (C := "WreckSky$Sheet") (by decide) (fun _ => rfl) (by decide +kernel) rfl) (
    okc (ok_callV (SPf_ok _ _ _ _ _ _) (mi := 167) (n := 1) (idx := 329) rfl m_H_becomeAs (by decide) cX2_ok w_935 w_936 w_937 (by decide +kernel) rfl) (
    okc (ok_goto (off := 9) (by decide +kernel) rfl) (
    okc (ok_aload (by decide +kernel) rfl) (
    okc (ok_iload_n (k := 3) (by decide +kernel) rfl rfl) (
    okc (ok_putI (k := 2) (idx := 332) cX4_ok (by decide) rfl rfl w_301 (by decide +kernel) rfl) (
    okc (ok_iload (by decide +kernel) rfl) (
    okc (ok_iret rfl (by decide +kernel)) ( okn))))))))))))))))
def pl_W_lay : List (Nat × mA) := pl_W_lay_1 ++ (pl_W_lay_2)
theorem ol_W_lay : okall B sp D cA (SPf B sp Ls xs adK adV) MT ⟨"WreckSky", "lay", "(III)I"⟩ prog_1_method_35_code 6 (Option.some Jvm.ClassFile.FieldType.int) (pl_W_lay) := oka ol_W_lay_1 (ol_W_lay_2)
def pl_M_lay_1 : List (Nat × mA) := [(0, a_iload 1 1), (1, a_call 168 1 4), (4, a_if (fun x => decide (x = 0)) 41 7), (7, a_iload 2 8), (8, a_push 0 9), (9, a_push 3 10), (10, a_call 97 3 13), (13, a_if (fun x => decide (x = 0)) 41 16), (16, a_iload 2 17), (17, a_push 1 18), (18, a_cmp (fun x y => decide (x ≠ y)) 29 21), (21, a_aload 0 22), (22, a_iload 3 23), (23, a_callO 9 36 104 1 26), (26, a_if (fun x => decide (x = 0)) 41 29), (29, a_iload 2 30), (30, a_push 2 31), (31, a_cmp (fun x y => decide (x ≠ y)) 44 34), (34, a_iload 3 35), (35, a_call 146 1 38), (38, a_if (fun x => decide (x ≠ 0)) 44 41), (41, a_push (-1000000001) 43), (43, a_iret), (44, a_iload 2 45), (45, a_push 2 46), (46, a_cmp (fun x y => decide (x ≠ y)) 61 49), (49, a_aload 0 50), (50, a_getR 9 36 26 53), (53, a_iload 3 54), (54, a_ald 0 55), (55, a_if (fun x => decide (0 ≤ x)) 61 58), (58, a_push (-1000000011) 60), (60, a_iret), (61, a_aload 0 62), (62, a_getR 9 36 29 65), (65, a_iload 1 66), (66, a_ald 0 67), (67, a_istore 4 69), (69, a_aload 0 70), (70, a_getR 9 36 29 73), (73, a_iload 1 74), (74, a_iload 2 75), (75, a_ast 0 (fun x => x) 76), (76, a_aload 0 77), (77, a_getR 9 36 30 80), (80, a_iload 1 81), (81, a_iload 2 82), (82, a_push 1 83), (83, a_cmp (fun x y => decide (x ≠ y)) 95 86), (86, a_aload 0 87), (87, a_iload 3 88), (88, a_push 0 89), (89, a_callO 9 36 105 2 92), (92, a_goto 110), (95, a_iload 2 96), (96, a_push 2 97), (97, a_cmp (fun x y => decide (x ≠ y)) 109 100), (100, a_aload 0 101), (101, a_getR 9 36 27 104), (104, a_iload 3 105)]
set_option maxRecDepth 20000 in
theorem ol_M_lay_1 : okall B sp D cA (SPf B sp Ls xs adK adV) MT ⟨"WreckSkyModel", "lay", "(III)I"⟩ prog_11_method_81_code 6 (Option.some Jvm.ClassFile.FieldType.int) (pl_M_lay_1) := by
  unfold pl_M_lay_1
  exact
    okc (ok_iload_n (k := 1) (by decide +kernel) rfl rfl) (
    okc (ok_callS (SPf_ok _ _ _ _ _ _) (mi := 168) (n := 1) (idx := 269) rfl m_M_isSlot (by decide) w_1416 w_1417 (by decide +kernel) rfl) (
    okc (ok_if_eq (off := 37) (by decide +kernel) rfl rfl) (
    okc (ok_iload_n (k := 2) (by decide +kernel) rfl rfl) (
    okc (ok_iconst (n := 0) (by decide +kernel) rfl rfl) (
    okc (ok_iconst (n := 3) (by decide +kernel) rfl rfl) (
    okc (ok_callS (SPf_ok _ _ _ _ _ _) (mi := 97) (n := 3) (idx := 84) rfl m_M_in (by decide) w_1106 w_1107 (by decide +kernel) rfl) (
    okc (ok_if_eq (off := 28) (by decide +kernel) rfl rfl) (
    okc (ok_iload_n (k := 2) (by decide +kernel) rfl rfl) (
    okc (ok_iconst (n := 1) (by decide +kernel) rfl rfl) (
    okc (ok_cmp_ne (off := 11) (by decide +kernel) rfl rfl) (
    okc (ok_aload_n (k := 0) (by decide +kernel) rfl rfl) (
    okc (ok_iload_n (k := 3) (by decide +kernel) rfl rfl) (
    okc (ok_callV (SPf_ok _ _ _ _ _ _) (mi := 104) (n := 1) (idx := 117) rfl m_M_isWreck (by decide) cX9_ok w_1126 w_1128 w_22 (by decide +kernel) rfl) (
    okc (ok_if_eq (off := 15) (by decide +kernel) rfl rfl) (
    okc (ok_iload_n (k := 2) (by decide +kernel) rfl rfl) (
    okc (ok_iconst (n := 2) (by decide +kernel) rfl rfl) (
    okc (ok_cmp_ne (off := 13) (by decide +kernel) rfl rfl) (
    okc (ok_iload_n (k := 3) (by decide +kernel) rfl rfl) (
    okc (ok_callS (SPf_ok _ _ _ _ _ _) (mi := 146) (n := 1) (idx := 193) rfl m_M_isSheet (by decide) w_1313 w_1314 (by decide +kernel) rfl) (
    okc (ok_if_ne (off := 6) (by decide +kernel) rfl rfl) (
    okc (ok_ldc (i := 100) w_1112 (by decide +kernel) rfl) (
    okc (ok_iret rfl (by decide +kernel)) (
    okc (ok_iload_n (k := 2) (by decide +kernel) rfl rfl) (
    okc (ok_iconst (n := 2) (by decide +kernel) rfl rfl) (
    okc (ok_cmp_ne (off := 15) (by decide +kernel) rfl rfl) (
    okc (ok_aload_n (k := 0) (by decide +kernel) rfl rfl) (
    okc (ok_getR (k := 26) (idx := 57) cX9_ok (by decide) (by decide +kernel) w_1017 (by decide +kernel) rfl) (
    okc (ok_iload_n (k := 3) (by decide +kernel) rfl rfl) (
    okc (ok_iald (by decide +kernel) rfl) (
    okc (ok_if_ge (off := 6) (by decide +kernel) rfl rfl) (
    okc (ok_ldc (i := 196) w_1316 (by decide +kernel) rfl) (
    okc (ok_iret rfl (by decide +kernel)) (
    okc (ok_aload_n (k := 0) (by decide +kernel) rfl rfl) (
    okc (ok_getR (k := 29) (idx := 66) cX9_ok (by decide) (by decide +kernel) w_1020 (by decide +kernel) rfl) (
    okc (ok_iload_n (k := 1) (by decide +kernel) rfl rfl) (
    okc (ok_iald (by decide +kernel) rfl) (
    okc (ok_istore (by decide +kernel) rfl) (
    okc (ok_aload_n (k := 0) (by decide +kernel) rfl rfl) (
    okc (ok_getR (k := 29) (idx := 66) cX9_ok (by decide) (by decide +kernel) w_1020 (by decide +kernel) rfl) (
    okc (ok_iload_n (k := 1) (by decide +kernel) rfl rfl) (
    okc (ok_iload_n (k := 2) (by decide +kernel) rfl rfl) (
    okc (ok_iast (by decide +kernel) rfl) (
    okc (ok_aload_n (k := 0) (by decide +kernel) rfl rfl) (
    okc (ok_getR (k := 30) (idx := 69) cX9_ok (by decide) (by decide +kernel) w_1021 (by decide +kernel) rfl) (
    okc (ok_iload_n (k := 1) (by decide +kernel) rfl rfl) (
    okc (ok_iload_n (k := 2) (by decide +kernel) rfl rfl) (
    okc (ok_iconst (n := 1) (by decide +kernel) rfl rfl) (
    okc (ok_cmp_ne (off := 12) (by decide +kernel) rfl rfl) (
    okc (ok_aload_n (k := 0) (by decide +kernel) rfl rfl) (
    okc (ok_iload_n (k := 3) (by decide +kernel) rfl rfl) (
    okc (ok_iconst (n := 0) (by decide +kernel) rfl rfl) (
    okc (ok_callV (SPf_ok _ _ _ _ _ _) (mi := 105) (n := 2) (idx := 88) rfl m_M_of (by decide) cX9_ok w_1130 w_1132 w_23 (by decide +kernel) rfl) (
    okc (ok_goto (off := 18) (by decide +kernel) rfl) (
    okc (ok_iload_n (k := 2) (by decide +kernel) rfl rfl) (
    okc (ok_iconst (n := 2) (by decide +kernel) rfl rfl) (
    okc (ok_cmp_ne (off := 12) (by decide +kernel) rfl rfl) (
    okc (ok_aload_n (k := 0) (by decide +kernel) rfl rfl) (
    okc (ok_getR (k := 27) (idx := 60) cX9_ok (by decide) (by decide +kernel) w_1018 (by decide +kernel) rfl) (
    okc (ok_iload_n (k := 3) (by decide +kernel) rfl rfl) ( okn))))))))))))))))))))))))))))))))))))))))))))))))))))))))))))
def pl_M_lay_2 : List (Nat × mA) := [(105, a_ald 0 106), (106, a_goto 110), (109, a_iload 3 110), (110, a_ast 0 (fun x => x) 111), (111, a_aload 0 112), (112, a_getR 9 36 31 115), (115, a_iload 1 116), (116, a_iload 2 117), (117, a_push 1 118), (118, a_cmp (fun x y => decide (x ≠ y)) 129 121), (121, a_aload 0 122), (122, a_iload 3 123), (123, a_callO 9 36 108 1 126), (126, a_goto 130), (129, a_push 0 130), (130, a_ast 0 (fun x => x) 131), (131, a_push 0 132), (132, a_istore 5 134), (134, a_iload 5 136), (136, a_push 24 138), (138, a_cmp (fun x y => decide (y ≤ x)) 176 141), (141, a_iload 2 142), (142, a_push 2 143), (143, a_cmp (fun x y => decide (x ≠ y)) 176 146), (146, a_aload 0 147), (147, a_getR 9 36 32 150), (150, a_push 24 152), (152, a_iload 1 153), (153, a_bin (fun x y => x * y) 154), (154, a_iload 5 156), (156, a_bin (fun x y => x + y) 157), (157, a_aload 0 158), (158, a_getR 9 36 28 161), (161, a_push 24 163), (163, a_iload 3 164), (164, a_bin (fun x y => x * y) 165), (165, a_iload 5 167), (167, a_bin (fun x y => x + y) 168), (168, a_ald 0 169), (169, a_ast 0 (fun x => x) 170), (170, a_iinc 5 1 173), (173, a_goto 134), (176, a_iload 4 178), (178, a_iret)]
set_option maxRecDepth 20000 in
theorem ol_M_lay_2 : okall B sp D cA (SPf B sp Ls xs adK adV) MT ⟨"WreckSkyModel", "lay", "(III)I"⟩ prog_11_method_81_code 6 (Option.some Jvm.ClassFile.FieldType.int) (pl_M_lay_2) := by
  unfold pl_M_lay_2
  exact
    okc (ok_iald (by decide +kernel) rfl) (
    okc (ok_goto (off := 4) (by decide +kernel) rfl) (
    okc (ok_iload_n (k := 3) (by decide +kernel) rfl rfl) (
    okc (ok_iast (by decide +kernel) rfl) (
    okc (ok_aload_n (k := 0) (by decide +kernel) rfl rfl) (
    okc (ok_getR (k := 31) (idx := 72) cX9_ok (by decide) (by decide +kernel) w_1022 (by decide +kernel) rfl) (
    okc (ok_iload_n (k := 1) (by decide +kernel) rfl rfl) (
    okc (ok_iload_n (k := 2) (by decide +kernel) rfl rfl) (
    okc (ok_iconst (n := 1) (by decide +kernel) rfl rfl) (
    okc (ok_cmp_ne (off := 11) (by decide +kernel) rfl rfl) (
    okc (ok_aload_n (k := 0) (by decide +kernel) rfl rfl) (
    okc (ok_iload_n (k := 3) (by decide +kernel) rfl rfl) (
    okc (ok_callV (SPf_ok _ _ _ _ _ _) (mi := 108) (n := 1) (idx := 127) rfl m_M_worthOf (by decide) cX9_ok w_1156 w_1158 w_28 (by decide +kernel) rfl) (
    okc (ok_goto (off := 4) (by decide +kernel) rfl) (
    okc (ok_iconst (n := 0) (by decide +kernel) rfl rfl) (
    okc (ok_iast (by decide +kernel) rfl) (
    okc (ok_iconst (n := 0) (by decide +kernel) rfl rfl) (
    okc (ok_istore (by decide +kernel) rfl) (
    okc (ok_iload (by decide +kernel) rfl) (
    okc (ok_bipush (n := 24) (by decide +kernel) (by decide +kernel) rfl) (
    okc (ok_cmp_ge (off := 38) (by decide +kernel) rfl rfl) (
    okc (ok_iload_n (k := 2) (by decide +kernel) rfl rfl) (
    okc (ok_iconst (n := 2) (by decide +kernel) rfl rfl) (
    okc (ok_cmp_ne (off := 33) (by decide +kernel) rfl rfl) (
    okc (ok_aload_n (k := 0) (by decide +kernel) rfl rfl) (
    okc (ok_getR (k := 32) (idx := 75) cX9_ok (by decide) (by decide +kernel) w_1023 (by decide +kernel) rfl) (
    okc (ok_bipush (n := 24) (by decide +kernel) (by decide +kernel) rfl) (
    okc (ok_iload_n (k := 1) (by decide +kernel) rfl rfl) (
    okc (ok_imul (by decide +kernel) rfl) (
    okc (ok_iload (by decide +kernel) rfl) (
    okc (ok_iadd (by decide +kernel) rfl) (
    okc (ok_aload_n (k := 0) (by decide +kernel) rfl rfl) (
    okc (ok_getR (k := 28) (idx := 63) cX9_ok (by decide) (by decide +kernel) w_1019 (by decide +kernel) rfl) (
    okc (ok_bipush (n := 24) (by decide +kernel) (by decide +kernel) rfl) (
    okc (ok_iload_n (k := 3) (by decide +kernel) rfl rfl) (
    okc (ok_imul (by decide +kernel) rfl) (
    okc (ok_iload (by decide +kernel) rfl) (
    okc (ok_iadd (by decide +kernel) rfl) (
    okc (ok_iald (by decide +kernel) rfl) (
    okc (ok_iast (by decide +kernel) rfl) (
    okc (ok_iinc (n := 1) (by decide +kernel) rfl rfl) (
    okc (ok_goto (off := -39) (by decide +kernel) rfl) (
    okc (ok_iload (by decide +kernel) rfl) (
    okc (ok_iret rfl (by decide +kernel)) ( okn))))))))))))))))))))))))))))))))))))))))))))
def pl_M_lay : List (Nat × mA) := pl_M_lay_1 ++ (pl_M_lay_2)
theorem ol_M_lay : okall B sp D cA (SPf B sp Ls xs adK adV) MT ⟨"WreckSkyModel", "lay", "(III)I"⟩ prog_11_method_81_code 6 (Option.some Jvm.ClassFile.FieldType.int) (pl_M_lay) := oka ol_M_lay_1 (ol_M_lay_2)
def pl_W_ask : List (Nat × mA) := [(0, a_iload 1 1), (1, a_call 165 1 4), (4, a_if (fun x => decide (x = 0)) 14 7), (7, a_iload 2 8), (8, a_call 93 1 11), (11, a_if (fun x => decide (x ≠ 0)) 17 14), (14, a_push (-1000000001) 16), (16, a_iret), (17, a_aload 0 18), (18, a_iload 1 19), (19, a_push 1 20), (20, a_callO 8 10 169 2 23), (23, a_istore 3 24), (24, a_iload 3 25), (25, a_if (fun x => decide (x = 0)) 30 28), (28, a_iload 3 29), (29, a_iret), (30, a_aload 0 31), (31, a_getR 8 10 6 34), (34, a_iload 1 35), (35, a_aald 7 36), (36, a_getR 4 4 0 39), (39, a_astore 4 41), (41, a_aload 4 43), (43, a_iload 2 44), (44, a_callO 7 6 109 1 47), (47, a_if (fun x => decide (x = 0)) 58 50), (50, a_aload 4 52), (52, a_callO 7 6 103 0 55), (55, a_goto 60), (58, a_push (-1000000012) 60), (60, a_iret)]
set_option maxRecDepth 20000 in
theorem ol_W_ask : okall B sp D cA (SPf B sp Ls xs adK adV) MT ⟨"WreckSky", "ask", "(II)I"⟩ prog_1_method_36_code 5 (Option.some Jvm.ClassFile.FieldType.int) (pl_W_ask) := by
  unfold pl_W_ask
  exact
    okc (ok_iload_n (k := 1) (by decide +kernel) rfl rfl) (
    okc (ok_callS (SPf_ok _ _ _ _ _ _) (mi := 165) (n := 1) (idx := 311) rfl m_W_isSlot (by decide) w_931 w_932 (by decide +kernel) rfl) (
    okc (ok_if_eq (off := 10) (by decide +kernel) rfl rfl) (
    okc (ok_iload_n (k := 2) (by decide +kernel) rfl rfl) (
    okc (ok_callS (SPf_ok _ _ _ _ _ _) (mi := 93) (n := 1) (idx := 68) rfl m_W_isKind (by decide) w_348 w_349 (by decide +kernel) rfl) (
    okc (ok_if_ne (off := 6) (by decide +kernel) rfl rfl) (
    okc (ok_ldc (i := 79) w_357 (by decide +kernel) rfl) (
    okc (ok_iret rfl (by decide +kernel)) (
    okc (ok_aload_n (k := 0) (by decide +kernel) rfl rfl) (
    okc (ok_iload_n (k := 1) (by decide +kernel) rfl rfl) (
    okc (ok_iconst (n := 1) (by decide +kernel) rfl rfl) (
    okc (ok_callV (SPf_ok _ _ _ _ _ _) (mi := 169) (n := 2) (idx := 335) rfl m_W_findingUnless (by decide) cX8_ok w_944 w_946 w_19 (by decide +kernel) rfl) (
    okc (ok_istore_n (k := 3) (by decide +kernel) rfl rfl) (
    okc (ok_iload_n (k := 3) (by decide +kernel) rfl rfl) (
    okc (ok_if_eq (off := 5) (by decide +kernel) rfl rfl) (
    okc (ok_iload_n (k := 3) (by decide +kernel) rfl rfl) (
    okc (ok_iret rfl (by decide +kernel)) (
    okc (ok_aload_n (k := 0) (by decide +kernel) rfl rfl) (
    okc (ok_getR (k := 6) (idx := 50) cX8_ok (by decide) (by decide +kernel) w_319 (by decide +kernel) rfl) (
    okc (ok_iload_n (k := 1) (by decide +kernel) rfl rfl) (
    okc (ok_aald (C := "WreckSky$Slot") (by decide) (fun _ => rfl) (by decide +kernel) rfl) (
    okc (ok_getR (k := 0) (idx := 317) cX4_ok (by decide) (by decide +kernel) w_297 (by decide +kernel) rfl) (
    okc (ok_astore (by decide +kernel) rfl) (
    okc (ok_aload (by decide +kernel) rfl) (
    okc (ok_iload_n (k := 2) (by decide +kernel) rfl rfl) (
    okc (ok_callV (SPf_ok _ _ _ _ _ _) (mi := 109) (n := 1) (idx := 130) rfl m_K_isOf (by decide) cX7_ok w_416 w_417 w_418 (by decide +kernel) rfl) (
    okc (ok_if_eq (off := 11) (by decide +kernel) rfl rfl) (
    okc (ok_aload (by decide +kernel) rfl) (
    okc (ok_callV (SPf_ok _ _ _ _ _ _) (mi := 103) (n := 0) (idx := 126) rfl m_K_worth (by decide) cX7_ok w_408 w_409 w_410 (by decide +kernel) rfl) (
    okc (ok_goto (off := 5) (by decide +kernel) rfl) (
    okc (ok_ldc (i := 133) w_422 (by decide +kernel) rfl) (
    okc (ok_iret rfl (by decide +kernel)) ( okn))))))))))))))))))))))))))))))))
def pl_M_ask : List (Nat × mA) := [(0, a_iload 1 1), (1, a_call 168 1 4), (4, a_if (fun x => decide (x = 0)) 16 7), (7, a_iload 2 8), (8, a_push 0 9), (9, a_push 5 10), (10, a_call 97 3 13), (13, a_if (fun x => decide (x ≠ 0)) 19 16), (16, a_push (-1000000001) 18), (18, a_iret), (19, a_aload 0 20), (20, a_getR 9 36 29 23), (23, a_iload 1 24), (24, a_ald 0 25), (25, a_if (fun x => decide (x ≠ 0)) 31 28), (28, a_push (-1000000011) 30), (30, a_iret), (31, a_aload 0 32), (32, a_getR 9 36 29 35), (35, a_iload 1 36), (36, a_ald 0 37), (37, a_push 1 38), (38, a_cmp (fun x y => decide (x ≠ y)) 63 41), (41, a_aload 0 42), (42, a_getR 9 36 30 45), (45, a_iload 1 46), (46, a_ald 0 47), (47, a_iload 2 48), (48, a_call 110 2 51), (51, a_if (fun x => decide (x = 0)) 63 54), (54, a_aload 0 55), (55, a_getR 9 36 31 58), (58, a_iload 1 59), (59, a_ald 0 60), (60, a_goto 65), (63, a_push (-1000000012) 65), (65, a_iret)]
set_option maxRecDepth 20000 in
theorem ol_M_ask : okall B sp D cA (SPf B sp Ls xs adK adV) MT ⟨"WreckSkyModel", "ask", "(II)I"⟩ prog_11_method_82_code 3 (Option.some Jvm.ClassFile.FieldType.int) (pl_M_ask) := by
  unfold pl_M_ask
  exact
    okc (ok_iload_n (k := 1) (by decide +kernel) rfl rfl) (
    okc (ok_callS (SPf_ok _ _ _ _ _ _) (mi := 168) (n := 1) (idx := 269) rfl m_M_isSlot (by decide) w_1416 w_1417 (by decide +kernel) rfl) (
    okc (ok_if_eq (off := 12) (by decide +kernel) rfl rfl) (
    okc (ok_iload_n (k := 2) (by decide +kernel) rfl rfl) (
    okc (ok_iconst (n := 0) (by decide +kernel) rfl rfl) (
    okc (ok_iconst (n := 5) (by decide +kernel) rfl rfl) (
    okc (ok_callS (SPf_ok _ _ _ _ _ _) (mi := 97) (n := 3) (idx := 84) rfl m_M_in (by decide) w_1106 w_1107 (by decide +kernel) rfl) (
    okc (ok_if_ne (off := 6) (by decide +kernel) rfl rfl) (
    okc (ok_ldc (i := 100) w_1112 (by decide +kernel) rfl) (
    okc (ok_iret rfl (by decide +kernel)) (
    okc (ok_aload_n (k := 0) (by decide +kernel) rfl rfl) (
    okc (ok_getR (k := 29) (idx := 66) cX9_ok (by decide) (by decide +kernel) w_1020 (by decide +kernel) rfl) (
    okc (ok_iload_n (k := 1) (by decide +kernel) rfl rfl) (
    okc (ok_iald (by decide +kernel) rfl) (
    okc (ok_if_ne (off := 6) (by decide +kernel) rfl rfl) (
    okc (ok_ldc (i := 196) w_1316 (by decide +kernel) rfl) (
    okc (ok_iret rfl (by decide +kernel)) (
    okc (ok_aload_n (k := 0) (by decide +kernel) rfl rfl) (
    okc (ok_getR (k := 29) (idx := 66) cX9_ok (by decide) (by decide +kernel) w_1020 (by decide +kernel) rfl) (
    okc (ok_iload_n (k := 1) (by decide +kernel) rfl rfl) (
    okc (ok_iald (by decide +kernel) rfl) (
    okc (ok_iconst (n := 1) (by decide +kernel) rfl rfl) (
    okc (ok_cmp_ne (off := 25) (by decide +kernel) rfl rfl) (
    okc (ok_aload_n (k := 0) (by decide +kernel) rfl rfl) (
    okc (ok_getR (k := 30) (idx := 69) cX9_ok (by decide) (by decide +kernel) w_1021 (by decide +kernel) rfl) (
    okc (ok_iload_n (k := 1) (by decide +kernel) rfl rfl) (
    okc (ok_iald (by decide +kernel) rfl) (
    okc (ok_iload_n (k := 2) (by decide +kernel) rfl rfl) (
    okc (ok_callS (SPf_ok _ _ _ _ _ _) (mi := 110) (n := 2) (idx := 130) rfl m_M_isUnder (by decide) w_1164 w_1165 (by decide +kernel) rfl) (
    okc (ok_if_eq (off := 12) (by decide +kernel) rfl rfl) (
    okc (ok_aload_n (k := 0) (by decide +kernel) rfl rfl) (
    okc (ok_getR (k := 31) (idx := 72) cX9_ok (by decide) (by decide +kernel) w_1022 (by decide +kernel) rfl) (
    okc (ok_iload_n (k := 1) (by decide +kernel) rfl rfl) (
    okc (ok_iald (by decide +kernel) rfl) (
    okc (ok_goto (off := 5) (by decide +kernel) rfl) (
    okc (ok_ldc (i := 133) w_1167 (by decide +kernel) rfl) (
    okc (ok_iret rfl (by decide +kernel)) ( okn)))))))))))))))))))))))))))))))))))))
end PR

section PR
variable {B : Nat} {sp : Nat → Value} {D : va_G} {cA : Nat → ClassId} {Ls : Nat} {xs : Nat → Int32} {adK adV : Nat → Nat}
def pl_M_takesPart_1 : List (Nat × mA) := [(0, a_aload 0 1), (1, a_getI 9 36 12 4), (4, a_push 1 5), (5, a_cmp (fun x y => decide (x ≠ y)) 36 8), (8, a_aload 0 9), (9, a_getI 9 36 10 12), (12, a_aload 0 13), (13, a_getI 9 36 11 16), (16, a_bin (fun x y => x - y) 17), (17, a_push 1 18), (18, a_cmp (fun x y => decide (x ≠ y)) 36 21), (21, a_aload 0 22), (22, a_aload 0 23), (23, a_getI 9 36 13 26), (26, a_callO 9 36 215 1 29), (29, a_if (fun x => decide (x < 0)) 36 32), (32, a_push 1 33), (33, a_goto 37), (36, a_push 0 37), (37, a_istore 1 38), (38, a_aload 0 39), (39, a_getI 9 36 12 42), (42, a_push 2 43), (43, a_cmp (fun x y => decide (x = y)) 52 46), (46, a_iload 1 47), (47, a_if (fun x => decide (x ≠ 0)) 52 50), (50, a_push 0 51), (51, a_zret), (52, a_aload 0 53), (53, a_getR 9 36 18 56), (56, a_aload 0 57), (57, a_getI 9 36 19 60), (60, a_aload 0 61), (61, a_getI 9 36 12 64), (64, a_push 2 65), (65, a_cmp (fun x y => decide (x ≠ y)) 75 68), (68, a_aload 0 69), (69, a_getI 9 36 13 72), (72, a_goto 87), (75, a_push 10000 78), (78, a_aload 0 79), (79, a_aload 0 80), (80, a_getI 9 36 13 83), (83, a_callO 9 36 215 1 86), (86, a_bin (fun x y => x + y) 87), (87, a_ast 0 (fun x => x) 88), (88, a_aload 0 89), (89, a_dup 90), (90, a_getI 9 36 19 93), (93, a_push 1 94), (94, a_bin (fun x y => x + y) 95), (95, a_putI 9 36 19 98), (98, a_aload 0 99), (99, a_dup 100), (100, a_getI 9 36 20 103), (103, a_push 1 104), (104, a_bin (fun x y => x + y) 105), (105, a_putI 9 36 20 108), (108, a_aload 0 109), (109, a_push 6 111)]
set_option maxRecDepth 20000 in
theorem ol_M_takesPart_1 : okall B sp D cA (SPf B sp Ls xs adK adV) MT ⟨"WreckSkyModel", "takesPart", "()Z"⟩ prog_11_method_65_code 2 (Option.some Jvm.ClassFile.FieldType.boolean) (pl_M_takesPart_1) := by
  unfold pl_M_takesPart_1
  exact
    okc (ok_aload_n (k := 0) (by decide +kernel) rfl rfl) (
    okc (ok_getI (k := 12) (idx := 210) cX9_ok (by decide) (by decide +kernel) w_1003 (by decide +kernel) rfl) (
    okc (ok_iconst (n := 1) (by decide +kernel) rfl rfl) (
    okc (ok_cmp_ne (off := 31) (by decide +kernel) rfl rfl) (
    okc (ok_aload_n (k := 0) (by decide +kernel) rfl rfl) (
    okc (ok_getI (k := 10) (idx := 201) cX9_ok (by decide) (by decide +kernel) w_1001 (by decide +kernel) rfl) (
    okc (ok_aload_n (k := 0) (by decide +kernel) rfl rfl) (
    okc (ok_getI (k := 11) (idx := 204) cX9_ok (by decide) (by decide +kernel) w_1002 (by decide +kernel) rfl) (
    okc (ok_isub (by decide +kernel) rfl) (
    okc (ok_iconst (n := 1) (by decide +kernel) rfl rfl) (
    okc (ok_cmp_ne (off := 18) (by decide +kernel) rfl rfl) (
    okc (ok_aload_n (k := 0) (by decide +kernel) rfl rfl) (
    okc (ok_aload_n (k := 0) (by decide +kernel) rfl rfl) (
    okc (ok_getI (k := 13) (idx := 216) cX9_ok (by decide) (by decide +kernel) w_1004 (by decide +kernel) rfl) (
    okc (ok_callV (SPf_ok _ _ _ _ _ _) (mi := 215) (n := 1) (idx := 237) rfl m_M_nameOf (by decide) cX9_ok w_1361 w_1363 w_51 (by decide +kernel) rfl) (
    okc (ok_if_lt (off := 7) (by decide +kernel) rfl rfl) (
    okc (ok_iconst (n := 1) (by decide +kernel) rfl rfl) (
    okc (ok_goto (off := 4) (by decide +kernel) rfl) (
    okc (ok_iconst (n := 0) (by decide +kernel) rfl rfl) (
    okc (ok_istore_n (k := 1) (by decide +kernel) rfl rfl) (
    okc (ok_aload_n (k := 0) (by decide +kernel) rfl rfl) (
    okc (ok_getI (k := 12) (idx := 210) cX9_ok (by decide) (by decide +kernel) w_1003 (by decide +kernel) rfl) (
    okc (ok_iconst (n := 2) (by decide +kernel) rfl rfl) (
    okc (ok_cmp_eq (off := 9) (by decide +kernel) rfl rfl) (
    okc (ok_iload_n (k := 1) (by decide +kernel) rfl rfl) (
    okc (ok_if_ne (off := 5) (by decide +kernel) rfl rfl) (
    okc (ok_iconst (n := 0) (by decide +kernel) rfl rfl) (
    okc (ok_zret rfl (by decide +kernel)) (
    okc (ok_aload_n (k := 0) (by decide +kernel) rfl rfl) (
    okc (ok_getR (k := 18) (idx := 41) cX9_ok (by decide) (by decide +kernel) w_1009 (by decide +kernel) rfl) (
    okc (ok_aload_n (k := 0) (by decide +kernel) rfl rfl) (
    okc (ok_getI (k := 19) (idx := 234) cX9_ok (by decide) (by decide +kernel) w_1010 (by decide +kernel) rfl) (
    okc (ok_aload_n (k := 0) (by decide +kernel) rfl rfl) (
    okc (ok_getI (k := 12) (idx := 210) cX9_ok (by decide) (by decide +kernel) w_1003 (by decide +kernel) rfl) (
    okc (ok_iconst (n := 2) (by decide +kernel) rfl rfl) (
    okc (ok_cmp_ne (off := 10) (by decide +kernel) rfl rfl) (
    okc (ok_aload_n (k := 0) (by decide +kernel) rfl rfl) (
    okc (ok_getI (k := 13) (idx := 216) cX9_ok (by decide) (by decide +kernel) w_1004 (by decide +kernel) rfl) (
    okc (ok_goto (off := 15) (by decide +kernel) rfl) (
    okc (ok_sipush (n := 10000) (by decide +kernel) (by decide +kernel) rfl) (
    okc (ok_aload_n (k := 0) (by decide +kernel) rfl rfl) (
    okc (ok_aload_n (k := 0) (by decide +kernel) rfl rfl) (
    okc (ok_getI (k := 13) (idx := 216) cX9_ok (by decide) (by decide +kernel) w_1004 (by decide +kernel) rfl) (
    okc (ok_callV (SPf_ok _ _ _ _ _ _) (mi := 215) (n := 1) (idx := 237) rfl m_M_nameOf (by decide) cX9_ok w_1361 w_1363 w_51 (by decide +kernel) rfl) (
    okc (ok_iadd (by decide +kernel) rfl) (
    okc (ok_iast (by decide +kernel) rfl) (
    okc (ok_aload_n (k := 0) (by decide +kernel) rfl rfl) (
    okc (ok_dup (by decide +kernel) rfl) (
    okc (ok_getI (k := 19) (idx := 234) cX9_ok (by decide) (by decide +kernel) w_1010 (by decide +kernel) rfl) (
    okc (ok_iconst (n := 1) (by decide +kernel) rfl rfl) (
    okc (ok_iadd (by decide +kernel) rfl) (
    okc (ok_putI (k := 19) (idx := 234) cX9_ok (by decide) rfl rfl w_1010 (by decide +kernel) rfl) (
    okc (ok_aload_n (k := 0) (by decide +kernel) rfl rfl) (
    okc (ok_dup (by decide +kernel) rfl) (
    okc (ok_getI (k := 20) (idx := 240) cX9_ok (by decide) (by decide +kernel) w_1011 (by decide +kernel) rfl) (
    okc (ok_iconst (n := 1) (by decide +kernel) rfl rfl) (
    okc (ok_iadd (by decide +kernel) rfl) (
    okc (ok_putI (k := 20) (idx := 240) cX9_ok (by decide) rfl rfl w_1011 (by decide +kernel) rfl) (
    okc (ok_aload_n (k := 0) (by decide +kernel) rfl rfl) (
    okc (ok_bipush (n := 6) (by decide +kernel) (by decide +kernel) rfl) ( okn))))))))))))))))))))))))))))))))))))))))))))))))))))))))))))
def pl_M_takesPart_2 : List (Nat × mA) := [(111, a_callO 9 36 203 1 114), (114, a_aload 0 115), (115, a_callO 9 36 157 0 118), (118, a_push 1 119), (119, a_zret)]
set_option maxRecDepth 20000 in
theorem ol_M_takesPart_2 : okall B sp D cA (SPf B sp Ls xs adK adV) MT ⟨"WreckSkyModel", "takesPart", "()Z"⟩ prog_11_method_65_code 2 (Option.some Jvm.ClassFile.FieldType.boolean) (pl_M_takesPart_2) := by
  unfold pl_M_takesPart_2
  exact
    okc (ok_callV (SPf_ok _ _ _ _ _ _) (mi := 203) (n := 1) (idx := 243) rfl m_M_settle (by decide) cX9_ok w_1365 w_1367 w_52 (by decide +kernel) rfl) (
    okc (ok_aload_n (k := 0) (by decide +kernel) rfl rfl) (
    okc (ok_callV (SPf_ok _ _ _ _ _ _) (mi := 157) (n := 0) (idx := 225) rfl m_M_go (by decide) cX9_ok w_1337 w_1339 w_45 (by decide +kernel) rfl) (
    okc (ok_iconst (n := 1) (by decide +kernel) rfl rfl) (
    okc (ok_zret rfl (by decide +kernel)) ( okn)))))
def pl_M_takesPart : List (Nat × mA) := pl_M_takesPart_1 ++ (pl_M_takesPart_2)
theorem ol_M_takesPart : okall B sp D cA (SPf B sp Ls xs adK adV) MT ⟨"WreckSkyModel", "takesPart", "()Z"⟩ prog_11_method_65_code 2 (Option.some Jvm.ClassFile.FieldType.boolean) (pl_M_takesPart) := oka ol_M_takesPart_1 (ol_M_takesPart_2)
def pl_M_notsOpen : List (Nat × mA) := [(0, a_push 0 1), (1, a_istore 1 2), (2, a_push 0 3), (3, a_istore 2 4), (4, a_iload 2 5), (5, a_aload 0 6), (6, a_getI 9 36 22 9), (9, a_cmp (fun x y => decide (y ≤ x)) 37 12), (12, a_iload 1 13), (13, a_aload 0 14), (14, a_getR 9 36 21 17), (17, a_iload 2 18), (18, a_ald 0 19), (19, a_push (-10) 21), (21, a_cmp (fun x y => decide (x ≠ y)) 28 24), (24, a_push 1 25), (25, a_goto 29), (28, a_push 0 29), (29, a_bin (fun x y => x + y) 30), (30, a_istore 1 31), (31, a_iinc 2 1 34), (34, a_goto 4), (37, a_iload 1 38), (38, a_iret)]
set_option maxRecDepth 20000 in
theorem ol_M_notsOpen : okall B sp D cA (SPf B sp Ls xs adK adV) MT ⟨"WreckSkyModel", "notsOpen", "()I"⟩ prog_11_method_67_code 3 (Option.some Jvm.ClassFile.FieldType.int) (pl_M_notsOpen) := by
  unfold pl_M_notsOpen
  exact
    okc (ok_iconst (n := 0) (by decide +kernel) rfl rfl) (
    okc (ok_istore_n (k := 1) (by decide +kernel) rfl rfl) (
    okc (ok_iconst (n := 0) (by decide +kernel) rfl rfl) (
    okc (ok_istore_n (k := 2) (by decide +kernel) rfl rfl) (
    okc (ok_iload_n (k := 2) (by decide +kernel) rfl rfl) (
    okc (ok_aload_n (k := 0) (by decide +kernel) rfl rfl) (
    okc (ok_getI (k := 22) (idx := 228) cX9_ok (by decide) (by decide +kernel) w_1013 (by decide +kernel) rfl) (
    okc (ok_cmp_ge (off := 28) (by decide +kernel) rfl rfl) (
    okc (ok_iload_n (k := 1) (by decide +kernel) rfl rfl) (
    okc (ok_aload_n (k := 0) (by decide +kernel) rfl rfl) (
    okc (ok_getR (k := 21) (idx := 44) cX9_ok (by decide) (by decide +kernel) w_1012 (by decide +kernel) rfl) (
    okc (ok_iload_n (k := 2) (by decide +kernel) rfl rfl) (
    okc (ok_iald (by decide +kernel) rfl) (
    okc (ok_bipush (n := -10) (by decide +kernel) (by decide +kernel) rfl) (
    okc (ok_cmp_ne (off := 7) (by decide +kernel) rfl rfl) (
    okc (ok_iconst (n := 1) (by decide +kernel) rfl rfl) (
    okc (ok_goto (off := 4) (by decide +kernel) rfl) (
    okc (ok_iconst (n := 0) (by decide +kernel) rfl rfl) (
    okc (ok_iadd (by decide +kernel) rfl) (
    okc (ok_istore_n (k := 1) (by decide +kernel) rfl rfl) (
    okc (ok_iinc (n := 1) (by decide +kernel) rfl rfl) (
    okc (ok_goto (off := -30) (by decide +kernel) rfl) (
    okc (ok_iload_n (k := 1) (by decide +kernel) rfl rfl) (
    okc (ok_iret rfl (by decide +kernel)) ( okn))))))))))))))))))))))))
def pl_M_settle : List (Nat × mA) := [(0, a_aload 0 1), (1, a_getI 9 36 22 4), (4, a_if (fun x => decide (x ≤ 0)) 82 7), (7, a_aload 0 8), (8, a_getR 9 36 21 11), (11, a_aload 0 12), (12, a_getI 9 36 22 15), (15, a_push 1 16), (16, a_bin (fun x y => x - y) 17), (17, a_ald 0 18), (18, a_push (-11) 20), (20, a_cmp (fun x y => decide (x = y)) 82 23), (23, a_aload 0 24), (24, a_getR 9 36 21 27), (27, a_aload 0 28), (28, a_getI 9 36 22 31), (31, a_push 1 32), (32, a_bin (fun x y => x - y) 33), (33, a_ald 0 34), (34, a_call 205 1 37), (37, a_iload 1 38), (38, a_cmp (fun x y => decide (x < y)) 82 41), (41, a_aload 0 42), (42, a_dup 43), (43, a_getI 9 36 22 46), (46, a_push 1 47), (47, a_bin (fun x y => x - y) 48), (48, a_putI 9 36 22 51), (51, a_aload 0 52), (52, a_getR 9 36 18 55), (55, a_aload 0 56), (56, a_getI 9 36 19 59), (59, a_aload 0 60), (60, a_getR 9 36 21 63), (63, a_aload 0 64), (64, a_getI 9 36 22 67), (67, a_ald 0 68), (68, a_ast 0 (fun x => x) 69), (69, a_aload 0 70), (70, a_dup 71), (71, a_getI 9 36 19 74), (74, a_push 1 75), (75, a_bin (fun x y => x + y) 76), (76, a_putI 9 36 19 79), (79, a_goto 0), (82, a_ret)]
set_option maxRecDepth 20000 in
theorem ol_M_settle : okall B sp D cA (SPf B sp Ls xs adK adV) MT ⟨"WreckSkyModel", "settle", "(I)V"⟩ prog_11_method_63_code 2 (Option.none : Option Jvm.ClassFile.FieldType) (pl_M_settle) := by
  unfold pl_M_settle
  exact
    okc (ok_aload_n (k := 0) (by decide +kernel) rfl rfl) (
    okc (ok_getI (k := 22) (idx := 228) cX9_ok (by decide) (by decide +kernel) w_1013 (by decide +kernel) rfl) (
    okc (ok_if_le (off := 78) (by decide +kernel) rfl rfl) (
    okc (ok_aload_n (k := 0) (by decide +kernel) rfl rfl) (
    okc (ok_getR (k := 21) (idx := 44) cX9_ok (by decide) (by decide +kernel) w_1012 (by decide +kernel) rfl) (
    okc (ok_aload_n (k := 0) (by decide +kernel) rfl rfl) (
    okc (ok_getI (k := 22) (idx := 228) cX9_ok (by decide) (by decide +kernel) w_1013 (by decide +kernel) rfl) (
    okc (ok_iconst (n := 1) (by decide +kernel) rfl rfl) (
    okc (ok_isub (by decide +kernel) rfl) (
    okc (ok_iald (by decide +kernel) rfl) (
    okc (ok_bipush (n := -11) (by decide +kernel) (by decide +kernel) rfl) (
    okc (ok_cmp_eq (off := 62) (by decide +kernel) rfl rfl) (
    okc (ok_aload_n (k := 0) (by decide +kernel) rfl rfl) (
    okc (ok_getR (k := 21) (idx := 44) cX9_ok (by decide) (by decide +kernel) w_1012 (by decide +kernel) rfl) (
    okc (ok_aload_n (k := 0) (by decide +kernel) rfl rfl) (
    okc (ok_getI (k := 22) (idx := 228) cX9_ok (by decide) (by decide +kernel) w_1013 (by decide +kernel) rfl) (
    okc (ok_iconst (n := 1) (by decide +kernel) rfl rfl) (
    okc (ok_isub (by decide +kernel) rfl) (
    okc (ok_iald (by decide +kernel) rfl) (
    okc (ok_callS (SPf_ok _ _ _ _ _ _) (mi := 205) (n := 1) (idx := 231) rfl m_M_rank (by decide) w_1369 w_1370 (by decide +kernel) rfl) (
    okc (ok_iload_n (k := 1) (by decide +kernel) rfl rfl) (
    okc (ok_cmp_lt (off := 44) (by decide +kernel) rfl rfl) (
    okc (ok_aload_n (k := 0) (by decide +kernel) rfl rfl) (
    okc (ok_dup (by decide +kernel) rfl) (
    okc (ok_getI (k := 22) (idx := 228) cX9_ok (by decide) (by decide +kernel) w_1013 (by decide +kernel) rfl) (
    okc (ok_iconst (n := 1) (by decide +kernel) rfl rfl) (
    okc (ok_isub (by decide +kernel) rfl) (
    okc (ok_putI (k := 22) (idx := 228) cX9_ok (by decide) rfl rfl w_1013 (by decide +kernel) rfl) (
    okc (ok_aload_n (k := 0) (by decide +kernel) rfl rfl) (
    okc (ok_getR (k := 18) (idx := 41) cX9_ok (by decide) (by decide +kernel) w_1009 (by decide +kernel) rfl) (
    okc (ok_aload_n (k := 0) (by decide +kernel) rfl rfl) (
    okc (ok_getI (k := 19) (idx := 234) cX9_ok (by decide) (by decide +kernel) w_1010 (by decide +kernel) rfl) (
    okc (ok_aload_n (k := 0) (by decide +kernel) rfl rfl) (
    okc (ok_getR (k := 21) (idx := 44) cX9_ok (by decide) (by decide +kernel) w_1012 (by decide +kernel) rfl) (
    okc (ok_aload_n (k := 0) (by decide +kernel) rfl rfl) (
    okc (ok_getI (k := 22) (idx := 228) cX9_ok (by decide) (by decide +kernel) w_1013 (by decide +kernel) rfl) (
    okc (ok_iald (by decide +kernel) rfl) (
    okc (ok_iast (by decide +kernel) rfl) (
    okc (ok_aload_n (k := 0) (by decide +kernel) rfl rfl) (
    okc (ok_dup (by decide +kernel) rfl) (
    okc (ok_getI (k := 19) (idx := 234) cX9_ok (by decide) (by decide +kernel) w_1010 (by decide +kernel) rfl) (
    okc (ok_iconst (n := 1) (by decide +kernel) rfl rfl) (
    okc (ok_iadd (by decide +kernel) rfl) (
    okc (ok_putI (k := 19) (idx := 234) cX9_ok (by decide) rfl rfl w_1010 (by decide +kernel) rfl) (
    okc (ok_goto (off := -79) (by decide +kernel) rfl) (
    okc (ok_ret rfl (by decide +kernel)) ( okn))))))))))))))))))))))))))))))))))))))))))))))
def pl_M_signHere : List (Nat × mA) := [(0, a_aload 0 1), (1, a_getI 9 36 12 4), (4, a_push 3 5), (5, a_cmp (fun x y => decide (x = y)) 10 8), (8, a_push 0 9), (9, a_iret), (10, a_aload 0 11), (11, a_getI 9 36 13 14), (14, a_sw (l_sw [(38, 98), (42, 116), (43, 110), (45, 113), (47, 119), (60, 101), (61, 104), (62, 107), (124, 96)] 122)), (96, a_push (-1) 97), (97, a_iret), (98, a_push (-2) 100), (100, a_iret), (101, a_push (-3) 103), (103, a_iret), (104, a_push (-4) 106), (106, a_iret), (107, a_push (-5) 109), (109, a_iret), (110, a_push (-6) 112), (112, a_iret), (113, a_push (-7) 115), (115, a_iret), (116, a_push (-8) 118), (118, a_iret), (119, a_push (-9) 121), (121, a_iret), (122, a_push 0 123), (123, a_iret)]
set_option maxRecDepth 20000 in
theorem ol_M_signHere : okall B sp D cA (SPf B sp Ls xs adK adV) MT ⟨"WreckSkyModel", "signHere", "()I"⟩ prog_11_method_64_code 1 (Option.some Jvm.ClassFile.FieldType.int) (pl_M_signHere) := by
  unfold pl_M_signHere
  exact
    okc (ok_aload_n (k := 0) (by decide +kernel) rfl rfl) (
    okc (ok_getI (k := 12) (idx := 210) cX9_ok (by decide) (by decide +kernel) w_1003 (by decide +kernel) rfl) (
    okc (ok_iconst (n := 3) (by decide +kernel) rfl rfl) (
    okc (ok_cmp_eq (off := 5) (by decide +kernel) rfl rfl) (
    okc (ok_iconst (n := 0) (by decide +kernel) rfl rfl) (
    okc (ok_iret rfl (by decide +kernel)) (
    okc (ok_aload_n (k := 0) (by decide +kernel) rfl rfl) (
    okc (ok_getI (k := 13) (idx := 216) cX9_ok (by decide) (by decide +kernel) w_1004 (by decide +kernel) rfl) (
    okc (ok_lku (dflt := 108) (ps := #[(38, 84), (42, 102), (43, 96), (45, 99), (47, 105), (60, 87), (61, 90), (62, 93), (124, 82)]) (len := 82) (by decide +kernel) (by decide +kernel) rfl rfl) (
    okc (ok_iconst (n := -1) (by decide +kernel) rfl rfl) (
    okc (ok_iret rfl (by decide +kernel)) (
    okc (ok_bipush (n := -2) (by decide +kernel) (by decide +kernel) rfl) (
    okc (ok_iret rfl (by decide +kernel)) (
    okc (ok_bipush (n := -3) (by decide +kernel) (by decide +kernel) rfl) (
    okc (ok_iret rfl (by decide +kernel)) (
    okc (ok_bipush (n := -4) (by decide +kernel) (by decide +kernel) rfl) (
    okc (ok_iret rfl (by decide +kernel)) (
    okc (ok_bipush (n := -5) (by decide +kernel) (by decide +kernel) rfl) (
    okc (ok_iret rfl (by decide +kernel)) (
    okc (ok_bipush (n := -6) (by decide +kernel) (by decide +kernel) rfl) (
    okc (ok_iret rfl (by decide +kernel)) (
    okc (ok_bipush (n := -7) (by decide +kernel) (by decide +kernel) rfl) (
    okc (ok_iret rfl (by decide +kernel)) (
    okc (ok_bipush (n := -8) (by decide +kernel) (by decide +kernel) rfl) (
    okc (ok_iret rfl (by decide +kernel)) (
    okc (ok_bipush (n := -9) (by decide +kernel) (by decide +kernel) rfl) (
    okc (ok_iret rfl (by decide +kernel)) (
    okc (ok_iconst (n := 0) (by decide +kernel) rfl rfl) (
    okc (ok_iret rfl (by decide +kernel)) ( okn)))))))))))))))))))))))))))))
def pl_M_rank : List (Nat × mA) := [(0, a_iload 0 1), (1, a_push (-1) 2), (2, a_cmp (fun x y => decide (x ≠ y)) 9 5), (5, a_push 1 6), (6, a_goto 51), (9, a_iload 0 10), (10, a_push (-2) 12), (12, a_cmp (fun x y => decide (x ≠ y)) 19 15), (15, a_push 2 16), (16, a_goto 51), (19, a_iload 0 20), (20, a_push (-5) 22), (22, a_cmp (fun x y => decide (x < y)) 29 25), (25, a_push 3 26), (26, a_goto 51), (29, a_iload 0 30), (30, a_push (-7) 32), (32, a_cmp (fun x y => decide (x < y)) 39 35), (35, a_push 4 36), (36, a_goto 51), (39, a_iload 0 40), (40, a_push (-9) 42), (42, a_cmp (fun x y => decide (x < y)) 49 45), (45, a_push 5 46), (46, a_goto 51), (49, a_push 6 51), (51, a_iret)]
set_option maxRecDepth 20000 in
theorem ol_M_rank : okall B sp D cA (SPf B sp Ls xs adK adV) MT ⟨"WreckSkyModel", "rank", "(I)I"⟩ prog_11_method_62_code 1 (Option.some Jvm.ClassFile.FieldType.int) (pl_M_rank) := by
  unfold pl_M_rank
  exact
    okc (ok_iload_n (k := 0) (by decide +kernel) rfl rfl) (
    okc (ok_iconst (n := -1) (by decide +kernel) rfl rfl) (
    okc (ok_cmp_ne (off := 7) (by decide +kernel) rfl rfl) (
    okc (ok_iconst (n := 1) (by decide +kernel) rfl rfl) (
    okc (ok_goto (off := 45) (by decide +kernel) rfl) (
    okc (ok_iload_n (k := 0) (by decide +kernel) rfl rfl) (
    okc (ok_bipush (n := -2) (by decide +kernel) (by decide +kernel) rfl) (
    okc (ok_cmp_ne (off := 7) (by decide +kernel) rfl rfl) (
    okc (ok_iconst (n := 2) (by decide +kernel) rfl rfl) (
    okc (ok_goto (off := 35) (by decide +kernel) rfl) (
    okc (ok_iload_n (k := 0) (by decide +kernel) rfl rfl) (
    okc (ok_bipush (n := -5) (by decide +kernel) (by decide +kernel) rfl) (
    okc (ok_cmp_lt (off := 7) (by decide +kernel) rfl rfl) (
    okc (ok_iconst (n := 3) (by decide +kernel) rfl rfl) (
    okc (ok_goto (off := 25) (by decide +kernel) rfl) (
    okc (ok_iload_n (k := 0) (by decide +kernel) rfl rfl) (
    okc (ok_bipush (n := -7) (by decide +kernel) (by decide +kernel) rfl) (
    okc (ok_cmp_lt (off := 7) (by decide +kernel) rfl rfl) (
    okc (ok_iconst (n := 4) (by decide +kernel) rfl rfl) (
    okc (ok_goto (off := 15) (by decide +kernel) rfl) (
    okc (ok_iload_n (k := 0) (by decide +kernel) rfl rfl) (
    okc (ok_bipush (n := -9) (by decide +kernel) (by decide +kernel) rfl) (
    okc (ok_cmp_lt (off := 7) (by decide +kernel) rfl rfl) (
    okc (ok_iconst (n := 5) (by decide +kernel) rfl rfl) (
    okc (ok_goto (off := 5) (by decide +kernel) rfl) (
    okc (ok_bipush (n := 6) (by decide +kernel) (by decide +kernel) rfl) (
    okc (ok_iret rfl (by decide +kernel)) ( okn)))))))))))))))))))))))))))
def pl_JMath_max : List (Nat × mA) := [(0, a_iload 0 1), (1, a_iload 1 2), (2, a_cmp (fun x y => decide (x < y)) 9 5), (5, a_iload 0 6), (6, a_goto 10), (9, a_iload 1 10), (10, a_iret)]
set_option maxRecDepth 20000 in
theorem ol_JMath_max : okall B sp D cA (SPf B sp Ls xs adK adV) MT ⟨"java/lang/Math", "max", "(II)I"⟩ prog_15_method_65_code 2 (Option.some Jvm.ClassFile.FieldType.int) (pl_JMath_max) := by
  unfold pl_JMath_max
  exact
    okc (ok_iload_n (k := 0) (by decide +kernel) rfl rfl) (
    okc (ok_iload_n (k := 1) (by decide +kernel) rfl rfl) (
    okc (ok_cmp_lt (off := 7) (by decide +kernel) rfl rfl) (
    okc (ok_iload_n (k := 0) (by decide +kernel) rfl rfl) (
    okc (ok_goto (off := 4) (by decide +kernel) rfl) (
    okc (ok_iload_n (k := 1) (by decide +kernel) rfl rfl) (
    okc (ok_iret rfl (by decide +kernel)) ( okn)))))))
def pl_S_upPlaceSum : List (Nat × mA) := [(0, a_push 0 1), (1, a_istore 1 2), (2, a_push 0 3), (3, a_istore 2 4), (4, a_iload 2 5), (5, a_aload 0 6), (6, a_getI 3 11 3 9), (9, a_cmp (fun x y => decide (y ≤ x)) 46 12), (12, a_iload 1 13), (13, a_aload 0 14), (14, a_getR 3 11 0 17), (17, a_iload 2 18), (18, a_aald 4 19), (19, a_getI 7 6 5 22), (22, a_if (fun x => decide (x = 0)) 37 25), (25, a_aload 0 26), (26, a_getR 3 11 0 29), (29, a_iload 2 30), (30, a_aald 4 31), (31, a_getI 7 6 2 34), (34, a_goto 38), (37, a_push 0 38), (38, a_bin (fun x y => x + y) 39), (39, a_istore 1 40), (40, a_iinc 2 1 43), (43, a_goto 4), (46, a_iload 1 47), (47, a_iret)]
set_option maxRecDepth 20000 in
theorem ol_S_upPlaceSum : okall B sp D cA (SPf B sp Ls xs adK adV) MT ⟨"WreckSky$Sky", "upPlaceSum", "()I"⟩ prog_5_method_19_code 3 (Option.some Jvm.ClassFile.FieldType.int) (pl_S_upPlaceSum) := by
  unfold pl_S_upPlaceSum
  exact
    okc (ok_iconst (n := 0) (by decide +kernel) rfl rfl) (
    okc (ok_istore_n (k := 1) (by decide +kernel) rfl rfl) (
    okc (ok_iconst (n := 0) (by decide +kernel) rfl rfl) (
    okc (ok_istore_n (k := 2) (by decide +kernel) rfl rfl) (
    okc (ok_iload_n (k := 2) (by decide +kernel) rfl rfl) (
    okc (ok_aload_n (k := 0) (by decide +kernel) rfl rfl) (
    okc (ok_getI (k := 3) (idx := 27) cX3_ok (by decide) (by decide +kernel) w_141 (by decide +kernel) rfl) (
    okc (ok_cmp_ge (off := 37) (by decide +kernel) rfl rfl) (
    okc (ok_iload_n (k := 1) (by decide +kernel) rfl rfl) (
    okc (ok_aload_n (k := 0) (by decide +kernel) rfl rfl) (
    okc (ok_getR (k := 0) (idx := 11) cX3_ok (by decide) (by decide +kernel) w_134 (by decide +kernel) rfl) (
    okc (ok_iload_n (k := 2) (by decide +kernel) rfl rfl) (
    okc (ok_aald (C := "WreckSky$Wreck") (by decide) (fun _ => rfl) (by decide +kernel) rfl) (
    okc (ok_getI (k := 5) (idx := 76) cX7_ok (by decide) (by decide +kernel) w_118 (by decide +kernel) rfl) (
    okc (ok_if_eq (off := 15) (by decide +kernel) rfl rfl) (
    okc (ok_aload_n (k := 0) (by decide +kernel) rfl rfl) (
    okc (ok_getR (k := 0) (idx := 11) cX3_ok (by decide) (by decide +kernel) w_134 (by decide +kernel) rfl) (
    okc (ok_iload_n (k := 2) (by decide +kernel) rfl rfl) (
    okc (ok_aald (C := "WreckSky$Wreck") (by decide) (fun _ => rfl) (by decide +kernel) rfl) (
    okc (ok_getI (k := 2) (idx := 67) cX7_ok (by decide) (by decide +kernel) w_107 (by decide +kernel) rfl) (
    okc (ok_goto (off := 4) (by decide +kernel) rfl) (
    okc (ok_iconst (n := 0) (by decide +kernel) rfl rfl) (
    okc (ok_iadd (by decide +kernel) rfl) (
    okc (ok_istore_n (k := 1) (by decide +kernel) rfl rfl) (
    okc (ok_iinc (n := 1) (by decide +kernel) rfl rfl) (
    okc (ok_goto (off := -39) (by decide +kernel) rfl) (
    okc (ok_iload_n (k := 1) (by decide +kernel) rfl rfl) (
    okc (ok_iret rfl (by decide +kernel)) ( okn))))))))))))))))))))))))))))
def pl_S_breakUp : List (Nat × mA) := [(0, a_aload 0 1), (1, a_dup 2), (2, a_getI 3 11 6 5), (5, a_push 1 6), (6, a_bin (fun x y => x + y) 7), (7, a_putI 3 11 6 10), (10, a_aload 1 11), (11, a_getI 7 6 4 14), (14, a_push 1 15), (15, a_cmp (fun x y => decide (x ≠ y)) 24 18), (18, a_aload 1 19), (19, a_push 0 20), (20, a_putZ 7 6 5 23), (23, a_ret), (24, a_aload 1 25), (25, a_getI 7 6 4 28), (28, a_push 2 29), (29, a_div (fun x y => x / y) 30), (30, a_istore 2 31), (31, a_aload 0 32), (32, a_push 2 33), (33, a_aload 1 34), (34, a_getI 7 6 1 37), (37, a_aload 1 38), (38, a_getI 7 6 2 41), (41, a_aload 1 42), (42, a_getI 7 6 3 45), (45, a_push 1 46), (46, a_bin (fun x y => x + y) 47), (47, a_push 9 49), (49, a_call 116 2 52), (52, a_aload 1 53), (53, a_getI 7 6 4 56), (56, a_iload 2 57), (57, a_bin (fun x y => x - y) 58), (58, a_callO 3 11 96 5 61), (61, a_pop 62), (62, a_aload 1 63), (63, a_iload 2 64), (64, a_putI 7 6 4 67), (67, a_ret)]
set_option maxRecDepth 20000 in
theorem ol_S_breakUp : okall B sp D cA (SPf B sp Ls xs adK adV) MT ⟨"WreckSky$Sky", "breakUp", "(LWreckSky$Wreck;)V"⟩ prog_5_method_13_code 3 (Option.none : Option Jvm.ClassFile.FieldType) (pl_S_breakUp) := by
  unfold pl_S_breakUp
  exact
    okc (ok_aload_n (k := 0) (by decide +kernel) rfl rfl) (
    okc (ok_dup (by decide +kernel) rfl) (
    okc (ok_getI (k := 6) (idx := 37) cX3_ok (by decide) (by decide +kernel) w_148 (by decide +kernel) rfl) (
    okc (ok_iconst (n := 1) (by decide +kernel) rfl rfl) (
    okc (ok_iadd (by decide +kernel) rfl) (
    okc (ok_putI (k := 6) (idx := 37) cX3_ok (by decide) rfl rfl w_148 (by decide +kernel) rfl) (
    okc (ok_aload_n (k := 1) (by decide +kernel) rfl rfl) (
    okc (ok_getI (k := 4) (idx := 73) cX7_ok (by decide) (by decide +kernel) w_115 (by decide +kernel) rfl) (
    okc (ok_iconst (n := 1) (by decide +kernel) rfl rfl) (
    okc (ok_cmp_ne (off := 9) (by decide +kernel) rfl rfl) (
    okc (ok_aload_n (k := 1) (by decide +kernel) rfl rfl) (
    okc (ok_iconst (n := 0) (by decide +kernel) rfl rfl) (
    okc (ok_putZ (k := 5) (idx := 76) cX7_ok (by decide) rfl rfl w_118 (by decide +kernel) rfl) (
    okc (ok_ret rfl (by decide +kernel)) (
    okc (ok_aload_n (k := 1) (by decide +kernel) rfl rfl) (
    okc (ok_getI (k := 4) (idx := 73) cX7_ok (by decide) (by decide +kernel) w_115 (by decide +kernel) rfl) (
    okc (ok_iconst (n := 2) (by decide +kernel) rfl rfl) (
    okc (ok_idiv (by decide +kernel) rfl) (
    okc (ok_istore_n (k := 2) (by decide +kernel) rfl rfl) (
    okc (ok_aload_n (k := 0) (by decide +kernel) rfl rfl) (
    okc (ok_iconst (n := 2) (by decide +kernel) rfl rfl) (
    okc (ok_aload_n (k := 1) (by decide +kernel) rfl rfl) (
    okc (ok_getI (k := 1) (idx := 64) cX7_ok (by decide) (by decide +kernel) w_103 (by decide +kernel) rfl) (
    okc (ok_aload_n (k := 1) (by decide +kernel) rfl rfl) (
    okc (ok_getI (k := 2) (idx := 67) cX7_ok (by decide) (by decide +kernel) w_107 (by decide +kernel) rfl) (
    okc (ok_aload_n (k := 1) (by decide +kernel) rfl rfl) (
    okc (ok_getI (k := 3) (idx := 70) cX7_ok (by decide) (by decide +kernel) w_111 (by decide +kernel) rfl) (
    okc (ok_iconst (n := 1) (by decide +kernel) rfl rfl) (
    okc (ok_iadd (by decide +kernel) rfl) (
    okc (ok_bipush (n := 9) (by decide +kernel) (by decide +kernel) rfl) (
    okc (ok_callS (SPf_ok _ _ _ _ _ _) (mi := 116) (n := 2) (idx := 132) rfl m_JMath_min (by decide) w_491 w_394 (by decide +kernel) rfl) (
    okc (ok_aload_n (k := 1) (by decide +kernel) rfl rfl) (
    okc (ok_getI (k := 4) (idx := 73) cX7_ok (by decide) (by decide +kernel) w_115 (by decide +kernel) rfl) (
    okc (ok_iload_n (k := 2) (by decide +kernel) rfl rfl) (
    okc (ok_isub (by decide +kernel) rfl) (
    okc (ok_callV (SPf_ok _ _ _ _ _ _) (mi := 96) (n := 5) (idx := 103) rfl m_S_addWreck (by decide) cX3_ok w_461 w_359 w_360 (by decide +kernel) rfl) (
    okc (ok_pop (by decide +kernel) rfl) (
    okc (ok_aload_n (k := 1) (by decide +kernel) rfl rfl) (
    okc (ok_iload_n (k := 2) (by decide +kernel) rfl rfl) (
    okc (ok_putI (k := 4) (idx := 73) cX7_ok (by decide) rfl rfl w_115 (by decide +kernel) rfl) (
    okc (ok_ret rfl (by decide +kernel)) ( okn)))))))))))))))))))))))))))))))))))))))))
def pl_JMath_abs : List (Nat × mA) := [(0, a_iload 0 1), (1, a_if (fun x => decide (0 ≤ x)) 9 4), (4, a_iload 0 5), (5, a_un (fun x => -x) 6), (6, a_goto 10), (9, a_iload 0 10), (10, a_iret)]
set_option maxRecDepth 20000 in
theorem ol_JMath_abs : okall B sp D cA (SPf B sp Ls xs adK adV) MT ⟨"java/lang/Math", "abs", "(I)I"⟩ prog_15_method_59_code 1 (Option.some Jvm.ClassFile.FieldType.int) (pl_JMath_abs) := by
  unfold pl_JMath_abs
  exact
    okc (ok_iload_n (k := 0) (by decide +kernel) rfl rfl) (
    okc (ok_if_ge (off := 8) (by decide +kernel) rfl rfl) (
    okc (ok_iload_n (k := 0) (by decide +kernel) rfl rfl) (
    okc (ok_ineg (by decide +kernel) rfl) (
    okc (ok_goto (off := 4) (by decide +kernel) rfl) (
    okc (ok_iload_n (k := 0) (by decide +kernel) rfl rfl) (
    okc (ok_iret rfl (by decide +kernel)) ( okn)))))))
def pl_R_sortOf : List (Nat × mA) := [(0, a_iload 0 1), (1, a_push 97 3), (3, a_cmp (fun x y => decide (x < y)) 14 6), (6, a_iload 0 7), (7, a_push 122 9), (9, a_cmp (fun x y => decide (y < x)) 14 12), (12, a_push 1 13), (13, a_iret), (14, a_iload 0 15), (15, a_push 48 17), (17, a_cmp (fun x y => decide (x < y)) 30 20), (20, a_iload 0 21), (21, a_push 57 23), (23, a_cmp (fun x y => decide (y < x)) 30 26), (26, a_push 2 27), (27, a_goto 31), (30, a_push 0 31), (31, a_iret)]
set_option maxRecDepth 20000 in
theorem ol_R_sortOf : okall B sp D cA (SPf B sp Ls xs adK adV) MT ⟨"WreckSky$Reader", "sortOf", "(I)I"⟩ prog_3_method_5_code 1 (Option.some Jvm.ClassFile.FieldType.int) (pl_R_sortOf) := by
  unfold pl_R_sortOf
  exact
    okc (ok_iload_n (k := 0) (by decide +kernel) rfl rfl) (
    okc (ok_bipush (n := 97) (by decide +kernel) (by decide +kernel) rfl) (
    okc (ok_cmp_lt (off := 11) (by decide +kernel) rfl rfl) (
    okc (ok_iload_n (k := 0) (by decide +kernel) rfl rfl) (
    okc (ok_bipush (n := 122) (by decide +kernel) (by decide +kernel) rfl) (
    okc (ok_cmp_gt (off := 5) (by decide +kernel) rfl rfl) (
    okc (ok_iconst (n := 1) (by decide +kernel) rfl rfl) (
    okc (ok_iret rfl (by decide +kernel)) (
    okc (ok_iload_n (k := 0) (by decide +kernel) rfl rfl) (
    okc (ok_bipush (n := 48) (by decide +kernel) (by decide +kernel) rfl) (
    okc (ok_cmp_lt (off := 13) (by decide +kernel) rfl rfl) (
    okc (ok_iload_n (k := 0) (by decide +kernel) rfl rfl) (
    okc (ok_bipush (n := 57) (by decide +kernel) (by decide +kernel) rfl) (
    okc (ok_cmp_gt (off := 7) (by decide +kernel) rfl rfl) (
    okc (ok_iconst (n := 2) (by decide +kernel) rfl rfl) (
    okc (ok_goto (off := 4) (by decide +kernel) rfl) (
    okc (ok_iconst (n := 0) (by decide +kernel) rfl rfl) (
    okc (ok_iret rfl (by decide +kernel)) ( okn))))))))))))))))))
def pl_R_isWord : List (Nat × mA) := [(0, a_aload 0 1), (1, a_getI 1 10 5 4), (4, a_push 1 5), (5, a_cmp (fun x y => decide (x ≠ y)) 24 8), (8, a_aload 0 9), (9, a_getI 1 10 7 12), (12, a_aload 0 13), (13, a_getI 1 10 6 16), (16, a_bin (fun x y => x - y) 17), (17, a_aload 1 18), (18, a_callT 216 0 21), (21, a_cmp (fun x y => decide (x = y)) 26 24), (24, a_push 0 25), (25, a_zret), (26, a_push 0 27), (27, a_istore 2 28), (28, a_iload 2 29), (29, a_aload 1 30), (30, a_callT 216 0 33), (33, a_cmp (fun x y => decide (y ≤ x)) 66 36), (36, a_aload 0 37), (37, a_getR 1 10 0 40), (40, a_getR 5 2 0 43), (43, a_aload 0 44), (44, a_getI 1 10 6 47), (47, a_iload 2 48), (48, a_bin (fun x y => x + y) 49), (49, a_ald 0 50), (50, a_aload 1 51), (51, a_iload 2 52), (52, a_callT 217 1 55), (55, a_cmp (fun x y => decide (x = y)) 60 58), (58, a_push 0 59), (59, a_zret), (60, a_iinc 2 1 63), (63, a_goto 28), (66, a_push 1 67), (67, a_zret)]
set_option maxRecDepth 20000 in
theorem ol_R_isWord : okall B sp D cA (SPf B sp Ls xs adK adV) MT ⟨"WreckSky$Reader", "isWord", "(Ljava/lang/String;)Z"⟩ prog_3_method_7_code 3 (Option.some Jvm.ClassFile.FieldType.boolean) (pl_R_isWord) := by
  unfold pl_R_isWord
  exact
    okc (ok_aload_n (k := 0) (by decide +kernel) rfl rfl) (
    okc (ok_getI (k := 5) (idx := 32) cX1_ok (by decide) (by decide +kernel) w_235 (by decide +kernel) rfl) (
    okc (ok_iconst (n := 1) (by decide +kernel) rfl rfl) (
    okc (ok_cmp_ne (off := 19) (by decide +kernel) rfl rfl) (
    okc (ok_aload_n (k := 0) (by decide +kernel) rfl rfl) (
    okc (ok_getI (k := 7) (idx := 35) cX1_ok (by decide) (by decide +kernel) w_237 (by decide +kernel) rfl) (
    okc (ok_aload_n (k := 0) (by decide +kernel) rfl rfl) (
    okc (ok_getI (k := 6) (idx := 66) cX1_ok (by decide) (by decide +kernel) w_236 (by decide +kernel) rfl) (
    okc (ok_isub (by decide +kernel) rfl) (
    okc (ok_aload_n (k := 1) (by decide +kernel) rfl rfl) (
    okc (ok_callT (mi := 216) (n := 0) (idx := 107) rfl m_JSt_length (by decide) w_705 w_706 w_707 (by decide +kernel) rfl) (
    okc (ok_cmp_eq (off := 5) (by decide +kernel) rfl rfl) (
    okc (ok_iconst (n := 0) (by decide +kernel) rfl rfl) (
    okc (ok_zret rfl (by decide +kernel)) (
    okc (ok_iconst (n := 0) (by decide +kernel) rfl rfl) (
    okc (ok_istore_n (k := 2) (by decide +kernel) rfl rfl) (
    okc (ok_iload_n (k := 2) (by decide +kernel) rfl rfl) (
    okc (ok_aload_n (k := 1) (by decide +kernel) rfl rfl) (
    okc (ok_callT (mi := 216) (n := 0) (idx := 107) rfl m_JSt_length (by decide) w_705 w_706 w_707 (by decide +kernel) rfl) (
    okc (ok_cmp_ge (off := 33) (by decide +kernel) rfl rfl) (
    okc (ok_aload_n (k := 0) (by decide +kernel) rfl rfl) (
    okc (ok_getR (k := 0) (idx := 21) cX1_ok (by decide) (by decide +kernel) w_230 (by decide +kernel) rfl) (
    okc (ok_getR (k := 0) (idx := 74) cX5_ok (by decide) (by decide +kernel) w_214 (by decide +kernel) rfl) (
    okc (ok_aload_n (k := 0) (by decide +kernel) rfl rfl) (
    okc (ok_getI (k := 6) (idx := 66) cX1_ok (by decide) (by decide +kernel) w_236 (by decide +kernel) rfl) (
    okc (ok_iload_n (k := 2) (by decide +kernel) rfl rfl) (
    okc (ok_iadd (by decide +kernel) rfl) (
    okc (ok_iald (by decide +kernel) rfl) (
    okc (ok_aload_n (k := 1) (by decide +kernel) rfl rfl) (
    okc (ok_iload_n (k := 2) (by decide +kernel) rfl rfl) (
    okc (ok_callT (mi := 217) (n := 1) (idx := 111) rfl m_JSt_charAt (by decide) w_715 w_716 w_717 (by decide +kernel) rfl) (
    okc (ok_cmp_eq (off := 5) (by decide +kernel) rfl rfl) (
    okc (ok_iconst (n := 0) (by decide +kernel) rfl rfl) (
    okc (ok_zret rfl (by decide +kernel)) (
    okc (ok_iinc (n := 1) (by decide +kernel) rfl rfl) (
    okc (ok_goto (off := -35) (by decide +kernel) rfl) (
    okc (ok_iconst (n := 1) (by decide +kernel) rfl rfl) (
    okc (ok_zret rfl (by decide +kernel)) ( okn))))))))))))))))))))))))))))))))))))))
def pl_R_readPiece_1 : List (Nat × mA) := [(0, a_aload 0 1), (1, a_getI 1 10 5 4), (4, a_push 2 5), (5, a_cmp (fun x y => decide (x ≠ y)) 22 8), (8, a_aload 0 9), (9, a_getI 1 10 8 12), (12, a_if (fun x => decide (x ≠ 0)) 22 15), (15, a_aload 0 16), (16, a_callO 1 10 218 0 19), (19, a_goto 132), (22, a_aload 0 23), (23, a_getI 1 10 5 26), (26, a_push 1 27), (27, a_cmp (fun x y => decide (x ≠ y)) 44 30), (30, a_aload 0 31), (31, a_getI 1 10 8 34), (34, a_if (fun x => decide (x ≠ 0)) 44 37), (37, a_aload 0 38), (38, a_callO 1 10 219 0 41), (41, a_goto 132), (44, a_aload 0 45), (45, a_push 33 47), (47, a_callO 1 10 220 1 50), (50, a_if (fun x => decide (x = 0)) 80 53), (53, a_iload 2 54), (54, a_push 8 56), (56, a_cmp (fun x y => decide (y ≤ x)) 80 59), (59, a_aload 0 60), (60, a_callO 1 10 193 0 63), (63, a_aload 0 64), (64, a_iload 1 65), (65, a_iload 2 66), (66, a_push 1 67), (67, a_bin (fun x y => x + y) 68), (68, a_callO 1 10 212 2 71), (71, a_aload 0 72), (72, a_push (-33) 74), (74, a_callO 1 10 214 1 77), (77, a_goto 132), (80, a_aload 0 81), (81, a_push 40 83), (83, a_callO 1 10 220 1 86), (86, a_if (fun x => decide (x = 0)) 128 89), (89, a_iload 1 90), (90, a_push 8 92), (92, a_cmp (fun x y => decide (y ≤ x)) 128 95), (95, a_aload 0 96), (96, a_callO 1 10 193 0 99), (99, a_aload 0 100), (100, a_push 0 101), (101, a_iload 1 102), (102, a_push 1 103), (103, a_bin (fun x y => x + y) 104), (104, a_iload 2 105), (105, a_callO 1 10 195 3 108), (108, a_aload 0 109), (109, a_push 41 111), (111, a_callO 1 10 220 1 114), (114, a_if (fun x => decide (x ≠ 0)) 121 117), (117, a_aload 0 118)]
set_option maxRecDepth 20000 in
theorem ol_R_readPiece_1 : okall B sp D cA (SPf B sp Ls xs adK adV) MT ⟨"WreckSky$Reader", "readPiece", "(II)V"⟩ prog_3_method_11_code 3 (Option.none : Option Jvm.ClassFile.FieldType) (pl_R_readPiece_1) := by
  unfold pl_R_readPiece_1
  exact
    okc (ok_aload_n (k := 0) (by decide +kernel) rfl rfl) (
    okc (ok_getI (k := 5) (idx := 32) cX1_ok (by decide) (by decide +kernel) w_235 (by decide +kernel) rfl) (
    okc (ok_iconst (n := 2) (by decide +kernel) rfl rfl) (
    okc (ok_cmp_ne (off := 17) (by decide +kernel) rfl rfl) (
    okc (ok_aload_n (k := 0) (by decide +kernel) rfl rfl) (
    okc (ok_getI (k := 8) (idx := 87) cX1_ok (by decide) (by decide +kernel) w_238 (by decide +kernel) rfl) (
    okc (ok_if_ne (off := 10) (by decide +kernel) rfl rfl) (
    okc (ok_aload_n (k := 0) (by decide +kernel) rfl rfl) (
    okc (ok_callV (SPf_ok _ _ _ _ _ _) (mi := 218) (n := 0) (idx := 130) rfl m_R_readNumber (by decide) cX1_ok w_769 w_771 w_14 (by decide +kernel) rfl) (
    okc (ok_goto (off := 113) (by decide +kernel) rfl) (
    okc (ok_aload_n (k := 0) (by decide +kernel) rfl rfl) (
    okc (ok_getI (k := 5) (idx := 32) cX1_ok (by decide) (by decide +kernel) w_235 (by decide +kernel) rfl) (
    okc (ok_iconst (n := 1) (by decide +kernel) rfl rfl) (
    okc (ok_cmp_ne (off := 17) (by decide +kernel) rfl rfl) (
    okc (ok_aload_n (k := 0) (by decide +kernel) rfl rfl) (
    okc (ok_getI (k := 8) (idx := 87) cX1_ok (by decide) (by decide +kernel) w_238 (by decide +kernel) rfl) (
    okc (ok_if_ne (off := 10) (by decide +kernel) rfl rfl) (
    okc (ok_aload_n (k := 0) (by decide +kernel) rfl rfl) (
    okc (ok_callV (SPf_ok _ _ _ _ _ _) (mi := 219) (n := 0) (idx := 133) rfl m_R_readName (by decide) cX1_ok w_777 w_779 w_16 (by decide +kernel) rfl) (
    okc (ok_goto (off := 91) (by decide +kernel) rfl) (
    okc (ok_aload_n (k := 0) (by decide +kernel) rfl rfl) (
    okc (ok_bipush (n := 33) (by decide +kernel) (by decide +kernel) rfl) (
    okc (ok_callV (SPf_ok _ _ _ _ _ _) (mi := 220) (n := 1) (idx := 115) rfl m_R_isSign (by decide) cX1_ok w_836 w_838 w_17 (by decide +kernel) rfl) (
    okc (ok_if_eq (off := 30) (by decide +kernel) rfl rfl) (
    okc (ok_iload_n (k := 2) (by decide +kernel) rfl rfl) (
    okc (ok_bipush (n := 8) (by decide +kernel) (by decide +kernel) rfl) (
    okc (ok_cmp_ge (off := 24) (by decide +kernel) rfl rfl) (
    okc (ok_aload_n (k := 0) (by decide +kernel) rfl rfl) (
    okc (ok_callV (SPf_ok _ _ _ _ _ _) (mi := 193) (n := 0) (idx := 41) rfl m_R_step (by decide) cX1_ok w_687 w_689 w_8 (by decide +kernel) rfl) (
    okc (ok_aload_n (k := 0) (by decide +kernel) rfl rfl) (
    okc (ok_iload_n (k := 1) (by decide +kernel) rfl rfl) (
    okc (ok_iload_n (k := 2) (by decide +kernel) rfl rfl) (
    okc (ok_iconst (n := 1) (by decide +kernel) rfl rfl) (
    okc (ok_iadd (by decide +kernel) rfl) (
    okc (ok_callV (SPf_ok _ _ _ _ _ _) (mi := 212) (n := 2) (idx := 119) rfl m_R_readPiece (by decide) cX1_ok w_765 w_767 w_13 (by decide +kernel) rfl) (
    okc (ok_aload_n (k := 0) (by decide +kernel) rfl rfl) (
    okc (ok_bipush (n := -33) (by decide +kernel) (by decide +kernel) rfl) (
    okc (ok_callV (SPf_ok _ _ _ _ _ _) (mi := 214) (n := 1) (idx := 126) rfl m_R_put (by decide) cX1_ok w_773 w_775 w_15 (by decide +kernel) rfl) (
    okc (ok_goto (off := 55) (by decide +kernel) rfl) (
    okc (ok_aload_n (k := 0) (by decide +kernel) rfl rfl) (
    okc (ok_bipush (n := 40) (by decide +kernel) (by decide +kernel) rfl) (
    okc (ok_callV (SPf_ok _ _ _ _ _ _) (mi := 220) (n := 1) (idx := 115) rfl m_R_isSign (by decide) cX1_ok w_836 w_838 w_17 (by decide +kernel) rfl) (
    okc (ok_if_eq (off := 42) (by decide +kernel) rfl rfl) (
    okc (ok_iload_n (k := 1) (by decide +kernel) rfl rfl) (
    okc (ok_bipush (n := 8) (by decide +kernel) (by decide +kernel) rfl) (
    okc (ok_cmp_ge (off := 36) (by decide +kernel) rfl rfl) (
    okc (ok_aload_n (k := 0) (by decide +kernel) rfl rfl) (
    okc (ok_callV (SPf_ok _ _ _ _ _ _) (mi := 193) (n := 0) (idx := 41) rfl m_R_step (by decide) cX1_ok w_687 w_689 w_8 (by decide +kernel) rfl) (
    okc (ok_aload_n (k := 0) (by decide +kernel) rfl rfl) (
    okc (ok_iconst (n := 0) (by decide +kernel) rfl rfl) (
    okc (ok_iload_n (k := 1) (by decide +kernel) rfl rfl) (
    okc (ok_iconst (n := 1) (by decide +kernel) rfl rfl) (
    okc (ok_iadd (by decide +kernel) rfl) (
    okc (ok_iload_n (k := 2) (by decide +kernel) rfl rfl) (
    okc (ok_callV (SPf_ok _ _ _ _ _ _) (mi := 195) (n := 3) (idx := 48) rfl m_R_readLevel (by decide) cX1_ok w_761 w_763 w_12 (by decide +kernel) rfl) (
    okc (ok_aload_n (k := 0) (by decide +kernel) rfl rfl) (
    okc (ok_bipush (n := 41) (by decide +kernel) (by decide +kernel) rfl) (
    okc (ok_callV (SPf_ok _ _ _ _ _ _) (mi := 220) (n := 1) (idx := 115) rfl m_R_isSign (by decide) cX1_ok w_836 w_838 w_17 (by decide +kernel) rfl) (
    okc (ok_if_ne (off := 7) (by decide +kernel) rfl rfl) (
    okc (ok_aload_n (k := 0) (by decide +kernel) rfl rfl) ( okn))))))))))))))))))))))))))))))))))))))))))))))))))))))))))))
def pl_R_readPiece_2 : List (Nat × mA) := [(118, a_callO 1 10 196 0 121), (121, a_aload 0 122), (122, a_callO 1 10 193 0 125), (125, a_goto 132), (128, a_aload 0 129), (129, a_callO 1 10 196 0 132), (132, a_ret)]
set_option maxRecDepth 20000 in
theorem ol_R_readPiece_2 : okall B sp D cA (SPf B sp Ls xs adK adV) MT ⟨"WreckSky$Reader", "readPiece", "(II)V"⟩ prog_3_method_11_code 3 (Option.none : Option Jvm.ClassFile.FieldType) (pl_R_readPiece_2) := by
  unfold pl_R_readPiece_2
  exact
    okc (ok_callV (SPf_ok _ _ _ _ _ _) (mi := 196) (n := 0) (idx := 52) rfl m_R_fail (by decide) cX1_ok w_757 w_759 w_11 (by decide +kernel) rfl) (
    okc (ok_aload_n (k := 0) (by decide +kernel) rfl rfl) (
    okc (ok_callV (SPf_ok _ _ _ _ _ _) (mi := 193) (n := 0) (idx := 41) rfl m_R_step (by decide) cX1_ok w_687 w_689 w_8 (by decide +kernel) rfl) (
    okc (ok_goto (off := 7) (by decide +kernel) rfl) (
    okc (ok_aload_n (k := 0) (by decide +kernel) rfl rfl) (
    okc (ok_callV (SPf_ok _ _ _ _ _ _) (mi := 196) (n := 0) (idx := 52) rfl m_R_fail (by decide) cX1_ok w_757 w_759 w_11 (by decide +kernel) rfl) (
    okc (ok_ret rfl (by decide +kernel)) ( okn)))))))
def pl_R_readPiece : List (Nat × mA) := pl_R_readPiece_1 ++ (pl_R_readPiece_2)
theorem ol_R_readPiece : okall B sp D cA (SPf B sp Ls xs adK adV) MT ⟨"WreckSky$Reader", "readPiece", "(II)V"⟩ prog_3_method_11_code 3 (Option.none : Option Jvm.ClassFile.FieldType) (pl_R_readPiece) := oka ol_R_readPiece_1 (ol_R_readPiece_2)
def pl_R_joinsAt : List (Nat × mA) := [(0, a_iload 1 1), (1, a_sw (t_sw 0 [32, 39, 46, 79] 103)), (32, a_aload 0 33), (33, a_push 124 35), (35, a_callO 1 10 220 1 38), (38, a_zret), (39, a_aload 0 40), (40, a_push 38 42), (42, a_callO 1 10 220 1 45), (45, a_zret), (46, a_aload 0 47), (47, a_push 60 49), (49, a_callO 1 10 220 1 52), (52, a_if (fun x => decide (x ≠ 0)) 73 55), (55, a_aload 0 56), (56, a_push 61 58), (58, a_callO 1 10 220 1 61), (61, a_if (fun x => decide (x ≠ 0)) 73 64), (64, a_aload 0 65), (65, a_push 62 67), (67, a_callO 1 10 220 1 70), (70, a_if (fun x => decide (x = 0)) 77 73), (73, a_push 1 74), (74, a_goto 78), (77, a_push 0 78), (78, a_zret), (79, a_aload 0 80), (80, a_push 43 82), (82, a_callO 1 10 220 1 85), (85, a_if (fun x => decide (x ≠ 0)) 97 88), (88, a_aload 0 89), (89, a_push 45 91), (91, a_callO 1 10 220 1 94), (94, a_if (fun x => decide (x = 0)) 101 97), (97, a_push 1 98), (98, a_goto 102), (101, a_push 0 102), (102, a_zret), (103, a_aload 0 104), (104, a_push 42 106), (106, a_callO 1 10 220 1 109), (109, a_if (fun x => decide (x ≠ 0)) 121 112), (112, a_aload 0 113), (113, a_push 47 115), (115, a_callO 1 10 220 1 118), (118, a_if (fun x => decide (x = 0)) 125 121), (121, a_push 1 122), (122, a_goto 126), (125, a_push 0 126), (126, a_zret)]
set_option maxRecDepth 20000 in
theorem ol_R_joinsAt : okall B sp D cA (SPf B sp Ls xs adK adV) MT ⟨"WreckSky$Reader", "joinsAt", "(I)Z"⟩ prog_3_method_9_code 2 (Option.some Jvm.ClassFile.FieldType.boolean) (pl_R_joinsAt) := by
  unfold pl_R_joinsAt
  exact
    okc (ok_iload_n (k := 1) (by decide +kernel) rfl rfl) (
    okc (ok_tab (dflt := 102) (lo := 0) (hi := 3) (offs := #[31, 38, 45, 78]) (len := 31) (by decide +kernel) rfl rfl rfl) (
    okc (ok_aload_n (k := 0) (by decide +kernel) rfl rfl) (
    okc (ok_bipush (n := 124) (by decide +kernel) (by decide +kernel) rfl) (
    okc (ok_callV (SPf_ok _ _ _ _ _ _) (mi := 220) (n := 1) (idx := 115) rfl m_R_isSign (by decide) cX1_ok w_836 w_838 w_17 (by decide +kernel) rfl) (
    okc (ok_zret rfl (by decide +kernel)) (
    okc (ok_aload_n (k := 0) (by decide +kernel) rfl rfl) (
    okc (ok_bipush (n := 38) (by decide +kernel) (by decide +kernel) rfl) (
    okc (ok_callV (SPf_ok _ _ _ _ _ _) (mi := 220) (n := 1) (idx := 115) rfl m_R_isSign (by decide) cX1_ok w_836 w_838 w_17 (by decide +kernel) rfl) (
    okc (ok_zret rfl (by decide +kernel)) (
    okc (ok_aload_n (k := 0) (by decide +kernel) rfl rfl) (
    okc (ok_bipush (n := 60) (by decide +kernel) (by decide +kernel) rfl) (
    okc (ok_callV (SPf_ok _ _ _ _ _ _) (mi := 220) (n := 1) (idx := 115) rfl m_R_isSign (by decide) cX1_ok w_836 w_838 w_17 (by decide +kernel) rfl) (
    okc (ok_if_ne (off := 21) (by decide +kernel) rfl rfl) (
    okc (ok_aload_n (k := 0) (by decide +kernel) rfl rfl) (
    okc (ok_bipush (n := 61) (by decide +kernel) (by decide +kernel) rfl) (
    okc (ok_callV (SPf_ok _ _ _ _ _ _) (mi := 220) (n := 1) (idx := 115) rfl m_R_isSign (by decide) cX1_ok w_836 w_838 w_17 (by decide +kernel) rfl) (
    okc (ok_if_ne (off := 12) (by decide +kernel) rfl rfl) (
    okc (ok_aload_n (k := 0) (by decide +kernel) rfl rfl) (
    okc (ok_bipush (n := 62) (by decide +kernel) (by decide +kernel) rfl) (
    okc (ok_callV (SPf_ok _ _ _ _ _ _) (mi := 220) (n := 1) (idx := 115) rfl m_R_isSign (by decide) cX1_ok w_836 w_838 w_17 (by decide +kernel) rfl) (
    okc (ok_if_eq (off := 7) (by decide +kernel) rfl rfl) (
    okc (ok_iconst (n := 1) (by decide +kernel) rfl rfl) (
    okc (ok_goto (off := 4) (by decide +kernel) rfl) (
    okc (ok_iconst (n := 0) (by decide +kernel) rfl rfl) (
    okc (ok_zret rfl (by decide +kernel)) (
    okc (ok_aload_n (k := 0) (by decide +kernel) rfl rfl) (
    okc (ok_bipush (n := 43) (by decide +kernel) (by decide +kernel) rfl) (
    okc (ok_callV (SPf_ok _ _ _ _ _ _) (mi := 220) (n := 1) (idx := 115) rfl m_R_isSign (by decide) cX1_ok w_836 w_838 w_17 (by decide +kernel) rfl) (
    okc (ok_if_ne (off := 12) (by decide +kernel) rfl rfl) (
    okc (ok_aload_n (k := 0) (by decide +kernel) rfl rfl) (
    okc (ok_bipush (n := 45) (by decide +kernel) (by decide +kernel) rfl) (
    okc (ok_callV (SPf_ok _ _ _ _ _ _) (mi := 220) (n := 1) (idx := 115) rfl m_R_isSign (by decide) cX1_ok w_836 w_838 w_17 (by decide +kernel) rfl) (
    okc (ok_if_eq (off := 7) (by decide +kernel) rfl rfl) (
    okc (ok_iconst (n := 1) (by decide +kernel) rfl rfl) (
    okc (ok_goto (off := 4) (by decide +kernel) rfl) (
    okc (ok_iconst (n := 0) (by decide +kernel) rfl rfl) (
    okc (ok_zret rfl (by decide +kernel)) (
    okc (ok_aload_n (k := 0) (by decide +kernel) rfl rfl) (
    okc (ok_bipush (n := 42) (by decide +kernel) (by decide +kernel) rfl) (
    okc (ok_callV (SPf_ok _ _ _ _ _ _) (mi := 220) (n := 1) (idx := 115) rfl m_R_isSign (by decide) cX1_ok w_836 w_838 w_17 (by decide +kernel) rfl) (
    okc (ok_if_ne (off := 12) (by decide +kernel) rfl rfl) (
    okc (ok_aload_n (k := 0) (by decide +kernel) rfl rfl) (
    okc (ok_bipush (n := 47) (by decide +kernel) (by decide +kernel) rfl) (
    okc (ok_callV (SPf_ok _ _ _ _ _ _) (mi := 220) (n := 1) (idx := 115) rfl m_R_isSign (by decide) cX1_ok w_836 w_838 w_17 (by decide +kernel) rfl) (
    okc (ok_if_eq (off := 7) (by decide +kernel) rfl rfl) (
    okc (ok_iconst (n := 1) (by decide +kernel) rfl rfl) (
    okc (ok_goto (off := 4) (by decide +kernel) rfl) (
    okc (ok_iconst (n := 0) (by decide +kernel) rfl rfl) (
    okc (ok_zret rfl (by decide +kernel)) ( okn))))))))))))))))))))))))))))))))))))))))))))))))))
def pl_R_put : List (Nat × mA) := [(0, a_aload 0 1), (1, a_getI 1 10 2 4), (4, a_push 96 6), (6, a_cmp (fun x y => decide (y ≤ x)) 29 9), (9, a_aload 0 10), (10, a_getR 1 10 1 13), (13, a_aload 0 14), (14, a_getI 1 10 2 17), (17, a_iload 1 18), (18, a_ast 0 (fun x => x) 19), (19, a_aload 0 20), (20, a_dup 21), (21, a_getI 1 10 2 24), (24, a_push 1 25), (25, a_bin (fun x y => x + y) 26), (26, a_putI 1 10 2 29), (29, a_ret)]
set_option maxRecDepth 20000 in
theorem ol_R_put : okall B sp D cA (SPf B sp Ls xs adK adV) MT ⟨"WreckSky$Reader", "put", "(I)V"⟩ prog_3_method_14_code 2 (Option.none : Option Jvm.ClassFile.FieldType) (pl_R_put) := by
  unfold pl_R_put
  exact
    okc (ok_aload_n (k := 0) (by decide +kernel) rfl rfl) (
    okc (ok_getI (k := 2) (idx := 25) cX1_ok (by decide) (by decide +kernel) w_232 (by decide +kernel) rfl) (
    okc (ok_bipush (n := 96) (by decide +kernel) (by decide +kernel) rfl) (
    okc (ok_cmp_ge (off := 23) (by decide +kernel) rfl rfl) (
    okc (ok_aload_n (k := 0) (by decide +kernel) rfl rfl) (
    okc (ok_getR (k := 1) (idx := 9) cX1_ok (by decide) (by decide +kernel) w_231 (by decide +kernel) rfl) (
    okc (ok_aload_n (k := 0) (by decide +kernel) rfl rfl) (
    okc (ok_getI (k := 2) (idx := 25) cX1_ok (by decide) (by decide +kernel) w_232 (by decide +kernel) rfl) (
    okc (ok_iload_n (k := 1) (by decide +kernel) rfl rfl) (
    okc (ok_iast (by decide +kernel) rfl) (
    okc (ok_aload_n (k := 0) (by decide +kernel) rfl rfl) (
    okc (ok_dup (by decide +kernel) rfl) (
    okc (ok_getI (k := 2) (idx := 25) cX1_ok (by decide) (by decide +kernel) w_232 (by decide +kernel) rfl) (
    okc (ok_iconst (n := 1) (by decide +kernel) rfl rfl) (
    okc (ok_iadd (by decide +kernel) rfl) (
    okc (ok_putI (k := 2) (idx := 25) cX1_ok (by decide) rfl rfl w_232 (by decide +kernel) rfl) (
    okc (ok_ret rfl (by decide +kernel)) ( okn)))))))))))))))))
def pl_M_nameOf : List (Nat × mA) := [(0, a_aload 0 1), (1, a_getI 9 36 15 4), (4, a_sw (l_sw [(0, 32), (1, 64)] 86)), (32, a_iload 1 33), (33, a_push 109 35), (35, a_cmp (fun x y => decide (x ≠ y)) 42 38), (38, a_push 0 39), (39, a_goto 63), (42, a_iload 1 43), (43, a_push 104 45), (45, a_cmp (fun x y => decide (x ≠ y)) 52 48), (48, a_push 1 49), (49, a_goto 63), (52, a_iload 1 53), (53, a_push 112 55), (55, a_cmp (fun x y => decide (x ≠ y)) 62 58), (58, a_push 2 59), (59, a_goto 63), (62, a_push (-1) 63), (63, a_iret), (64, a_iload 1 65), (65, a_push 98 67), (67, a_cmp (fun x y => decide (x ≠ y)) 74 70), (70, a_push 0 71), (71, a_goto 85), (74, a_iload 1 75), (75, a_push 117 77), (77, a_cmp (fun x y => decide (x ≠ y)) 84 80), (80, a_push 1 81), (81, a_goto 85), (84, a_push (-1) 85), (85, a_iret), (86, a_iload 1 87), (87, a_push 109 89), (89, a_cmp (fun x y => decide (x ≠ y)) 96 92), (92, a_push 0 93), (93, a_goto 107), (96, a_iload 1 97), (97, a_push 112 99), (99, a_cmp (fun x y => decide (x ≠ y)) 106 102), (102, a_push 1 103), (103, a_goto 107), (106, a_push (-1) 107), (107, a_iret)]
set_option maxRecDepth 20000 in
theorem ol_M_nameOf : okall B sp D cA (SPf B sp Ls xs adK adV) MT ⟨"WreckSkyModel", "nameOf", "(I)I"⟩ prog_11_method_61_code 2 (Option.some Jvm.ClassFile.FieldType.int) (pl_M_nameOf) := by
  unfold pl_M_nameOf
  exact
    okc (ok_aload_n (k := 0) (by decide +kernel) rfl rfl) (
    okc (ok_getI (k := 15) (idx := 222) cX9_ok (by decide) (by decide +kernel) w_1006 (by decide +kernel) rfl) (
    okc (ok_lku (dflt := 82) (ps := #[(0, 28), (1, 60)]) (len := 28) (by decide +kernel) (by decide +kernel) rfl rfl) (
    okc (ok_iload_n (k := 1) (by decide +kernel) rfl rfl) (
    okc (ok_bipush (n := 109) (by decide +kernel) (by decide +kernel) rfl) (
    okc (ok_cmp_ne (off := 7) (by decide +kernel) rfl rfl) (
    okc (ok_iconst (n := 0) (by decide +kernel) rfl rfl) (
    okc (ok_goto (off := 24) (by decide +kernel) rfl) (
    okc (ok_iload_n (k := 1) (by decide +kernel) rfl rfl) (
    okc (ok_bipush (n := 104) (by decide +kernel) (by decide +kernel) rfl) (
    okc (ok_cmp_ne (off := 7) (by decide +kernel) rfl rfl) (
    okc (ok_iconst (n := 1) (by decide +kernel) rfl rfl) (
    okc (ok_goto (off := 14) (by decide +kernel) rfl) (
    okc (ok_iload_n (k := 1) (by decide +kernel) rfl rfl) (
    okc (ok_bipush (n := 112) (by decide +kernel) (by decide +kernel) rfl) (
    okc (ok_cmp_ne (off := 7) (by decide +kernel) rfl rfl) (
    okc (ok_iconst (n := 2) (by decide +kernel) rfl rfl) (
    okc (ok_goto (off := 4) (by decide +kernel) rfl) (
    okc (ok_iconst (n := -1) (by decide +kernel) rfl rfl) (
    okc (ok_iret rfl (by decide +kernel)) (
    okc (ok_iload_n (k := 1) (by decide +kernel) rfl rfl) (
    okc (ok_bipush (n := 98) (by decide +kernel) (by decide +kernel) rfl) (
    okc (ok_cmp_ne (off := 7) (by decide +kernel) rfl rfl) (
    okc (ok_iconst (n := 0) (by decide +kernel) rfl rfl) (
    okc (ok_goto (off := 14) (by decide +kernel) rfl) (
    okc (ok_iload_n (k := 1) (by decide +kernel) rfl rfl) (
    okc (ok_bipush (n := 117) (by decide +kernel) (by decide +kernel) rfl) (
    okc (ok_cmp_ne (off := 7) (by decide +kernel) rfl rfl) (
    okc (ok_iconst (n := 1) (by decide +kernel) rfl rfl) (
    okc (ok_goto (off := 4) (by decide +kernel) rfl) (
    okc (ok_iconst (n := -1) (by decide +kernel) rfl rfl) (
    okc (ok_iret rfl (by decide +kernel)) (
    okc (ok_iload_n (k := 1) (by decide +kernel) rfl rfl) (
    okc (ok_bipush (n := 109) (by decide +kernel) (by decide +kernel) rfl) (
    okc (ok_cmp_ne (off := 7) (by decide +kernel) rfl rfl) (
    okc (ok_iconst (n := 0) (by decide +kernel) rfl rfl) (
    okc (ok_goto (off := 14) (by decide +kernel) rfl) (
    okc (ok_iload_n (k := 1) (by decide +kernel) rfl rfl) (
    okc (ok_bipush (n := 112) (by decide +kernel) (by decide +kernel) rfl) (
    okc (ok_cmp_ne (off := 7) (by decide +kernel) rfl rfl) (
    okc (ok_iconst (n := 1) (by decide +kernel) rfl rfl) (
    okc (ok_goto (off := 4) (by decide +kernel) rfl) (
    okc (ok_iconst (n := -1) (by decide +kernel) rfl rfl) (
    okc (ok_iret rfl (by decide +kernel)) ( okn))))))))))))))))))))))))))))))))))))))))))))
def pl_JSt_length : List (Nat × mA) := [(0, a_aload 0 1), (1, a_strV 4), (4, a_blen 5), (5, a_aload 0 6), (6, a_callT 221 0 9), (9, a_bin (fun x y => x >>> (y &&& 31)) 10), (10, a_iret)]
set_option maxRecDepth 20000 in
theorem ol_JSt_length : okall B sp D cA (SPf B sp Ls xs adK adV) MT ⟨"java/lang/String", "length", "()I"⟩ prog_16_method_54_code 1 (Option.some Jvm.ClassFile.FieldType.int) (pl_JSt_length) := by
  unfold pl_JSt_length
  exact
    okc (ok_aload_n (k := 0) (by decide +kernel) rfl rfl) (
    okc (ok_strV (idx := 9) w_1454 (by decide +kernel) rfl) (
    okc (ok_blen (by decide +kernel) rfl) (
    okc (ok_aload_n (k := 0) (by decide +kernel) rfl rfl) (
    okc (ok_callT (mi := 221) (n := 0) (idx := 335) rfl m_JSt_coder (by decide) w_709 w_710 w_711 (by decide +kernel) rfl) (
    okc (ok_ishr (by decide +kernel) rfl) (
    okc (ok_iret rfl (by decide +kernel)) ( okn)))))))
def pl_JSt_charAt : List (Nat × mA) := [(0, a_aload 0 1), (1, a_callT 222 0 4), (4, a_if (fun x => decide (x = 0)) 16 7), (7, a_aload 0 8), (8, a_strV 11), (11, a_iload 1 12), (12, a_call 223 2 15), (15, a_cret), (16, a_aload 0 17), (17, a_strV 20), (20, a_iload 1 21), (21, a_fail), (24, a_cret)]
set_option maxRecDepth 20000 in
theorem ol_JSt_charAt : okall B sp D cA (SPf B sp Ls xs adK adV) MT ⟨"java/lang/String", "charAt", "(I)C"⟩ prog_16_method_56_code 2 (Option.some Jvm.ClassFile.FieldType.char) (pl_JSt_charAt) := by
  unfold pl_JSt_charAt
  exact
    okc (ok_aload_n (k := 0) (by decide +kernel) rfl rfl) (
    okc (ok_callT (mi := 222) (n := 0) (idx := 492) rfl m_JSt_isLatin1 (by decide) w_719 w_720 w_721 (by decide +kernel) rfl) (
    okc (ok_if_eq (off := 12) (by decide +kernel) rfl rfl) (
    okc (ok_aload_n (k := 0) (by decide +kernel) rfl rfl) (
    okc (ok_strV (idx := 9) w_1454 (by decide +kernel) rfl) (
    okc (ok_iload_n (k := 1) (by decide +kernel) rfl rfl) (
    okc (ok_callS (SPf_ok _ _ _ _ _ _) (mi := 223) (n := 2) (idx := 495) rfl m_JStL_charAt (by decide) w_723 w_724 (by decide +kernel) rfl) (
    okc (ok_cret rfl (by decide +kernel)) (
    okc (ok_aload_n (k := 0) (by decide +kernel) rfl rfl) (
    okc (ok_strV (idx := 9) w_1454 (by decide +kernel) rfl) (
    okc (ok_iload_n (k := 1) (by decide +kernel) rfl rfl) (
    okc (ok_fail) (
    okc (ok_cret rfl (by decide +kernel)) ( okn)))))))))))))
def pl_R_readNumber : List (Nat × mA) := [(0, a_aload 0 1), (1, a_getI 1 10 7 4), (4, a_aload 0 5), (5, a_getI 1 10 6 8), (8, a_bin (fun x y => x - y) 9), (9, a_push 4 10), (10, a_cmp (fun x y => decide (x ≤ y)) 18 13), (13, a_aload 0 14), (14, a_callO 1 10 196 0 17), (17, a_ret), (18, a_push 0 19), (19, a_istore 1 20), (20, a_aload 0 21), (21, a_getI 1 10 6 24), (24, a_istore 2 25), (25, a_iload 2 26), (26, a_aload 0 27), (27, a_getI 1 10 7 30), (30, a_cmp (fun x y => decide (y ≤ x)) 57 33), (33, a_push 10 35), (35, a_iload 1 36), (36, a_bin (fun x y => x * y) 37), (37, a_aload 0 38), (38, a_getR 1 10 0 41), (41, a_getR 5 2 0 44), (44, a_iload 2 45), (45, a_ald 0 46), (46, a_bin (fun x y => x + y) 47), (47, a_push 48 49), (49, a_bin (fun x y => x - y) 50), (50, a_istore 1 51), (51, a_iinc 2 1 54), (54, a_goto 25), (57, a_aload 0 58), (58, a_dup 59), (59, a_getI 1 10 3 62), (62, a_push 1 63), (63, a_bin (fun x y => x + y) 64), (64, a_putI 1 10 3 67), (67, a_aload 0 68), (68, a_iload 1 69), (69, a_callO 1 10 214 1 72), (72, a_aload 0 73), (73, a_callO 1 10 193 0 76), (76, a_ret)]
set_option maxRecDepth 20000 in
theorem ol_R_readNumber : okall B sp D cA (SPf B sp Ls xs adK adV) MT ⟨"WreckSky$Reader", "readNumber", "()V"⟩ prog_3_method_12_code 3 (Option.none : Option Jvm.ClassFile.FieldType) (pl_R_readNumber) := by
  unfold pl_R_readNumber
  exact
    okc (ok_aload_n (k := 0) (by decide +kernel) rfl rfl) (
    okc (ok_getI (k := 7) (idx := 35) cX1_ok (by decide) (by decide +kernel) w_237 (by decide +kernel) rfl) (
    okc (ok_aload_n (k := 0) (by decide +kernel) rfl rfl) (
    okc (ok_getI (k := 6) (idx := 66) cX1_ok (by decide) (by decide +kernel) w_236 (by decide +kernel) rfl) (
    okc (ok_isub (by decide +kernel) rfl) (
    okc (ok_iconst (n := 4) (by decide +kernel) rfl rfl) (
    okc (ok_cmp_le (off := 8) (by decide +kernel) rfl rfl) (
    okc (ok_aload_n (k := 0) (by decide +kernel) rfl rfl) (
    okc (ok_callV (SPf_ok _ _ _ _ _ _) (mi := 196) (n := 0) (idx := 52) rfl m_R_fail (by decide) cX1_ok w_757 w_759 w_11 (by decide +kernel) rfl) (
    okc (ok_ret rfl (by decide +kernel)) (
    okc (ok_iconst (n := 0) (by decide +kernel) rfl rfl) (
    okc (ok_istore_n (k := 1) (by decide +kernel) rfl rfl) (
    okc (ok_aload_n (k := 0) (by decide +kernel) rfl rfl) (
    okc (ok_getI (k := 6) (idx := 66) cX1_ok (by decide) (by decide +kernel) w_236 (by decide +kernel) rfl) (
    okc (ok_istore_n (k := 2) (by decide +kernel) rfl rfl) (
    okc (ok_iload_n (k := 2) (by decide +kernel) rfl rfl) (
    okc (ok_aload_n (k := 0) (by decide +kernel) rfl rfl) (
    okc (ok_getI (k := 7) (idx := 35) cX1_ok (by decide) (by decide +kernel) w_237 (by decide +kernel) rfl) (
    okc (ok_cmp_ge (off := 27) (by decide +kernel) rfl rfl) (
    okc (ok_bipush (n := 10) (by decide +kernel) (by decide +kernel) rfl) (
    okc (ok_iload_n (k := 1) (by decide +kernel) rfl rfl) (
    okc (ok_imul (by decide +kernel) rfl) (
    okc (ok_aload_n (k := 0) (by decide +kernel) rfl rfl) (
    okc (ok_getR (k := 0) (idx := 21) cX1_ok (by decide) (by decide +kernel) w_230 (by decide +kernel) rfl) (
    okc (ok_getR (k := 0) (idx := 74) cX5_ok (by decide) (by decide +kernel) w_214 (by decide +kernel) rfl) (
    okc (ok_iload_n (k := 2) (by decide +kernel) rfl rfl) (
    okc (ok_iald (by decide +kernel) rfl) (
    okc (ok_iadd (by decide +kernel) rfl) (
    okc (ok_bipush (n := 48) (by decide +kernel) (by decide +kernel) rfl) (
    okc (ok_isub (by decide +kernel) rfl) (
    okc (ok_istore_n (k := 1) (by decide +kernel) rfl rfl) (
    okc (ok_iinc (n := 1) (by decide +kernel) rfl rfl) (
    okc (ok_goto (off := -29) (by decide +kernel) rfl) (
    okc (ok_aload_n (k := 0) (by decide +kernel) rfl rfl) (
    okc (ok_dup (by decide +kernel) rfl) (
    okc (ok_getI (k := 3) (idx := 29) cX1_ok (by decide) (by decide +kernel) w_233 (by decide +kernel) rfl) (
    okc (ok_iconst (n := 1) (by decide +kernel) rfl rfl) (
    okc (ok_iadd (by decide +kernel) rfl) (
    okc (ok_putI (k := 3) (idx := 29) cX1_ok (by decide) rfl rfl w_233 (by decide +kernel) rfl) (
    okc (ok_aload_n (k := 0) (by decide +kernel) rfl rfl) (
    okc (ok_iload_n (k := 1) (by decide +kernel) rfl rfl) (
    okc (ok_callV (SPf_ok _ _ _ _ _ _) (mi := 214) (n := 1) (idx := 126) rfl m_R_put (by decide) cX1_ok w_773 w_775 w_15 (by decide +kernel) rfl) (
    okc (ok_aload_n (k := 0) (by decide +kernel) rfl rfl) (
    okc (ok_callV (SPf_ok _ _ _ _ _ _) (mi := 193) (n := 0) (idx := 41) rfl m_R_step (by decide) cX1_ok w_687 w_689 w_8 (by decide +kernel) rfl) (
    okc (ok_ret rfl (by decide +kernel)) ( okn)))))))))))))))))))))))))))))))))))))))))))))
def pl_R_readName : List (Nat × mA) := [(0, a_aload 0 1), (1, a_getI 1 10 7 4), (4, a_aload 0 5), (5, a_getI 1 10 6 8), (8, a_bin (fun x y => x - y) 9), (9, a_push 1 10), (10, a_cmp (fun x y => decide (x ≠ y)) 36 13), (13, a_aload 0 14), (14, a_getR 1 10 4 17), (17, a_aload 0 18), (18, a_getR 1 10 0 21), (21, a_getR 5 2 0 24), (24, a_aload 0 25), (25, a_getI 1 10 6 28), (28, a_ald 0 29), (29, a_un (fun x => (x.toUInt32 % 65536).toInt32) 30), (30, a_callT 224 1 33), (33, a_goto 37), (36, a_push (-1) 37), (37, a_istore 1 38), (38, a_iload 1 39), (39, a_if (fun x => decide (0 ≤ x)) 47 42), (42, a_aload 0 43), (43, a_callO 1 10 196 0 46), (46, a_ret), (47, a_aload 0 48), (48, a_dup 49), (49, a_getI 1 10 3 52), (52, a_push 1 53), (53, a_bin (fun x y => x + y) 54), (54, a_putI 1 10 3 57), (57, a_aload 0 58), (58, a_push (-1) 59), (59, a_iload 1 60), (60, a_bin (fun x y => x - y) 61), (61, a_callO 1 10 214 1 64), (64, a_aload 0 65), (65, a_callO 1 10 193 0 68), (68, a_ret)]
set_option maxRecDepth 20000 in
theorem ol_R_readName : okall B sp D cA (SPf B sp Ls xs adK adV) MT ⟨"WreckSky$Reader", "readName", "()V"⟩ prog_3_method_13_code 2 (Option.none : Option Jvm.ClassFile.FieldType) (pl_R_readName) := by
  unfold pl_R_readName
  exact
    okc (ok_aload_n (k := 0) (by decide +kernel) rfl rfl) (
    okc (ok_getI (k := 7) (idx := 35) cX1_ok (by decide) (by decide +kernel) w_237 (by decide +kernel) rfl) (
    okc (ok_aload_n (k := 0) (by decide +kernel) rfl rfl) (
    okc (ok_getI (k := 6) (idx := 66) cX1_ok (by decide) (by decide +kernel) w_236 (by decide +kernel) rfl) (
    okc (ok_isub (by decide +kernel) rfl) (
    okc (ok_iconst (n := 1) (by decide +kernel) rfl rfl) (
    okc (ok_cmp_ne (off := 26) (by decide +kernel) rfl rfl) (
    okc (ok_aload_n (k := 0) (by decide +kernel) rfl rfl) (
    okc (ok_getR (k := 4) (idx := 17) cX1_ok (by decide) (by decide +kernel) w_234 (by decide +kernel) rfl) (
    okc (ok_aload_n (k := 0) (by decide +kernel) rfl rfl) (
    okc (ok_getR (k := 0) (idx := 21) cX1_ok (by decide) (by decide +kernel) w_230 (by decide +kernel) rfl) (
    okc (ok_getR (k := 0) (idx := 74) cX5_ok (by decide) (by decide +kernel) w_214 (by decide +kernel) rfl) (
    okc (ok_aload_n (k := 0) (by decide +kernel) rfl rfl) (
    okc (ok_getI (k := 6) (idx := 66) cX1_ok (by decide) (by decide +kernel) w_236 (by decide +kernel) rfl) (
    okc (ok_iald (by decide +kernel) rfl) (
    okc (ok_i2c (by decide +kernel) rfl) (
    okc (ok_callT (mi := 224) (n := 1) (idx := 136) rfl m_JSt_indexOf (by decide) w_781 w_782 w_783 (by decide +kernel) rfl) (
    okc (ok_goto (off := 4) (by decide +kernel) rfl) (
    okc (ok_iconst (n := -1) (by decide +kernel) rfl rfl) (
    okc (ok_istore_n (k := 1) (by decide +kernel) rfl rfl) (
    okc (ok_iload_n (k := 1) (by decide +kernel) rfl rfl) (
    okc (ok_if_ge (off := 8) (by decide +kernel) rfl rfl) (
    okc (ok_aload_n (k := 0) (by decide +kernel) rfl rfl) (
    okc (ok_callV (SPf_ok _ _ _ _ _ _) (mi := 196) (n := 0) (idx := 52) rfl m_R_fail (by decide) cX1_ok w_757 w_759 w_11 (by decide +kernel) rfl) (
    okc (ok_ret rfl (by decide +kernel)) (
    okc (ok_aload_n (k := 0) (by decide +kernel) rfl rfl) (
    okc (ok_dup (by decide +kernel) rfl) (
    okc (ok_getI (k := 3) (idx := 29) cX1_ok (by decide) (by decide +kernel) w_233 (by decide +kernel) rfl) (
    okc (ok_iconst (n := 1) (by decide +kernel) rfl rfl) (
    okc (ok_iadd (by decide +kernel) rfl) (
    okc (ok_putI (k := 3) (idx := 29) cX1_ok (by decide) rfl rfl w_233 (by decide +kernel) rfl) (
    okc (ok_aload_n (k := 0) (by decide +kernel) rfl rfl) (
    okc (ok_iconst (n := -1) (by decide +kernel) rfl rfl) (
    okc (ok_iload_n (k := 1) (by decide +kernel) rfl rfl) (
    okc (ok_isub (by decide +kernel) rfl) (
    okc (ok_callV (SPf_ok _ _ _ _ _ _) (mi := 214) (n := 1) (idx := 126) rfl m_R_put (by decide) cX1_ok w_773 w_775 w_15 (by decide +kernel) rfl) (
    okc (ok_aload_n (k := 0) (by decide +kernel) rfl rfl) (
    okc (ok_callV (SPf_ok _ _ _ _ _ _) (mi := 193) (n := 0) (idx := 41) rfl m_R_step (by decide) cX1_ok w_687 w_689 w_8 (by decide +kernel) rfl) (
    okc (ok_ret rfl (by decide +kernel)) ( okn)))))))))))))))))))))))))))))))))))))))
def pl_R_isSign : List (Nat × mA) := [(0, a_aload 0 1), (1, a_getI 1 10 5 4), (4, a_if (fun x => decide (x ≠ 0)) 27 7), (7, a_aload 0 8), (8, a_getR 1 10 0 11), (11, a_getR 5 2 0 14), (14, a_aload 0 15), (15, a_getI 1 10 6 18), (18, a_ald 0 19), (19, a_iload 1 20), (20, a_cmp (fun x y => decide (x ≠ y)) 27 23), (23, a_push 1 24), (24, a_goto 28), (27, a_push 0 28), (28, a_zret)]
set_option maxRecDepth 20000 in
theorem ol_R_isSign : okall B sp D cA (SPf B sp Ls xs adK adV) MT ⟨"WreckSky$Reader", "isSign", "(I)Z"⟩ prog_3_method_8_code 2 (Option.some Jvm.ClassFile.FieldType.boolean) (pl_R_isSign) := by
  unfold pl_R_isSign
  exact
    okc (ok_aload_n (k := 0) (by decide +kernel) rfl rfl) (
    okc (ok_getI (k := 5) (idx := 32) cX1_ok (by decide) (by decide +kernel) w_235 (by decide +kernel) rfl) (
    okc (ok_if_ne (off := 23) (by decide +kernel) rfl rfl) (
    okc (ok_aload_n (k := 0) (by decide +kernel) rfl rfl) (
    okc (ok_getR (k := 0) (idx := 21) cX1_ok (by decide) (by decide +kernel) w_230 (by decide +kernel) rfl) (
    okc (ok_getR (k := 0) (idx := 74) cX5_ok (by decide) (by decide +kernel) w_214 (by decide +kernel) rfl) (
    okc (ok_aload_n (k := 0) (by decide +kernel) rfl rfl) (
    okc (ok_getI (k := 6) (idx := 66) cX1_ok (by decide) (by decide +kernel) w_236 (by decide +kernel) rfl) (
    okc (ok_iald (by decide +kernel) rfl) (
    okc (ok_iload_n (k := 1) (by decide +kernel) rfl rfl) (
    okc (ok_cmp_ne (off := 7) (by decide +kernel) rfl rfl) (
    okc (ok_iconst (n := 1) (by decide +kernel) rfl rfl) (
    okc (ok_goto (off := 4) (by decide +kernel) rfl) (
    okc (ok_iconst (n := 0) (by decide +kernel) rfl rfl) (
    okc (ok_zret rfl (by decide +kernel)) ( okn)))))))))))))))
def pl_JSt_coder : List (Nat × mA) := [(0, a_push 1 3), (3, a_if (fun x => decide (x = 0)) 13 6), (6, a_aload 0 7), (7, a_strC 10), (10, a_goto 14), (13, a_push 1 14), (14, a_zret)]
set_option maxRecDepth 20000 in
theorem ol_JSt_coder : okall B sp D cA (SPf B sp Ls xs adK adV) MT ⟨"java/lang/String", "coder", "()B"⟩ prog_16_method_152_code 1 (Option.some Jvm.ClassFile.FieldType.byte) (pl_JSt_coder) := by
  unfold pl_JSt_coder
  exact
    okc (ok_comp (idx := 38) w_713 (by decide +kernel) rfl) (
    okc (ok_if_eq (off := 10) (by decide +kernel) rfl rfl) (
    okc (ok_aload_n (k := 0) (by decide +kernel) rfl rfl) (
    okc (ok_strC (idx := 15) w_1455 (by decide +kernel) rfl) (
    okc (ok_goto (off := 4) (by decide +kernel) rfl) (
    okc (ok_iconst (n := 1) (by decide +kernel) rfl rfl) (
    okc (ok_bret rfl (by decide +kernel)) ( okn)))))))
def pl_JSt_isLatin1 : List (Nat × mA) := [(0, a_push 1 3), (3, a_if (fun x => decide (x = 0)) 17 6), (6, a_aload 0 7), (7, a_strC 10), (10, a_if (fun x => decide (x ≠ 0)) 17 13), (13, a_push 1 14), (14, a_goto 18), (17, a_push 0 18), (18, a_zret)]
set_option maxRecDepth 20000 in
theorem ol_JSt_isLatin1 : okall B sp D cA (SPf B sp Ls xs adK adV) MT ⟨"java/lang/String", "isLatin1", "()Z"⟩ prog_16_method_154_code 1 (Option.some Jvm.ClassFile.FieldType.boolean) (pl_JSt_isLatin1) := by
  unfold pl_JSt_isLatin1
  exact
    okc (ok_comp (idx := 38) w_713 (by decide +kernel) rfl) (
    okc (ok_if_eq (off := 14) (by decide +kernel) rfl rfl) (
    okc (ok_aload_n (k := 0) (by decide +kernel) rfl rfl) (
    okc (ok_strC (idx := 15) w_1455 (by decide +kernel) rfl) (
    okc (ok_if_ne (off := 7) (by decide +kernel) rfl rfl) (
    okc (ok_iconst (n := 1) (by decide +kernel) rfl rfl) (
    okc (ok_goto (off := 4) (by decide +kernel) rfl) (
    okc (ok_iconst (n := 0) (by decide +kernel) rfl rfl) (
    okc (ok_zret rfl (by decide +kernel)) ( okn)))))))))
def pl_JStL_charAt : List (Nat × mA) := [(0, a_iload 1 1), (1, a_aload 0 2), (2, a_blen 3), (3, a_call 225 2 6), (6, a_aload 0 7), (7, a_iload 1 8), (8, a_bald 9), (9, a_push 255 12), (12, a_bin (fun x y => x &&& y) 13), (13, a_un (fun x => (x.toUInt32 % 65536).toInt32) 14), (14, a_cret)]
set_option maxRecDepth 20000 in
theorem ol_JStL_charAt : okall B sp D cA (SPf B sp Ls xs adK adV) MT ⟨"java/lang/StringLatin1", "charAt", "([BI)C"⟩ prog_17_method_2_code 2 (Option.some Jvm.ClassFile.FieldType.char) (pl_JStL_charAt) := by
  unfold pl_JStL_charAt
  exact
    okc (ok_iload_n (k := 1) (by decide +kernel) rfl rfl) (
    okc (ok_aload_n (k := 0) (by decide +kernel) rfl rfl) (
    okc (ok_blen (by decide +kernel) rfl) (
    okc (ok_callS (SPf_ok _ _ _ _ _ _) (mi := 225) (n := 2) (idx := 9) rfl m_JSt_checkIndex (by decide) w_726 w_727 (by decide +kernel) rfl) (
    okc (ok_aload_n (k := 0) (by decide +kernel) rfl rfl) (
    okc (ok_iload_n (k := 1) (by decide +kernel) rfl rfl) (
    okc (ok_bald (by decide +kernel) rfl) (
    okc (ok_sipush (n := 255) (by decide +kernel) (by decide +kernel) rfl) (
    okc (ok_iand (by decide +kernel) rfl) (
    okc (ok_i2c (by decide +kernel) rfl) (
    okc (ok_cret rfl (by decide +kernel)) ( okn)))))))))))
def pl_JSt_indexOf : List (Nat × mA) := [(0, a_aload 0 1), (1, a_iload 1 2), (2, a_push 0 3), (3, a_callT 226 2 6), (6, a_iret)]
set_option maxRecDepth 20000 in
theorem ol_JSt_indexOf : okall B sp D cA (SPf B sp Ls xs adK adV) MT ⟨"java/lang/String", "indexOf", "(I)I"⟩ prog_16_method_79_code 2 (Option.some Jvm.ClassFile.FieldType.int) (pl_JSt_indexOf) := by
  unfold pl_JSt_indexOf
  exact
    okc (ok_aload_n (k := 0) (by decide +kernel) rfl rfl) (
    okc (ok_iload_n (k := 1) (by decide +kernel) rfl rfl) (
    okc (ok_iconst (n := 0) (by decide +kernel) rfl rfl) (
    okc (ok_callT (mi := 226) (n := 2) (idx := 633) rfl m_JSt_indexOf2 (by decide) w_785 w_786 w_787 (by decide +kernel) rfl) (
    okc (ok_iret rfl (by decide +kernel)) ( okn)))))
def pl_JSt_checkIndex : List (Nat × mA) := [(0, a_iload 0 1), (1, a_iload 1 2), (2, a_spec 2 5), (5, a_call 227 3 8), (8, a_pop 9), (9, a_ret)]
set_option maxRecDepth 20000 in
theorem ol_JSt_checkIndex : okall B sp D cA (SPf B sp Ls xs adK adV) MT ⟨"java/lang/String", "checkIndex", "(II)V"⟩ prog_16_method_155_code 2 (Option.none : Option Jvm.ClassFile.FieldType) (pl_JSt_checkIndex) := by
  unfold pl_JSt_checkIndex
  exact
    okc (ok_iload_n (k := 0) (by decide +kernel) rfl rfl) (
    okc (ok_iload_n (k := 1) (by decide +kernel) rfl rfl) (
    okc (ok_form (idx := 1053) w_729 (by decide +kernel) rfl) (
    okc (ok_callS (SPf_ok _ _ _ _ _ _) (mi := 227) (n := 3) (idx := 1059) rfl m_JPreconditions_checkIndex (by decide) w_731 w_732 (by decide +kernel) rfl) (
    okc (ok_pop (by decide +kernel) rfl) (
    okc (ok_ret rfl (by decide +kernel)) ( okn))))))
def pl_JSt_indexOf2 : List (Nat × mA) := [(0, a_aload 0 1), (1, a_callT 222 0 4), (4, a_if (fun x => decide (x = 0)) 23 7), (7, a_aload 0 8), (8, a_strV 11), (11, a_iload 1 12), (12, a_iload 2 13), (13, a_aload 0 14), (14, a_callT 216 0 17), (17, a_call 228 4 20), (20, a_goto 36), (23, a_aload 0 24), (24, a_strV 27), (27, a_iload 1 28), (28, a_iload 2 29), (29, a_aload 0 30), (30, a_callT 216 0 33), (33, a_fail), (36, a_iret)]
set_option maxRecDepth 20000 in
theorem ol_JSt_indexOf2 : okall B sp D cA (SPf B sp Ls xs adK adV) MT ⟨"java/lang/String", "indexOf", "(II)I"⟩ prog_16_method_80_code 3 (Option.some Jvm.ClassFile.FieldType.int) (pl_JSt_indexOf2) := by
  unfold pl_JSt_indexOf2
  exact
    okc (ok_aload_n (k := 0) (by decide +kernel) rfl rfl) (
    okc (ok_callT (mi := 222) (n := 0) (idx := 492) rfl m_JSt_isLatin1 (by decide) w_719 w_720 w_721 (by decide +kernel) rfl) (
    okc (ok_if_eq (off := 19) (by decide +kernel) rfl rfl) (
    okc (ok_aload_n (k := 0) (by decide +kernel) rfl rfl) (
    okc (ok_strV (idx := 9) w_1454 (by decide +kernel) rfl) (
    okc (ok_iload_n (k := 1) (by decide +kernel) rfl rfl) (
    okc (ok_iload_n (k := 2) (by decide +kernel) rfl rfl) (
    okc (ok_aload_n (k := 0) (by decide +kernel) rfl rfl) (
    okc (ok_callT (mi := 216) (n := 0) (idx := 505) rfl m_JSt_length (by decide) w_789 w_706 w_707 (by decide +kernel) rfl) (
    okc (ok_callS (SPf_ok _ _ _ _ _ _) (mi := 228) (n := 4) (idx := 637) rfl m_JStL_indexOf (by decide) w_790 w_791 (by decide +kernel) rfl) (
    okc (ok_goto (off := 16) (by decide +kernel) rfl) (
    okc (ok_aload_n (k := 0) (by decide +kernel) rfl rfl) (
    okc (ok_strV (idx := 9) w_1454 (by decide +kernel) rfl) (
    okc (ok_iload_n (k := 1) (by decide +kernel) rfl rfl) (
    okc (ok_iload_n (k := 2) (by decide +kernel) rfl rfl) (
    okc (ok_aload_n (k := 0) (by decide +kernel) rfl rfl) (
    okc (ok_callT (mi := 216) (n := 0) (idx := 505) rfl m_JSt_length (by decide) w_789 w_706 w_707 (by decide +kernel) rfl) (
    okc (ok_fail) (
    okc (ok_iret rfl (by decide +kernel)) ( okn)))))))))))))))))))
def pl_JPreconditions_checkIndex : List (Nat × mA) := [(0, a_iload 0 1), (1, a_if (fun x => decide (x < 0)) 9 4), (4, a_iload 0 5), (5, a_iload 1 6), (6, a_cmp (fun x y => decide (x < y)) 16 9), (9, a_aload 2 10), (10, a_iload 0 11), (11, a_iload 1 12), (12, a_fail), (15, a_fail), (16, a_iload 0 17), (17, a_iret)]
set_option maxRecDepth 20000 in
theorem ol_JPreconditions_checkIndex : okall B sp D cA (SPf B sp Ls xs adK adV) MT ⟨"jdk/internal/util/Preconditions", "checkIndex", "(IILjava/util/function/BiFunction;)I"⟩ prog_21_method_11_code 3 (Option.some Jvm.ClassFile.FieldType.int) (pl_JPreconditions_checkIndex) := by
  unfold pl_JPreconditions_checkIndex
  exact
    okc (ok_iload_n (k := 0) (by decide +kernel) rfl rfl) (
    okc (ok_if_lt (off := 8) (by decide +kernel) rfl rfl) (
    okc (ok_iload_n (k := 0) (by decide +kernel) rfl rfl) (
    okc (ok_iload_n (k := 1) (by decide +kernel) rfl rfl) (
    okc (ok_cmp_lt (off := 10) (by decide +kernel) rfl rfl) (
    okc (ok_aload_n (k := 2) (by decide +kernel) rfl rfl) (
    okc (ok_iload_n (k := 0) (by decide +kernel) rfl rfl) (
    okc (ok_iload_n (k := 1) (by decide +kernel) rfl rfl) (
    okc (ok_fail) (
    okc (ok_fail) (
    okc (ok_iload_n (k := 0) (by decide +kernel) rfl rfl) (
    okc (ok_iret rfl (by decide +kernel)) ( okn))))))))))))
end PR

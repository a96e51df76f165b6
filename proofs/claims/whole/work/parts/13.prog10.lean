section PR
variable {B : Nat} {sp : Nat → Value} {D : va_G} {cA : Nat → ClassId} {Ls : Nat} {xs : Nat → Int32} {adK adV : Nat → Nat}
def pl_M_takesE_1 : List (Nat × mA) := [(0, a_push 0 1), (1, a_istore 1 2), (2, a_push 0 3), (3, a_istore 2 4), (4, a_push 1 5), (5, a_istore 3 6), (6, a_aload 0 7), (7, a_push 0 8), (8, a_putI 9 36 19 11), (11, a_aload 0 12), (12, a_push 0 13), (13, a_putI 9 36 20 16), (16, a_aload 0 17), (17, a_push 0 18), (18, a_putI 9 36 22 21), (21, a_aload 0 22), (22, a_getR 9 36 23 25), (25, a_push 0 26), (26, a_push 0 27), (27, a_ast 1 (vp_nar .boolean) 28), (28, a_iload 3 29), (29, a_if (fun x => decide (x ≠ 0)) 39 32), (32, a_aload 0 33), (33, a_getI 9 36 12 36), (36, a_if (fun x => decide (x = 0)) 345 39), (39, a_iload 3 40), (40, a_if (fun x => decide (x = 0)) 180 43), (43, a_aload 0 44), (44, a_getI 9 36 12 47), (47, a_push 3 48), (48, a_cmp (fun x y => decide (x ≠ y)) 97 51), (51, a_aload 0 52), (52, a_getI 9 36 13 55), (55, a_push 33 57), (57, a_cmp (fun x y => decide (x ≠ y)) 97 60), (60, a_iload 2 61), (61, a_push 8 63), (63, a_cmp (fun x y => decide (y ≤ x)) 97 66), (66, a_aload 0 67), (67, a_getR 9 36 21 70), (70, a_aload 0 71), (71, a_getI 9 36 22 74), (74, a_push (-10) 76), (76, a_ast 0 (fun x => x) 77), (77, a_aload 0 78), (78, a_dup 79), (79, a_getI 9 36 22 82), (82, a_push 1 83), (83, a_bin (fun x y => x + y) 84), (84, a_putI 9 36 22 87), (87, a_iinc 2 1 90), (90, a_aload 0 91), (91, a_callO 9 36 157 0 94), (94, a_goto 172), (97, a_aload 0 98), (98, a_getI 9 36 12 101), (101, a_push 3 102), (102, a_cmp (fun x y => decide (x ≠ y)) 158 105), (105, a_aload 0 106), (106, a_getI 9 36 13 109)]
set_option maxRecDepth 20000 in
theorem ol_M_takesE_1 : okall B sp D cA (SPf B sp Ls xs adK adV) MT ⟨"WreckSkyModel", "takesE", "()Z"⟩ prog_11_method_66_code 5 (Option.some Jvm.ClassFile.FieldType.boolean) (pl_M_takesE_1) := by
  unfold pl_M_takesE_1
  exact
    okc (ok_iconst (n := 0) (by decide +kernel) rfl rfl) (
    okc (ok_istore_n (k := 1) (by decide +kernel) rfl rfl) (
    okc (ok_iconst (n := 0) (by decide +kernel) rfl rfl) (
    okc (ok_istore_n (k := 2) (by decide +kernel) rfl rfl) (
    okc (ok_iconst (n := 1) (by decide +kernel) rfl rfl) (
    okc (ok_istore_n (k := 3) (by decide +kernel) rfl rfl) (
    okc (ok_aload_n (k := 0) (by decide +kernel) rfl rfl) (
    okc (ok_iconst (n := 0) (by decide +kernel) rfl rfl) (
    okc (ok_putI (k := 19) (idx := 234) cX9_ok (by decide) rfl rfl w_1010 (by decide +kernel) rfl) (
    okc (ok_aload_n (k := 0) (by decide +kernel) rfl rfl) (
    okc (ok_iconst (n := 0) (by decide +kernel) rfl rfl) (
    okc (ok_putI (k := 20) (idx := 240) cX9_ok (by decide) rfl rfl w_1011 (by decide +kernel) rfl) (
    okc (ok_aload_n (k := 0) (by decide +kernel) rfl rfl) (
    okc (ok_iconst (n := 0) (by decide +kernel) rfl rfl) (
    okc (ok_putI (k := 22) (idx := 228) cX9_ok (by decide) rfl rfl w_1013 (by decide +kernel) rfl) (
    okc (ok_aload_n (k := 0) (by decide +kernel) rfl rfl) (
    okc (ok_getR (k := 23) (idx := 47) cX9_ok (by decide) (by decide +kernel) w_1014 (by decide +kernel) rfl) (
    okc (ok_iconst (n := 0) (by decide +kernel) rfl rfl) (
    okc (ok_iconst (n := 0) (by decide +kernel) rfl rfl) (
    okc (ok_zast (by decide +kernel) rfl) (
    okc (ok_iload_n (k := 3) (by decide +kernel) rfl rfl) (
    okc (ok_if_ne (off := 10) (by decide +kernel) rfl rfl) (
    okc (ok_aload_n (k := 0) (by decide +kernel) rfl rfl) (
    okc (ok_getI (k := 12) (idx := 210) cX9_ok (by decide) (by decide +kernel) w_1003 (by decide +kernel) rfl) (
    okc (ok_if_eq (off := 309) (by decide +kernel) rfl rfl) (
    okc (ok_iload_n (k := 3) (by decide +kernel) rfl rfl) (
    okc (ok_if_eq (off := 140) (by decide +kernel) rfl rfl) (
    okc (ok_aload_n (k := 0) (by decide +kernel) rfl rfl) (
    okc (ok_getI (k := 12) (idx := 210) cX9_ok (by decide) (by decide +kernel) w_1003 (by decide +kernel) rfl) (
    okc (ok_iconst (n := 3) (by decide +kernel) rfl rfl) (
    okc (ok_cmp_ne (off := 49) (by decide +kernel) rfl rfl) (
    okc (ok_aload_n (k := 0) (by decide +kernel) rfl rfl) (
    okc (ok_getI (k := 13) (idx := 216) cX9_ok (by decide) (by decide +kernel) w_1004 (by decide +kernel) rfl) (
    okc (ok_bipush (n := 33) (by decide +kernel) (by decide +kernel) rfl) (
    okc (ok_cmp_ne (off := 40) (by decide +kernel) rfl rfl) (
    okc (ok_iload_n (k := 2) (by decide +kernel) rfl rfl) (
    okc (ok_bipush (n := 8) (by decide +kernel) (by decide +kernel) rfl) (
    okc (ok_cmp_ge (off := 34) (by decide +kernel) rfl rfl) (
    okc (ok_aload_n (k := 0) (by decide +kernel) rfl rfl) (
    okc (ok_getR (k := 21) (idx := 44) cX9_ok (by decide) (by decide +kernel) w_1012 (by decide +kernel) rfl) (
    okc (ok_aload_n (k := 0) (by decide +kernel) rfl rfl) (
    okc (ok_getI (k := 22) (idx := 228) cX9_ok (by decide) (by decide +kernel) w_1013 (by decide +kernel) rfl) (
    okc (ok_bipush (n := -10) (by decide +kernel) (by decide +kernel) rfl) (
    okc (ok_iast (by decide +kernel) rfl) (
    okc (ok_aload_n (k := 0) (by decide +kernel) rfl rfl) (
    okc (ok_dup (by decide +kernel) rfl) (
    okc (ok_getI (k := 22) (idx := 228) cX9_ok (by decide) (by decide +kernel) w_1013 (by decide +kernel) rfl) (
    okc (ok_iconst (n := 1) (by decide +kernel) rfl rfl) (
    okc (ok_iadd (by decide +kernel) rfl) (
    okc (ok_putI (k := 22) (idx := 228) cX9_ok (by decide) rfl rfl w_1013 (by decide +kernel) rfl) (
    okc (ok_iinc (n := 1) (by decide +kernel) rfl rfl) (
    okc (ok_aload_n (k := 0) (by decide +kernel) rfl rfl) (
    okc (ok_callV (SPf_ok _ _ _ _ _ _) (mi := 157) (n := 0) (idx := 225) rfl m_M_go (by decide) cX9_ok w_1337 w_1339 w_45 (by decide +kernel) rfl) (
    okc (ok_goto (off := 78) (by decide +kernel) rfl) (
    okc (ok_aload_n (k := 0) (by decide +kernel) rfl rfl) (
    okc (ok_getI (k := 12) (idx := 210) cX9_ok (by decide) (by decide +kernel) w_1003 (by decide +kernel) rfl) (
    okc (ok_iconst (n := 3) (by decide +kernel) rfl rfl) (
    okc (ok_cmp_ne (off := 56) (by decide +kernel) rfl rfl) (
    okc (ok_aload_n (k := 0) (by decide +kernel) rfl rfl) (
    okc (ok_getI (k := 13) (idx := 216) cX9_ok (by decide) (by decide +kernel) w_1004 (by decide +kernel) rfl) ( okn))))))))))))))))))))))))))))))))))))))))))))))))))))))))))))
def pl_M_takesE_2 : List (Nat × mA) := [(109, a_push 40 111), (111, a_cmp (fun x y => decide (x ≠ y)) 158 114), (114, a_iload 1 115), (115, a_push 8 117), (117, a_cmp (fun x y => decide (y ≤ x)) 158 120), (120, a_aload 0 121), (121, a_getR 9 36 21 124), (124, a_aload 0 125), (125, a_getI 9 36 22 128), (128, a_push (-11) 130), (130, a_ast 0 (fun x => x) 131), (131, a_aload 0 132), (132, a_dup 133), (133, a_getI 9 36 22 136), (136, a_push 1 137), (137, a_bin (fun x y => x + y) 138), (138, a_putI 9 36 22 141), (141, a_iinc 1 1 144), (144, a_aload 0 145), (145, a_getR 9 36 23 148), (148, a_iload 1 149), (149, a_push 0 150), (150, a_ast 1 (vp_nar .boolean) 151), (151, a_aload 0 152), (152, a_callO 9 36 157 0 155), (155, a_goto 172), (158, a_aload 0 159), (159, a_callO 9 36 201 0 162), (162, a_if (fun x => decide (x = 0)) 170 165), (165, a_push 0 166), (166, a_istore 3 167), (167, a_goto 172), (170, a_push 0 171), (171, a_zret), (172, a_aload 0 173), (173, a_callO 9 36 202 0 176), (176, a_istore 2 177), (177, a_goto 28), (180, a_aload 0 181), (181, a_getI 9 36 12 184), (184, a_push 3 185), (185, a_cmp (fun x y => decide (x ≠ y)) 237 188), (188, a_aload 0 189), (189, a_getI 9 36 13 192), (192, a_push 41 194), (194, a_cmp (fun x y => decide (x ≠ y)) 237 197), (197, a_iload 1 198), (198, a_if (fun x => decide (x ≤ 0)) 237 201), (201, a_aload 0 202), (202, a_push 0 203), (203, a_callO 9 36 203 1 206), (206, a_aload 0 207), (207, a_dup 208), (208, a_getI 9 36 22 211), (211, a_push 1 212), (212, a_bin (fun x y => x - y) 213), (213, a_putI 9 36 22 216), (216, a_iinc 1 (-1) 219), (219, a_aload 0 220), (220, a_push 6 222)]
set_option maxRecDepth 20000 in
theorem ol_M_takesE_2 : okall B sp D cA (SPf B sp Ls xs adK adV) MT ⟨"WreckSkyModel", "takesE", "()Z"⟩ prog_11_method_66_code 5 (Option.some Jvm.ClassFile.FieldType.boolean) (pl_M_takesE_2) := by
  unfold pl_M_takesE_2
  exact
    okc (ok_bipush (n := 40) (by decide +kernel) (by decide +kernel) rfl) (
    okc (ok_cmp_ne (off := 47) (by decide +kernel) rfl rfl) (
    okc (ok_iload_n (k := 1) (by decide +kernel) rfl rfl) (
    okc (ok_bipush (n := 8) (by decide +kernel) (by decide +kernel) rfl) (
    okc (ok_cmp_ge (off := 41) (by decide +kernel) rfl rfl) (
    okc (ok_aload_n (k := 0) (by decide +kernel) rfl rfl) (
    okc (ok_getR (k := 21) (idx := 44) cX9_ok (by decide) (by decide +kernel) w_1012 (by decide +kernel) rfl) (
    okc (ok_aload_n (k := 0) (by decide +kernel) rfl rfl) (
    okc (ok_getI (k := 22) (idx := 228) cX9_ok (by decide) (by decide +kernel) w_1013 (by decide +kernel) rfl) (
    okc (ok_bipush (n := -11) (by decide +kernel) (by decide +kernel) rfl) (
    okc (ok_iast (by decide +kernel) rfl) (
    okc (ok_aload_n (k := 0) (by decide +kernel) rfl rfl) (
    okc (ok_dup (by decide +kernel) rfl) (
    okc (ok_getI (k := 22) (idx := 228) cX9_ok (by decide) (by decide +kernel) w_1013 (by decide +kernel) rfl) (
    okc (ok_iconst (n := 1) (by decide +kernel) rfl rfl) (
    okc (ok_iadd (by decide +kernel) rfl) (
    okc (ok_putI (k := 22) (idx := 228) cX9_ok (by decide) rfl rfl w_1013 (by decide +kernel) rfl) (
    okc (ok_iinc (n := 1) (by decide +kernel) rfl rfl) (
    okc (ok_aload_n (k := 0) (by decide +kernel) rfl rfl) (
    okc (ok_getR (k := 23) (idx := 47) cX9_ok (by decide) (by decide +kernel) w_1014 (by decide +kernel) rfl) (
    okc (ok_iload_n (k := 1) (by decide +kernel) rfl rfl) (
    okc (ok_iconst (n := 0) (by decide +kernel) rfl rfl) (
    okc (ok_zast (by decide +kernel) rfl) (
    okc (ok_aload_n (k := 0) (by decide +kernel) rfl rfl) (
    okc (ok_callV (SPf_ok _ _ _ _ _ _) (mi := 157) (n := 0) (idx := 225) rfl m_M_go (by decide) cX9_ok w_1337 w_1339 w_45 (by decide +kernel) rfl) (
    okc (ok_goto (off := 17) (by decide +kernel) rfl) (
    okc (ok_aload_n (k := 0) (by decide +kernel) rfl rfl) (
    okc (ok_callV (SPf_ok _ _ _ _ _ _) (mi := 201) (n := 0) (idx := 246) rfl m_M_takesPart (by decide) cX9_ok w_1357 w_1359 w_50 (by decide +kernel) rfl) (
    okc (ok_if_eq (off := 8) (by decide +kernel) rfl rfl) (
    okc (ok_iconst (n := 0) (by decide +kernel) rfl rfl) (
    okc (ok_istore_n (k := 3) (by decide +kernel) rfl rfl) (
    okc (ok_goto (off := 5) (by decide +kernel) rfl) (
    okc (ok_iconst (n := 0) (by decide +kernel) rfl rfl) (
    okc (ok_zret rfl (by decide +kernel)) (
    okc (ok_aload_n (k := 0) (by decide +kernel) rfl rfl) (
    okc (ok_callV (SPf_ok _ _ _ _ _ _) (mi := 202) (n := 0) (idx := 250) rfl m_M_notsOpen (by decide) cX9_ok w_1372 w_1374 w_53 (by decide +kernel) rfl) (
    okc (ok_istore_n (k := 2) (by decide +kernel) rfl rfl) (
    okc (ok_goto (off := -149) (by decide +kernel) rfl) (
    okc (ok_aload_n (k := 0) (by decide +kernel) rfl rfl) (
    okc (ok_getI (k := 12) (idx := 210) cX9_ok (by decide) (by decide +kernel) w_1003 (by decide +kernel) rfl) (
    okc (ok_iconst (n := 3) (by decide +kernel) rfl rfl) (
    okc (ok_cmp_ne (off := 52) (by decide +kernel) rfl rfl) (
    okc (ok_aload_n (k := 0) (by decide +kernel) rfl rfl) (
    okc (ok_getI (k := 13) (idx := 216) cX9_ok (by decide) (by decide +kernel) w_1004 (by decide +kernel) rfl) (
    okc (ok_bipush (n := 41) (by decide +kernel) (by decide +kernel) rfl) (
    okc (ok_cmp_ne (off := 43) (by decide +kernel) rfl rfl) (
    okc (ok_iload_n (k := 1) (by decide +kernel) rfl rfl) (
    okc (ok_if_le (off := 39) (by decide +kernel) rfl rfl) (
    okc (ok_aload_n (k := 0) (by decide +kernel) rfl rfl) (
    okc (ok_iconst (n := 0) (by decide +kernel) rfl rfl) (
    okc (ok_callV (SPf_ok _ _ _ _ _ _) (mi := 203) (n := 1) (idx := 243) rfl m_M_settle (by decide) cX9_ok w_1365 w_1367 w_52 (by decide +kernel) rfl) (
    okc (ok_aload_n (k := 0) (by decide +kernel) rfl rfl) (
    okc (ok_dup (by decide +kernel) rfl) (
    okc (ok_getI (k := 22) (idx := 228) cX9_ok (by decide) (by decide +kernel) w_1013 (by decide +kernel) rfl) (
    okc (ok_iconst (n := 1) (by decide +kernel) rfl rfl) (
    okc (ok_isub (by decide +kernel) rfl) (
    okc (ok_putI (k := 22) (idx := 228) cX9_ok (by decide) rfl rfl w_1013 (by decide +kernel) rfl) (
    okc (ok_iinc (n := (-1)) (by decide +kernel) rfl rfl) (
    okc (ok_aload_n (k := 0) (by decide +kernel) rfl rfl) (
    okc (ok_bipush (n := 6) (by decide +kernel) (by decide +kernel) rfl) ( okn))))))))))))))))))))))))))))))))))))))))))))))))))))))))))))
def pl_M_takesE_3 : List (Nat × mA) := [(222, a_callO 9 36 203 1 225), (225, a_aload 0 226), (226, a_callO 9 36 202 0 229), (229, a_istore 2 230), (230, a_aload 0 231), (231, a_callO 9 36 157 0 234), (234, a_goto 28), (237, a_aload 0 238), (238, a_callO 9 36 204 0 241), (241, a_istore 4 243), (243, a_iload 4 245), (245, a_if (fun x => decide (x = 0)) 266 248), (248, a_iload 4 250), (250, a_call 205 1 253), (253, a_push 3 254), (254, a_cmp (fun x y => decide (x ≠ y)) 268 257), (257, a_aload 0 258), (258, a_getR 9 36 23 261), (261, a_iload 1 262), (262, a_ald 1 263), (263, a_if (fun x => decide (x = 0)) 268 266), (266, a_push 0 267), (267, a_zret), (268, a_aload 0 269), (269, a_getR 9 36 23 272), (272, a_iload 1 273), (273, a_iload 4 275), (275, a_call 205 1 278), (278, a_push 3 279), (279, a_cmp (fun x y => decide (x = y)) 300 282), (282, a_iload 4 284), (284, a_call 205 1 287), (287, a_push 3 288), (288, a_cmp (fun x y => decide (x ≤ y)) 304 291), (291, a_aload 0 292), (292, a_getR 9 36 23 295), (295, a_iload 1 296), (296, a_ald 1 297), (297, a_if (fun x => decide (x = 0)) 304 300), (300, a_push 1 301), (301, a_goto 305), (304, a_push 0 305), (305, a_ast 1 (vp_nar .boolean) 306), (306, a_aload 0 307), (307, a_iload 4 309), (309, a_call 205 1 312), (312, a_callO 9 36 203 1 315), (315, a_aload 0 316), (316, a_getR 9 36 21 319), (319, a_aload 0 320), (320, a_getI 9 36 22 323), (323, a_iload 4 325), (325, a_ast 0 (fun x => x) 326), (326, a_aload 0 327), (327, a_dup 328), (328, a_getI 9 36 22 331), (331, a_push 1 332), (332, a_bin (fun x y => x + y) 333), (333, a_putI 9 36 22 336), (336, a_push 1 337)]
set_option maxRecDepth 20000 in
theorem ol_M_takesE_3 : okall B sp D cA (SPf B sp Ls xs adK adV) MT ⟨"WreckSkyModel", "takesE", "()Z"⟩ prog_11_method_66_code 5 (Option.some Jvm.ClassFile.FieldType.boolean) (pl_M_takesE_3) := by
  unfold pl_M_takesE_3
  exact
    okc (ok_callV (SPf_ok _ _ _ _ _ _) (mi := 203) (n := 1) (idx := 243) rfl m_M_settle (by decide) cX9_ok w_1365 w_1367 w_52 (by decide +kernel) rfl) (
    okc (ok_aload_n (k := 0) (by decide +kernel) rfl rfl) (
    okc (ok_callV (SPf_ok _ _ _ _ _ _) (mi := 202) (n := 0) (idx := 250) rfl m_M_notsOpen (by decide) cX9_ok w_1372 w_1374 w_53 (by decide +kernel) rfl) (
    okc (ok_istore_n (k := 2) (by decide +kernel) rfl rfl) (
    okc (ok_aload_n (k := 0) (by decide +kernel) rfl rfl) (
    okc (ok_callV (SPf_ok _ _ _ _ _ _) (mi := 157) (n := 0) (idx := 225) rfl m_M_go (by decide) cX9_ok w_1337 w_1339 w_45 (by decide +kernel) rfl) (
    okc (ok_goto (off := -206) (by decide +kernel) rfl) (
    okc (ok_aload_n (k := 0) (by decide +kernel) rfl rfl) (
    okc (ok_callV (SPf_ok _ _ _ _ _ _) (mi := 204) (n := 0) (idx := 253) rfl m_M_signHere (by decide) cX9_ok w_1376 w_1378 w_54 (by decide +kernel) rfl) (
    okc (ok_istore (by decide +kernel) rfl) (
    okc (ok_iload (by decide +kernel) rfl) (
    okc (ok_if_eq (off := 21) (by decide +kernel) rfl rfl) (
    okc (ok_iload (by decide +kernel) rfl) (
    okc (ok_callS (SPf_ok _ _ _ _ _ _) (mi := 205) (n := 1) (idx := 231) rfl m_M_rank (by decide) w_1369 w_1370 (by decide +kernel) rfl) (
    okc (ok_iconst (n := 3) (by decide +kernel) rfl rfl) (
    okc (ok_cmp_ne (off := 14) (by decide +kernel) rfl rfl) (
    okc (ok_aload_n (k := 0) (by decide +kernel) rfl rfl) (
    okc (ok_getR (k := 23) (idx := 47) cX9_ok (by decide) (by decide +kernel) w_1014 (by decide +kernel) rfl) (
    okc (ok_iload_n (k := 1) (by decide +kernel) rfl rfl) (
    okc (ok_zald (by decide +kernel) rfl) (
    okc (ok_if_eq (off := 5) (by decide +kernel) rfl rfl) (
    okc (ok_iconst (n := 0) (by decide +kernel) rfl rfl) (
    okc (ok_zret rfl (by decide +kernel)) (
    okc (ok_aload_n (k := 0) (by decide +kernel) rfl rfl) (
    okc (ok_getR (k := 23) (idx := 47) cX9_ok (by decide) (by decide +kernel) w_1014 (by decide +kernel) rfl) (
    okc (ok_iload_n (k := 1) (by decide +kernel) rfl rfl) (
    okc (ok_iload (by decide +kernel) rfl) (
    okc (ok_callS (SPf_ok _ _ _ _ _ _) (mi := 205) (n := 1) (idx := 231) rfl m_M_rank (by decide) w_1369 w_1370 (by decide +kernel) rfl) (
    okc (ok_iconst (n := 3) (by decide +kernel) rfl rfl) (
    okc (ok_cmp_eq (off := 21) (by decide +kernel) rfl rfl) (
    okc (ok_iload (by decide +kernel) rfl) (
    okc (ok_callS (SPf_ok _ _ _ _ _ _) (mi := 205) (n := 1) (idx := 231) rfl m_M_rank (by decide) w_1369 w_1370 (by decide +kernel) rfl) (
    okc (ok_iconst (n := 3) (by decide +kernel) rfl rfl) (
    okc (ok_cmp_le (off := 16) (by decide +kernel) rfl rfl) (
    okc (ok_aload_n (k := 0) (by decide +kernel) rfl rfl) (
    okc (ok_getR (k := 23) (idx := 47) cX9_ok (by decide) (by decide +kernel) w_1014 (by decide +kernel) rfl) (
    okc (ok_iload_n (k := 1) (by decide +kernel) rfl rfl) (
    okc (ok_zald (by decide +kernel) rfl) (
    okc (ok_if_eq (off := 7) (by decide +kernel) rfl rfl) (
    okc (ok_iconst (n := 1) (by decide +kernel) rfl rfl) (
    okc (ok_goto (off := 4) (by decide +kernel) rfl) (
    okc (ok_iconst (n := 0) (by decide +kernel) rfl rfl) (
    okc (ok_zast (by decide +kernel) rfl) (
    okc (ok_aload_n (k := 0) (by decide +kernel) rfl rfl) (
    okc (ok_iload (by decide +kernel) rfl) (
    okc (ok_callS (SPf_ok _ _ _ _ _ _) (mi := 205) (n := 1) (idx := 231) rfl m_M_rank (by decide) w_1369 w_1370 (by decide +kernel) rfl) (
    okc (ok_callV (SPf_ok _ _ _ _ _ _) (mi := 203) (n := 1) (idx := 243) rfl m_M_settle (by decide) cX9_ok w_1365 w_1367 w_52 (by decide +kernel) rfl) (
    okc (ok_aload_n (k := 0) (by decide +kernel) rfl rfl) (
    okc (ok_getR (k := 21) (idx := 44) cX9_ok (by decide) (by decide +kernel) w_1012 (by decide +kernel) rfl) (
    okc (ok_aload_n (k := 0) (by decide +kernel) rfl rfl) (
    okc (ok_getI (k := 22) (idx := 228) cX9_ok (by decide) (by decide +kernel) w_1013 (by decide +kernel) rfl) (
    okc (ok_iload (by decide +kernel) rfl) (
    okc (ok_iast (by decide +kernel) rfl) (
    okc (ok_aload_n (k := 0) (by decide +kernel) rfl rfl) (
    okc (ok_dup (by decide +kernel) rfl) (
    okc (ok_getI (k := 22) (idx := 228) cX9_ok (by decide) (by decide +kernel) w_1013 (by decide +kernel) rfl) (
    okc (ok_iconst (n := 1) (by decide +kernel) rfl rfl) (
    okc (ok_iadd (by decide +kernel) rfl) (
    okc (ok_putI (k := 22) (idx := 228) cX9_ok (by decide) rfl rfl w_1013 (by decide +kernel) rfl) (
    okc (ok_iconst (n := 1) (by decide +kernel) rfl rfl) ( okn))))))))))))))))))))))))))))))))))))))))))))))))))))))))))))
def pl_M_takesE_4 : List (Nat × mA) := [(337, a_istore 3 338), (338, a_aload 0 339), (339, a_callO 9 36 157 0 342), (342, a_goto 28), (345, a_aload 0 346), (346, a_push 0 347), (347, a_callO 9 36 203 1 350), (350, a_iload 1 351), (351, a_if (fun x => decide (x ≠ 0)) 358 354), (354, a_push 1 355), (355, a_goto 359), (358, a_push 0 359), (359, a_zret)]
set_option maxRecDepth 20000 in
theorem ol_M_takesE_4 : okall B sp D cA (SPf B sp Ls xs adK adV) MT ⟨"WreckSkyModel", "takesE", "()Z"⟩ prog_11_method_66_code 5 (Option.some Jvm.ClassFile.FieldType.boolean) (pl_M_takesE_4) := by
  unfold pl_M_takesE_4
  exact
    okc (ok_istore_n (k := 3) (by decide +kernel) rfl rfl) (
    okc (ok_aload_n (k := 0) (by decide +kernel) rfl rfl) (
    okc (ok_callV (SPf_ok _ _ _ _ _ _) (mi := 157) (n := 0) (idx := 225) rfl m_M_go (by decide) cX9_ok w_1337 w_1339 w_45 (by decide +kernel) rfl) (
    okc (ok_goto (off := -314) (by decide +kernel) rfl) (
    okc (ok_aload_n (k := 0) (by decide +kernel) rfl rfl) (
    okc (ok_iconst (n := 0) (by decide +kernel) rfl rfl) (
    okc (ok_callV (SPf_ok _ _ _ _ _ _) (mi := 203) (n := 1) (idx := 243) rfl m_M_settle (by decide) cX9_ok w_1365 w_1367 w_52 (by decide +kernel) rfl) (
    okc (ok_iload_n (k := 1) (by decide +kernel) rfl rfl) (
    okc (ok_if_ne (off := 7) (by decide +kernel) rfl rfl) (
    okc (ok_iconst (n := 1) (by decide +kernel) rfl rfl) (
    okc (ok_goto (off := 4) (by decide +kernel) rfl) (
    okc (ok_iconst (n := 0) (by decide +kernel) rfl rfl) (
    okc (ok_zret rfl (by decide +kernel)) ( okn)))))))))))))
def pl_M_takesE : List (Nat × mA) := pl_M_takesE_1 ++ (pl_M_takesE_2 ++ (pl_M_takesE_3 ++ (pl_M_takesE_4)))
theorem ol_M_takesE : okall B sp D cA (SPf B sp Ls xs adK adV) MT ⟨"WreckSkyModel", "takesE", "()Z"⟩ prog_11_method_66_code 5 (Option.some Jvm.ClassFile.FieldType.boolean) (pl_M_takesE) := oka ol_M_takesE_1 (oka ol_M_takesE_2 (oka ol_M_takesE_3 (ol_M_takesE_4)))
def pl_H_becomeBlank : List (Nat × mA) := [(0, a_aload 0 1), (1, a_iload 1 2), (2, a_putI 2 3 1 5), (5, a_aload 0 6), (6, a_iload 2 7), (7, a_putI 2 3 2 10), (10, a_aload 0 11), (11, a_getR 2 3 0 14), (14, a_push 0 15), (15, a_call 182 2 18), (18, a_ret)]
set_option maxRecDepth 20000 in
theorem ol_H_becomeBlank : okall B sp D cA (SPf B sp Ls xs adK adV) MT ⟨"WreckSky$Sheet", "becomeBlank", "(II)V"⟩ prog_4_method_2_code 3 (Option.none : Option Jvm.ClassFile.FieldType) (pl_H_becomeBlank) := by
  unfold pl_H_becomeBlank
  exact
    okc (ok_aload_n (k := 0) (by decide +kernel) rfl rfl) (
    okc (ok_iload_n (k := 1) (by decide +kernel) rfl rfl) (
    okc (ok_putI (k := 1) (idx := 15) cX2_ok (by decide) rfl rfl w_275 (by decide +kernel) rfl) (
    okc (ok_aload_n (k := 0) (by decide +kernel) rfl rfl) (
    okc (ok_iload_n (k := 2) (by decide +kernel) rfl rfl) (
    okc (ok_putI (k := 2) (idx := 19) cX2_ok (by decide) rfl rfl w_277 (by decide +kernel) rfl) (
    okc (ok_aload_n (k := 0) (by decide +kernel) rfl rfl) (
    okc (ok_getR (k := 0) (idx := 9) cX2_ok (by decide) (by decide +kernel) w_272 (by decide +kernel) rfl) (
    okc (ok_iconst (n := 0) (by decide +kernel) rfl rfl) (
    okc (ok_callS (SPf_ok _ _ _ _ _ _) (mi := 182) (n := 2) (idx := 22) rfl m_JArrays_fill (by decide) w_899 w_552 (by decide +kernel) rfl) (
    okc (ok_ret rfl (by decide +kernel)) ( okn)))))))))))
def pl_H_hasPlace : List (Nat × mA) := [(0, a_iload 1 1), (1, a_push 0 2), (2, a_aload 0 3), (3, a_getI 2 3 2 6), (6, a_push 1 7), (7, a_bin (fun x y => x - y) 8), (8, a_call 94 3 11), (11, a_zret)]
set_option maxRecDepth 20000 in
theorem ol_H_hasPlace : okall B sp D cA (SPf B sp Ls xs adK adV) MT ⟨"WreckSky$Sheet", "hasPlace", "(I)Z"⟩ prog_4_method_5_code 2 (Option.some Jvm.ClassFile.FieldType.boolean) (pl_H_hasPlace) := by
  unfold pl_H_hasPlace
  exact
    okc (ok_iload_n (k := 1) (by decide +kernel) rfl rfl) (
    okc (ok_iconst (n := 0) (by decide +kernel) rfl rfl) (
    okc (ok_aload_n (k := 0) (by decide +kernel) rfl rfl) (
    okc (ok_getI (k := 2) (idx := 19) cX2_ok (by decide) (by decide +kernel) w_277 (by decide +kernel) rfl) (
    okc (ok_iconst (n := 1) (by decide +kernel) rfl rfl) (
    okc (ok_isub (by decide +kernel) rfl) (
    okc (ok_callN (SPf_ok _ _ _ _ _ _) (mi := 94) (n := 3) (idx := 34) rfl m_W_within (by decide) (fun _ h => h.2.2.2.2.2.2.2.2.2.2.1) w_352 (by decide +kernel) rfl) (
    okc (ok_zret rfl (by decide +kernel)) ( okn))))))))
def pl_H_hasNumber : List (Nat × mA) := [(0, a_aload 0 1), (1, a_iload 1 2), (2, a_callO 2 3 161 1 5), (5, a_if (fun x => decide (x = 0)) 23 8), (8, a_aload 0 9), (9, a_getR 2 3 0 12), (12, a_iload 1 13), (13, a_ald 0 14), (14, a_push (-1000000005) 16), (16, a_cmp (fun x y => decide (x = y)) 23 19), (19, a_push 1 20), (20, a_goto 24), (23, a_push 0 24), (24, a_zret)]
set_option maxRecDepth 20000 in
theorem ol_H_hasNumber : okall B sp D cA (SPf B sp Ls xs adK adV) MT ⟨"WreckSky$Sheet", "hasNumber", "(I)Z"⟩ prog_4_method_7_code 2 (Option.some Jvm.ClassFile.FieldType.boolean) (pl_H_hasNumber) := by
  unfold pl_H_hasNumber
  exact
    okc (ok_aload_n (k := 0) (by decide +kernel) rfl rfl) (
    okc (ok_iload_n (k := 1) (by decide +kernel) rfl rfl) (
    okc (ok_callV (SPf_ok _ _ _ _ _ _) (mi := 161) (n := 1) (idx := 38) rfl m_H_hasPlace (by decide) cX2_ok w_646 w_647 w_648 (by decide +kernel) rfl) (
    okc (ok_if_eq (off := 18) (by decide +kernel) rfl rfl) (
    okc (ok_aload_n (k := 0) (by decide +kernel) rfl rfl) (
    okc (ok_getR (k := 0) (idx := 9) cX2_ok (by decide) (by decide +kernel) w_272 (by decide +kernel) rfl) (
    okc (ok_iload_n (k := 1) (by decide +kernel) rfl rfl) (
    okc (ok_iald (by decide +kernel) rfl) (
    okc (ok_ldc (i := 42) w_651 (by decide +kernel) rfl) (
    okc (ok_cmp_eq (off := 7) (by decide +kernel) rfl rfl) (
    okc (ok_iconst (n := 1) (by decide +kernel) rfl rfl) (
    okc (ok_goto (off := 4) (by decide +kernel) rfl) (
    okc (ok_iconst (n := 0) (by decide +kernel) rfl rfl) (
    okc (ok_zret rfl (by decide +kernel)) ( okn))))))))))))))
def pl_W_held : List (Nat × mA) := [(0, a_iload 1 1), (1, a_iload 0 2), (2, a_iload 2 3), (3, a_call 116 2 6), (6, a_call 206 2 9), (9, a_iret)]
set_option maxRecDepth 20000 in
theorem ol_W_held : okall B sp D cA (SPf B sp Ls xs adK adV) MT ⟨"WreckSky", "held", "(III)I"⟩ prog_1_method_45_code 3 (Option.some Jvm.ClassFile.FieldType.int) (pl_W_held) := by
  unfold pl_W_held
  exact
    okc (ok_iload_n (k := 1) (by decide +kernel) rfl rfl) (
    okc (ok_iload_n (k := 0) (by decide +kernel) rfl rfl) (
    okc (ok_iload_n (k := 2) (by decide +kernel) rfl rfl) (
    okc (ok_callS (SPf_ok _ _ _ _ _ _) (mi := 116) (n := 2) (idx := 149) rfl m_JMath_min (by decide) w_393 w_394 (by decide +kernel) rfl) (
    okc (ok_callS (SPf_ok _ _ _ _ _ _) (mi := 206) (n := 2) (idx := 344) rfl m_JMath_max (by decide) w_396 w_397 (by decide +kernel) rfl) (
    okc (ok_iret rfl (by decide +kernel)) ( okn))))))
def pl_H_hasPlaces : List (Nat × mA) := [(0, a_iload 2 1), (1, a_if (fun x => decide (x < 0)) 30 4), (4, a_iload 1 5), (5, a_push 0 6), (6, a_aload 0 7), (7, a_getI 2 3 2 10), (10, a_call 94 3 13), (13, a_if (fun x => decide (x = 0)) 30 16), (16, a_iload 2 17), (17, a_aload 0 18), (18, a_getI 2 3 2 21), (21, a_iload 1 22), (22, a_bin (fun x y => x - y) 23), (23, a_cmp (fun x y => decide (y < x)) 30 26), (26, a_push 1 27), (27, a_goto 31), (30, a_push 0 31), (31, a_zret)]
set_option maxRecDepth 20000 in
theorem ol_H_hasPlaces : okall B sp D cA (SPf B sp Ls xs adK adV) MT ⟨"WreckSky$Sheet", "hasPlaces", "(II)Z"⟩ prog_4_method_6_code 3 (Option.some Jvm.ClassFile.FieldType.boolean) (pl_H_hasPlaces) := by
  unfold pl_H_hasPlaces
  exact
    okc (ok_iload_n (k := 2) (by decide +kernel) rfl rfl) (
    okc (ok_if_lt (off := 29) (by decide +kernel) rfl rfl) (
    okc (ok_iload_n (k := 1) (by decide +kernel) rfl rfl) (
    okc (ok_iconst (n := 0) (by decide +kernel) rfl rfl) (
    okc (ok_aload_n (k := 0) (by decide +kernel) rfl rfl) (
    okc (ok_getI (k := 2) (idx := 19) cX2_ok (by decide) (by decide +kernel) w_277 (by decide +kernel) rfl) (
    okc (ok_callN (SPf_ok _ _ _ _ _ _) (mi := 94) (n := 3) (idx := 34) rfl m_W_within (by decide) (fun _ h => h.2.2.2.2.2.2.2.2.2.2.1) w_352 (by decide +kernel) rfl) (
    okc (ok_if_eq (off := 17) (by decide +kernel) rfl rfl) (
    okc (ok_iload_n (k := 2) (by decide +kernel) rfl rfl) (
    okc (ok_aload_n (k := 0) (by decide +kernel) rfl rfl) (
    okc (ok_getI (k := 2) (idx := 19) cX2_ok (by decide) (by decide +kernel) w_277 (by decide +kernel) rfl) (
    okc (ok_iload_n (k := 1) (by decide +kernel) rfl rfl) (
    okc (ok_isub (by decide +kernel) rfl) (
    okc (ok_cmp_gt (off := 7) (by decide +kernel) rfl rfl) (
    okc (ok_iconst (n := 1) (by decide +kernel) rfl rfl) (
    okc (ok_goto (off := 4) (by decide +kernel) rfl) (
    okc (ok_iconst (n := 0) (by decide +kernel) rfl rfl) (
    okc (ok_zret rfl (by decide +kernel)) ( okn))))))))))))))))))
def pl_W_isSlot : List (Nat × mA) := [(0, a_iload 0 1), (1, a_push 0 2), (2, a_push 4 3), (3, a_call 94 3 6), (6, a_zret)]
set_option maxRecDepth 20000 in
theorem ol_W_isSlot : okall B sp D cA (SPf B sp Ls xs adK adV) MT ⟨"WreckSky", "isSlot", "(I)Z"⟩ prog_1_method_50_code 1 (Option.some Jvm.ClassFile.FieldType.boolean) (pl_W_isSlot) := by
  unfold pl_W_isSlot
  exact
    okc (ok_iload_n (k := 0) (by decide +kernel) rfl rfl) (
    okc (ok_iconst (n := 0) (by decide +kernel) rfl rfl) (
    okc (ok_iconst (n := 4) (by decide +kernel) rfl rfl) (
    okc (ok_callS (SPf_ok _ _ _ _ _ _) (mi := 94) (n := 3) (idx := 72) rfl m_W_within (by decide) w_351 w_352 (by decide +kernel) rfl) (
    okc (ok_zret rfl (by decide +kernel)) ( okn)))))
def pl_K_becomeAs : List (Nat × mA) := [(0, a_aload 0 1), (1, a_aload 1 2), (2, a_getI 7 6 0 5), (5, a_putI 7 6 0 8), (8, a_aload 0 9), (9, a_aload 1 10), (10, a_getI 7 6 1 13), (13, a_putI 7 6 1 16), (16, a_aload 0 17), (17, a_aload 1 18), (18, a_getI 7 6 2 21), (21, a_putI 7 6 2 24), (24, a_aload 0 25), (25, a_aload 1 26), (26, a_getI 7 6 3 29), (29, a_putI 7 6 3 32), (32, a_aload 0 33), (33, a_aload 1 34), (34, a_getI 7 6 4 37), (37, a_putI 7 6 4 40), (40, a_aload 0 41), (41, a_aload 1 42), (42, a_getI 7 6 5 45), (45, a_putZ 7 6 5 48), (48, a_ret)]
set_option maxRecDepth 20000 in
theorem ol_K_becomeAs : okall B sp D cA (SPf B sp Ls xs adK adV) MT ⟨"WreckSky$Wreck", "becomeAs", "(LWreckSky$Wreck;)V"⟩ prog_9_method_2_code 2 (Option.none : Option Jvm.ClassFile.FieldType) (pl_K_becomeAs) := by
  unfold pl_K_becomeAs
  exact
    okc (ok_aload_n (k := 0) (by decide +kernel) rfl rfl) (
    okc (ok_aload_n (k := 1) (by decide +kernel) rfl rfl) (
    okc (ok_getI (k := 0) (idx := 9) cX7_ok (by decide) (by decide +kernel) w_98 (by decide +kernel) rfl) (
    okc (ok_putI (k := 0) (idx := 9) cX7_ok (by decide) rfl rfl w_98 (by decide +kernel) rfl) (
    okc (ok_aload_n (k := 0) (by decide +kernel) rfl rfl) (
    okc (ok_aload_n (k := 1) (by decide +kernel) rfl rfl) (
    okc (ok_getI (k := 1) (idx := 15) cX7_ok (by decide) (by decide +kernel) w_101 (by decide +kernel) rfl) (
    okc (ok_putI (k := 1) (idx := 15) cX7_ok (by decide) rfl rfl w_101 (by decide +kernel) rfl) (
    okc (ok_aload_n (k := 0) (by decide +kernel) rfl rfl) (
    okc (ok_aload_n (k := 1) (by decide +kernel) rfl rfl) (
    okc (ok_getI (k := 2) (idx := 18) cX7_ok (by decide) (by decide +kernel) w_105 (by decide +kernel) rfl) (
    okc (ok_putI (k := 2) (idx := 18) cX7_ok (by decide) rfl rfl w_105 (by decide +kernel) rfl) (
    okc (ok_aload_n (k := 0) (by decide +kernel) rfl rfl) (
    okc (ok_aload_n (k := 1) (by decide +kernel) rfl rfl) (
    okc (ok_getI (k := 3) (idx := 21) cX7_ok (by decide) (by decide +kernel) w_109 (by decide +kernel) rfl) (
    okc (ok_putI (k := 3) (idx := 21) cX7_ok (by decide) rfl rfl w_109 (by decide +kernel) rfl) (
    okc (ok_aload_n (k := 0) (by decide +kernel) rfl rfl) (
    okc (ok_aload_n (k := 1) (by decide +kernel) rfl rfl) (
    okc (ok_getI (k := 4) (idx := 24) cX7_ok (by decide) (by decide +kernel) w_113 (by decide +kernel) rfl) (
    okc (ok_putI (k := 4) (idx := 24) cX7_ok (by decide) rfl rfl w_113 (by decide +kernel) rfl) (
    okc (ok_aload_n (k := 0) (by decide +kernel) rfl rfl) (
    okc (ok_aload_n (k := 1) (by decide +kernel) rfl rfl) (
    okc (ok_getI (k := 5) (idx := 27) cX7_ok (by decide) (by decide +kernel) w_116 (by decide +kernel) rfl) (
    okc (ok_putZ (k := 5) (idx := 27) cX7_ok (by decide) rfl rfl w_116 (by decide +kernel) rfl) (
    okc (ok_ret rfl (by decide +kernel)) ( okn)))))))))))))))))))))))))
def pl_H_becomeAs : List (Nat × mA) := [(0, a_aload 0 1), (1, a_aload 1 2), (2, a_getI 2 3 1 5), (5, a_putI 2 3 1 8), (8, a_aload 0 9), (9, a_aload 1 10), (10, a_getI 2 3 2 13), (13, a_putI 2 3 2 16), (16, a_aload 1 17), (17, a_getR 2 3 0 20), (20, a_push 0 21), (21, a_aload 0 22), (22, a_getR 2 3 0 25), (25, a_push 0 26), (26, a_push 24 28), (28, a_copy 31), (31, a_ret)]
set_option maxRecDepth 20000 in
theorem ol_H_becomeAs : okall B sp D cA (SPf B sp Ls xs adK adV) MT ⟨"WreckSky$Sheet", "becomeAs", "(LWreckSky$Sheet;)V"⟩ prog_4_method_3_code 2 (Option.none : Option Jvm.ClassFile.FieldType) (pl_H_becomeAs) := by
  unfold pl_H_becomeAs
  exact
    okc (ok_aload_n (k := 0) (by decide +kernel) rfl rfl) (
    okc (ok_aload_n (k := 1) (by decide +kernel) rfl rfl) (
    okc (ok_getI (k := 1) (idx := 15) cX2_ok (by decide) (by decide +kernel) w_275 (by decide +kernel) rfl) (
    okc (ok_putI (k := 1) (idx := 15) cX2_ok (by decide) rfl rfl w_275 (by decide +kernel) rfl) (
    okc (ok_aload_n (k := 0) (by decide +kernel) rfl rfl) (
    okc (ok_aload_n (k := 1) (by decide +kernel) rfl rfl) (
    okc (ok_getI (k := 2) (idx := 19) cX2_ok (by decide) (by decide +kernel) w_277 (by decide +kernel) rfl) (
    okc (ok_putI (k := 2) (idx := 19) cX2_ok (by decide) rfl rfl w_277 (by decide +kernel) rfl) (
    okc (ok_aload_n (k := 1) (by decide +kernel) rfl rfl) (
    okc (ok_getR (k := 0) (idx := 9) cX2_ok (by decide) (by decide +kernel) w_272 (by decide +kernel) rfl) (
    okc (ok_iconst (n := 0) (by decide +kernel) rfl rfl) (
    okc (ok_aload_n (k := 0) (by decide +kernel) rfl rfl) (
    okc (ok_getR (k := 0) (idx := 9) cX2_ok (by decide) (by decide +kernel) w_272 (by decide +kernel) rfl) (
    okc (ok_iconst (n := 0) (by decide +kernel) rfl rfl) (
    okc (ok_bipush (n := 24) (by decide +kernel) (by decide +kernel) rfl) (
    okc (ok_copy (idx := 28) w_939 w_859 w_858 w_74 (by decide +kernel) rfl) (
    okc (ok_ret rfl (by decide +kernel)) ( okn)))))))))))))))))
def pl_M_isSlot : List (Nat × mA) := [(0, a_iload 0 1), (1, a_push 0 2), (2, a_push 4 3), (3, a_call 97 3 6), (6, a_zret)]
set_option maxRecDepth 20000 in
theorem ol_M_isSlot : okall B sp D cA (SPf B sp Ls xs adK adV) MT ⟨"WreckSkyModel", "isSlot", "(I)Z"⟩ prog_11_method_75_code 1 (Option.some Jvm.ClassFile.FieldType.boolean) (pl_M_isSlot) := by
  unfold pl_M_isSlot
  exact
    okc (ok_iload_n (k := 0) (by decide +kernel) rfl rfl) (
    okc (ok_iconst (n := 0) (by decide +kernel) rfl rfl) (
    okc (ok_iconst (n := 4) (by decide +kernel) rfl rfl) (
    okc (ok_callS (SPf_ok _ _ _ _ _ _) (mi := 97) (n := 3) (idx := 84) rfl m_M_in (by decide) w_1106 w_1107 (by decide +kernel) rfl) (
    okc (ok_zret rfl (by decide +kernel)) ( okn)))))
def pl_W_findingUnless : List (Nat × mA) := [(0, a_aload 0 1), (1, a_getR 8 10 6 4), (4, a_iload 1 5), (5, a_aald 7 6), (6, a_getI 4 4 3 9), (9, a_istore 3 10), (10, a_iload 3 11), (11, a_if (fun x => decide (x ≠ 0)) 17 14), (14, a_push (-1000000011) 16), (16, a_iret), (17, a_iload 3 18), (18, a_iload 2 19), (19, a_cmp (fun x y => decide (x ≠ y)) 26 22), (22, a_push 0 23), (23, a_goto 28), (26, a_push (-1000000012) 28), (28, a_iret)]
set_option maxRecDepth 20000 in
theorem ol_W_findingUnless : okall B sp D cA (SPf B sp Ls xs adK adV) MT ⟨"WreckSky", "findingUnless", "(II)I"⟩ prog_1_method_52_code 4 (Option.some Jvm.ClassFile.FieldType.int) (pl_W_findingUnless) := by
  unfold pl_W_findingUnless
  exact
    okc (ok_aload_n (k := 0) (by decide +kernel) rfl rfl) (
    okc (ok_getR (k := 6) (idx := 50) cX8_ok (by decide) (by decide +kernel) w_319 (by decide +kernel) rfl) (
    okc (ok_iload_n (k := 1) (by decide +kernel) rfl rfl) (
    okc (ok_aald (C := "WreckSky$Slot") (by decide) (fun _ => rfl) (by decide +kernel) rfl) (
    okc (ok_getI (k := 3) (idx := 314) cX4_ok (by decide) (by decide +kernel) w_303 (by decide +kernel) rfl) (
    okc (ok_istore_n (k := 3) (by decide +kernel) rfl rfl) (
    okc (ok_iload_n (k := 3) (by decide +kernel) rfl rfl) (
    okc (ok_if_ne (off := 6) (by decide +kernel) rfl rfl) (
    okc (ok_ldc (i := 224) w_637 (by decide +kernel) rfl) (
    okc (ok_iret rfl (by decide +kernel)) (
    okc (ok_iload_n (k := 3) (by decide +kernel) rfl rfl) (
    okc (ok_iload_n (k := 2) (by decide +kernel) rfl rfl) (
    okc (ok_cmp_ne (off := 7) (by decide +kernel) rfl rfl) (
    okc (ok_iconst (n := 0) (by decide +kernel) rfl rfl) (
    okc (ok_goto (off := 5) (by decide +kernel) rfl) (
    okc (ok_ldc (i := 133) w_422 (by decide +kernel) rfl) (
    okc (ok_iret rfl (by decide +kernel)) ( okn)))))))))))))))))
def pl_F_rightOnes : List (Nat × mA) := [(0, a_aload 0 1), (1, a_getR 0 5 0 4), (4, a_aload 1 5), (5, a_callO 3 11 172 1 8), (8, a_push 0 9), (9, a_istore 5 11), (11, a_push 0 12), (12, a_istore 6 14), (14, a_iload 6 16), (16, a_iload 2 17), (17, a_cmp (fun x y => decide (y ≤ x)) 88 20), (20, a_aload 0 21), (21, a_getR 0 5 0 24), (24, a_push 1 25), (25, a_callO 3 11 119 1 28), (28, a_iload 5 30), (30, a_iload 4 32), (32, a_cmp (fun x y => decide (y ≤ x)) 49 35), (35, a_aload 3 36), (36, a_iload 5 38), (38, a_ald 0 39), (39, a_aload 0 40), (40, a_getR 0 5 0 43), (43, a_getI 3 11 6 46), (46, a_cmp (fun x y => decide (x = y)) 52 49), (49, a_iload 5 51), (51, a_iret), (52, a_iinc 5 1 55), (55, a_iload 5 57), (57, a_iload 4 59), (59, a_cmp (fun x y => decide (y ≤ x)) 76 62), (62, a_aload 3 63), (63, a_iload 5 65), (65, a_ald 0 66), (66, a_aload 0 67), (67, a_getR 0 5 0 70), (70, a_callO 3 11 207 0 73), (73, a_cmp (fun x y => decide (x = y)) 79 76), (76, a_iload 5 78), (78, a_iret), (79, a_iinc 5 1 82), (82, a_iinc 6 1 85), (85, a_goto 14), (88, a_iload 5 90), (90, a_iret)]
set_option maxRecDepth 20000 in
theorem ol_F_rightOnes : okall B sp D cA (SPf B sp Ls xs adK adV) MT ⟨"WreckSky$Foresight", "rightOnes", "(LWreckSky$Sky;I[II)I"⟩ prog_2_method_16_code 7 (Option.some Jvm.ClassFile.FieldType.int) (pl_F_rightOnes) := by
  unfold pl_F_rightOnes
  exact
    okc (ok_aload_n (k := 0) (by decide +kernel) rfl rfl) (
    okc (ok_getR (k := 0) (idx := 12) cX0_ok (by decide) (by decide +kernel) w_191 (by decide +kernel) rfl) (
    okc (ok_aload_n (k := 1) (by decide +kernel) rfl rfl) (
    okc (ok_callV (SPf_ok _ _ _ _ _ _) (mi := 172) (n := 1) (idx := 33) rfl m_S_becomeAs (by decide) cX3_ok w_520 w_521 w_522 (by decide +kernel) rfl) (
    okc (ok_iconst (n := 0) (by decide +kernel) rfl rfl) (
    okc (ok_istore (by decide +kernel) rfl) (
    okc (ok_iconst (n := 0) (by decide +kernel) rfl rfl) (
    okc (ok_istore (by decide +kernel) rfl) (
    okc (ok_iload (by decide +kernel) rfl) (
    okc (ok_iload_n (k := 2) (by decide +kernel) rfl rfl) (
    okc (ok_cmp_ge (off := 71) (by decide +kernel) rfl rfl) (
    okc (ok_aload_n (k := 0) (by decide +kernel) rfl rfl) (
    okc (ok_getR (k := 0) (idx := 12) cX0_ok (by decide) (by decide +kernel) w_191 (by decide +kernel) rfl) (
    okc (ok_iconst (n := 1) (by decide +kernel) rfl rfl) (
    okc (ok_callV (SPf_ok _ _ _ _ _ _) (mi := 119) (n := 1) (idx := 37) rfl m_S_passHours (by decide) cX3_ok w_528 w_471 w_472 (by decide +kernel) rfl) (
    okc (ok_iload (by decide +kernel) rfl) (
    okc (ok_iload (by decide +kernel) rfl) (
    okc (ok_cmp_ge (off := 17) (by decide +kernel) rfl rfl) (
    okc (ok_aload_n (k := 3) (by decide +kernel) rfl rfl) (
    okc (ok_iload (by decide +kernel) rfl) (
    okc (ok_iald (by decide +kernel) rfl) (
    okc (ok_aload_n (k := 0) (by decide +kernel) rfl rfl) (
    okc (ok_getR (k := 0) (idx := 12) cX0_ok (by decide) (by decide +kernel) w_191 (by decide +kernel) rfl) (
    okc (ok_getI (k := 6) (idx := 41) cX3_ok (by decide) (by decide +kernel) w_149 (by decide +kernel) rfl) (
    okc (ok_cmp_eq (off := 6) (by decide +kernel) rfl rfl) (
    okc (ok_iload (by decide +kernel) rfl) (
    okc (ok_iret rfl (by decide +kernel)) (
    okc (ok_iinc (n := 1) (by decide +kernel) rfl rfl) (
    okc (ok_iload (by decide +kernel) rfl) (
    okc (ok_iload (by decide +kernel) rfl) (
    okc (ok_cmp_ge (off := 17) (by decide +kernel) rfl rfl) (
    okc (ok_aload_n (k := 3) (by decide +kernel) rfl rfl) (
    okc (ok_iload (by decide +kernel) rfl) (
    okc (ok_iald (by decide +kernel) rfl) (
    okc (ok_aload_n (k := 0) (by decide +kernel) rfl rfl) (
    okc (ok_getR (k := 0) (idx := 12) cX0_ok (by decide) (by decide +kernel) w_191 (by decide +kernel) rfl) (
    okc (ok_callV (SPf_ok _ _ _ _ _ _) (mi := 207) (n := 0) (idx := 118) rfl m_S_upPlaceSum (by decide) cX3_ok w_968 w_969 w_970 (by decide +kernel) rfl) (
    okc (ok_cmp_eq (off := 6) (by decide +kernel) rfl rfl) (
    okc (ok_iload (by decide +kernel) rfl) (
    okc (ok_iret rfl (by decide +kernel)) (
    okc (ok_iinc (n := 1) (by decide +kernel) rfl rfl) (
    okc (ok_iinc (n := 1) (by decide +kernel) rfl rfl) (
    okc (ok_goto (off := -71) (by decide +kernel) rfl) (
    okc (ok_iload (by decide +kernel) rfl) (
    okc (ok_iret rfl (by decide +kernel)) ( okn)))))))))))))))))))))))))))))))))))))))))))))
def pl_M_copyAll : List (Nat × mA) := [(0, a_push 0 1), (1, a_istore 2 2), (2, a_iload 2 3), (3, a_push 1464 6), (6, a_cmp (fun x y => decide (y ≤ x)) 21 9), (9, a_aload 1 10), (10, a_iload 2 11), (11, a_aload 0 12), (12, a_iload 2 13), (13, a_ald 0 14), (14, a_ast 0 (fun x => x) 15), (15, a_iinc 2 1 18), (18, a_goto 2), (21, a_ret)]
set_option maxRecDepth 20000 in
theorem ol_M_copyAll : okall B sp D cA (SPf B sp Ls xs adK adV) MT ⟨"WreckSkyModel", "copyAll", "([I[I)V"⟩ prog_11_method_5_code 3 (Option.none : Option Jvm.ClassFile.FieldType) (pl_M_copyAll) := by
  unfold pl_M_copyAll
  exact
    okc (ok_iconst (n := 0) (by decide +kernel) rfl rfl) (
    okc (ok_istore_n (k := 2) (by decide +kernel) rfl rfl) (
    okc (ok_iload_n (k := 2) (by decide +kernel) rfl rfl) (
    okc (ok_sipush (n := 1464) (by decide +kernel) (by decide +kernel) rfl) (
    okc (ok_cmp_ge (off := 15) (by decide +kernel) rfl rfl) (
    okc (ok_aload_n (k := 1) (by decide +kernel) rfl rfl) (
    okc (ok_iload_n (k := 2) (by decide +kernel) rfl rfl) (
    okc (ok_aload_n (k := 0) (by decide +kernel) rfl rfl) (
    okc (ok_iload_n (k := 2) (by decide +kernel) rfl rfl) (
    okc (ok_iald (by decide +kernel) rfl) (
    okc (ok_iast (by decide +kernel) rfl) (
    okc (ok_iinc (n := 1) (by decide +kernel) rfl rfl) (
    okc (ok_goto (off := -16) (by decide +kernel) rfl) (
    okc (ok_ret rfl (by decide +kernel)) ( okn))))))))))))))
def pl_S_becomeAs_1 : List (Nat × mA) := [(0, a_push 0 1), (1, a_istore 2 2), (2, a_iload 2 3), (3, a_aload 1 4), (4, a_getI 3 11 3 7), (7, a_cmp (fun x y => decide (y ≤ x)) 31 10), (10, a_aload 0 11), (11, a_getR 3 11 0 14), (14, a_iload 2 15), (15, a_aald 4 16), (16, a_aload 1 17), (17, a_getR 3 11 0 20), (20, a_iload 2 21), (21, a_aald 4 22), (22, a_callO 7 6 166 1 25), (25, a_iinc 2 1 28), (28, a_goto 2), (31, a_push 0 32), (32, a_istore 2 33), (33, a_iload 2 34), (34, a_aload 1 35), (35, a_getI 3 11 4 38), (38, a_cmp (fun x y => decide (y ≤ x)) 59 41), (41, a_aload 0 42), (42, a_getR 3 11 1 45), (45, a_iload 2 46), (46, a_aload 1 47), (47, a_getR 3 11 1 50), (50, a_iload 2 51), (51, a_aald 5 52), (52, a_aast 5 6 3 53), (53, a_iinc 2 1 56), (56, a_goto 33), (59, a_aload 0 60), (60, a_aload 1 61), (61, a_getI 3 11 3 64), (64, a_putI 3 11 3 67), (67, a_aload 0 68), (68, a_aload 1 69), (69, a_getI 3 11 4 72), (72, a_putI 3 11 4 75), (75, a_aload 0 76), (76, a_aload 1 77), (77, a_getI 3 11 5 80), (80, a_putI 3 11 5 83), (83, a_aload 0 84), (84, a_aload 1 85), (85, a_getI 3 11 6 88), (88, a_putI 3 11 6 91), (91, a_aload 0 92), (92, a_aload 1 93), (93, a_getI 3 11 7 96), (96, a_putI 3 11 7 99), (99, a_aload 0 100), (100, a_aload 1 101), (101, a_getI 3 11 8 104), (104, a_putI 3 11 8 107), (107, a_aload 0 108), (108, a_aload 1 109), (109, a_getI 3 11 9 112)]
set_option maxRecDepth 20000 in
theorem ol_S_becomeAs_1 : okall B sp D cA (SPf B sp Ls xs adK adV) MT ⟨"WreckSky$Sky", "becomeAs", "(LWreckSky$Sky;)V"⟩ prog_5_method_2_code 3 (Option.none : Option Jvm.ClassFile.FieldType) (pl_S_becomeAs_1) := by
  unfold pl_S_becomeAs_1
  exact
    okc (ok_iconst (n := 0) (by decide +kernel) rfl rfl) (
    okc (ok_istore_n (k := 2) (by decide +kernel) rfl rfl) (
    okc (ok_iload_n (k := 2) (by decide +kernel) rfl rfl) (
    okc (ok_aload_n (k := 1) (by decide +kernel) rfl rfl) (
    okc (ok_getI (k := 3) (idx := 27) cX3_ok (by decide) (by decide +kernel) w_141 (by decide +kernel) rfl) (
    okc (ok_cmp_ge (off := 24) (by decide +kernel) rfl rfl) (
    okc (ok_aload_n (k := 0) (by decide +kernel) rfl rfl) (
    okc (ok_getR (k := 0) (idx := 11) cX3_ok (by decide) (by decide +kernel) w_134 (by decide +kernel) rfl) (
    okc (ok_iload_n (k := 2) (by decide +kernel) rfl rfl) (
    okc (ok_aald (C := "WreckSky$Wreck") (by decide) (fun _ => rfl) (by decide +kernel) rfl) (
    okc (ok_aload_n (k := 1) (by decide +kernel) rfl rfl) (
    okc (ok_getR (k := 0) (idx := 11) cX3_ok (by decide) (by decide +kernel) w_134 (by decide +kernel) rfl) (
    okc (ok_iload_n (k := 2) (by decide +kernel) rfl rfl) (
    okc (ok_aald (C := "WreckSky$Wreck") (by decide) (fun _ => rfl) (by decide +kernel) rfl) (
    okc (ok_callV (SPf_ok _ _ _ _ _ _) (mi := 166) (n := 1) (idx := 53) rfl m_K_becomeAs (by decide) cX7_ok w_524 w_525 w_526 (by decide +kernel) rfl) (
    okc (ok_iinc (n := 1) (by decide +kernel) rfl rfl) (
    okc (ok_goto (off := -26) (by decide +kernel) rfl) (
    okc (ok_iconst (n := 0) (by decide +kernel) rfl rfl) (
    okc (ok_istore_n (k := 2) (by decide +kernel) rfl rfl) (
    okc (ok_iload_n (k := 2) (by decide +kernel) rfl rfl) (
    okc (ok_aload_n (k := 1) (by decide +kernel) rfl rfl) (
    okc (ok_getI (k := 4) (idx := 31) cX3_ok (by decide) (by decide +kernel) w_144 (by decide +kernel) rfl) (
    okc (ok_cmp_ge (off := 21) (by decide +kernel) rfl rfl) (
    okc (ok_aload_n (k := 0) (by decide +kernel) rfl rfl) (
    okc (ok_getR (k := 1) (idx := 19) cX3_ok (by decide) (by decide +kernel) w_137 (by decide +kernel) rfl) (
    okc (ok_iload_n (k := 2) (by decide +kernel) rfl rfl) (
    okc (ok_aload_n (k := 1) (by decide +kernel) rfl rfl) (
    okc (ok_getR (k := 1) (idx := 19) cX3_ok (by decide) (by decide +kernel) w_137 (by decide +kernel) rfl) (
    okc (ok_iload_n (k := 2) (by decide +kernel) rfl rfl) (
    okc (ok_aald (C := "WreckSky$Text") (by decide) (fun _ => rfl) (by decide +kernel) rfl) (
    okc (ok_aast (by decide) (fun _ => rfl) cX6_ok (by decide +kernel) rfl) (
    okc (ok_iinc (n := 1) (by decide +kernel) rfl rfl) (
    okc (ok_goto (off := -23) (by decide +kernel) rfl) (
    okc (ok_aload_n (k := 0) (by decide +kernel) rfl rfl) (
    okc (ok_aload_n (k := 1) (by decide +kernel) rfl rfl) (
    okc (ok_getI (k := 3) (idx := 27) cX3_ok (by decide) (by decide +kernel) w_141 (by decide +kernel) rfl) (
    okc (ok_putI (k := 3) (idx := 27) cX3_ok (by decide) rfl rfl w_141 (by decide +kernel) rfl) (
    okc (ok_aload_n (k := 0) (by decide +kernel) rfl rfl) (
    okc (ok_aload_n (k := 1) (by decide +kernel) rfl rfl) (
    okc (ok_getI (k := 4) (idx := 31) cX3_ok (by decide) (by decide +kernel) w_144 (by decide +kernel) rfl) (
    okc (ok_putI (k := 4) (idx := 31) cX3_ok (by decide) rfl rfl w_144 (by decide +kernel) rfl) (
    okc (ok_aload_n (k := 0) (by decide +kernel) rfl rfl) (
    okc (ok_aload_n (k := 1) (by decide +kernel) rfl rfl) (
    okc (ok_getI (k := 5) (idx := 34) cX3_ok (by decide) (by decide +kernel) w_146 (by decide +kernel) rfl) (
    okc (ok_putI (k := 5) (idx := 34) cX3_ok (by decide) rfl rfl w_146 (by decide +kernel) rfl) (
    okc (ok_aload_n (k := 0) (by decide +kernel) rfl rfl) (
    okc (ok_aload_n (k := 1) (by decide +kernel) rfl rfl) (
    okc (ok_getI (k := 6) (idx := 37) cX3_ok (by decide) (by decide +kernel) w_148 (by decide +kernel) rfl) (
    okc (ok_putI (k := 6) (idx := 37) cX3_ok (by decide) rfl rfl w_148 (by decide +kernel) rfl) (
    okc (ok_aload_n (k := 0) (by decide +kernel) rfl rfl) (
    okc (ok_aload_n (k := 1) (by decide +kernel) rfl rfl) (
    okc (ok_getI (k := 7) (idx := 40) cX3_ok (by decide) (by decide +kernel) w_151 (by decide +kernel) rfl) (
    okc (ok_putI (k := 7) (idx := 40) cX3_ok (by decide) rfl rfl w_151 (by decide +kernel) rfl) (
    okc (ok_aload_n (k := 0) (by decide +kernel) rfl rfl) (
    okc (ok_aload_n (k := 1) (by decide +kernel) rfl rfl) (
    okc (ok_getI (k := 8) (idx := 43) cX3_ok (by decide) (by decide +kernel) w_153 (by decide +kernel) rfl) (
    okc (ok_putI (k := 8) (idx := 43) cX3_ok (by decide) rfl rfl w_153 (by decide +kernel) rfl) (
    okc (ok_aload_n (k := 0) (by decide +kernel) rfl rfl) (
    okc (ok_aload_n (k := 1) (by decide +kernel) rfl rfl) (
    okc (ok_getI (k := 9) (idx := 46) cX3_ok (by decide) (by decide +kernel) w_155 (by decide +kernel) rfl) ( okn))))))))))))))))))))))))))))))))))))))))))))))))))))))))))))
def pl_S_becomeAs_2 : List (Nat × mA) := [(112, a_putI 3 11 9 115), (115, a_aload 0 116), (116, a_aload 1 117), (117, a_getI 3 11 10 120), (120, a_putI 3 11 10 123), (123, a_ret)]
set_option maxRecDepth 20000 in
theorem ol_S_becomeAs_2 : okall B sp D cA (SPf B sp Ls xs adK adV) MT ⟨"WreckSky$Sky", "becomeAs", "(LWreckSky$Sky;)V"⟩ prog_5_method_2_code 3 (Option.none : Option Jvm.ClassFile.FieldType) (pl_S_becomeAs_2) := by
  unfold pl_S_becomeAs_2
  exact
    okc (ok_putI (k := 9) (idx := 46) cX3_ok (by decide) rfl rfl w_155 (by decide +kernel) rfl) (
    okc (ok_aload_n (k := 0) (by decide +kernel) rfl rfl) (
    okc (ok_aload_n (k := 1) (by decide +kernel) rfl rfl) (
    okc (ok_getI (k := 10) (idx := 49) cX3_ok (by decide) (by decide +kernel) w_157 (by decide +kernel) rfl) (
    okc (ok_putI (k := 10) (idx := 49) cX3_ok (by decide) rfl rfl w_157 (by decide +kernel) rfl) (
    okc (ok_ret rfl (by decide +kernel)) ( okn))))))
def pl_S_becomeAs : List (Nat × mA) := pl_S_becomeAs_1 ++ (pl_S_becomeAs_2)
theorem ol_S_becomeAs : okall B sp D cA (SPf B sp Ls xs adK adV) MT ⟨"WreckSky$Sky", "becomeAs", "(LWreckSky$Sky;)V"⟩ prog_5_method_2_code 3 (Option.none : Option Jvm.ClassFile.FieldType) (pl_S_becomeAs) := oka ol_S_becomeAs_1 (ol_S_becomeAs_2)
def pl_K_init : List (Nat × mA) := [(0, a_aload 0 1), (1, a_obj 4), (4, a_ret)]
set_option maxRecDepth 20000 in
theorem ol_K_init : okall B sp D cA (SPf B sp Ls xs adK adV) MT ⟨"WreckSky$Wreck", "<init>", "()V"⟩ prog_9_method_1_code 1 (Option.none : Option Jvm.ClassFile.FieldType) (pl_K_init) := by
  unfold pl_K_init
  exact
    okc (ok_aload_n (k := 0) (by decide +kernel) rfl rfl) (
    okc (ok_obj (idx := 3) w_97 w_81 w_obj (by decide +kernel) rfl) (
    okc (ok_ret rfl (by decide +kernel)) ( okn)))
def pl_K_hardFrom : List (Nat × mA) := [(0, a_aload 0 1), (1, a_getI 7 6 0 4), (4, a_sw (t_sw 1 [40, 52, 45, 61, 63] 67)), (40, a_iload 1 41), (41, a_push 10 43), (43, a_bin (fun x y => x + y) 44), (44, a_iret), (45, a_iload 1 46), (46, a_push 10 48), (48, a_bin (fun x y => x + y) 49), (49, a_push 2 50), (50, a_div (fun x y => x / y) 51), (51, a_iret), (52, a_push 0 53), (53, a_iload 1 54), (54, a_push 9 56), (56, a_bin (fun x y => x - y) 57), (57, a_call 206 2 60), (60, a_iret), (61, a_push 0 62), (62, a_iret), (63, a_push 2 64), (64, a_iload 1 65), (65, a_bin (fun x y => x * y) 66), (66, a_iret), (67, a_iload 1 68), (68, a_iret)]
set_option maxRecDepth 20000 in
theorem ol_K_hardFrom : okall B sp D cA (SPf B sp Ls xs adK adV) MT ⟨"WreckSky$Wreck", "hardFrom", "(I)I"⟩ prog_9_method_4_code 2 (Option.some Jvm.ClassFile.FieldType.int) (pl_K_hardFrom) := by
  unfold pl_K_hardFrom
  exact
    okc (ok_aload_n (k := 0) (by decide +kernel) rfl rfl) (
    okc (ok_getI (k := 0) (idx := 9) cX7_ok (by decide) (by decide +kernel) w_98 (by decide +kernel) rfl) (
    okc (ok_tab (dflt := 63) (lo := 1) (hi := 5) (offs := #[36, 48, 41, 57, 59]) (len := 36) (by decide +kernel) rfl rfl rfl) (
    okc (ok_iload_n (k := 1) (by decide +kernel) rfl rfl) (
    okc (ok_bipush (n := 10) (by decide +kernel) (by decide +kernel) rfl) (
    okc (ok_iadd (by decide +kernel) rfl) (
    okc (ok_iret rfl (by decide +kernel)) (
    okc (ok_iload_n (k := 1) (by decide +kernel) rfl rfl) (
    okc (ok_bipush (n := 10) (by decide +kernel) (by decide +kernel) rfl) (
    okc (ok_iadd (by decide +kernel) rfl) (
    okc (ok_iconst (n := 2) (by decide +kernel) rfl rfl) (
    okc (ok_idiv (by decide +kernel) rfl) (
    okc (ok_iret rfl (by decide +kernel)) (
    okc (ok_iconst (n := 0) (by decide +kernel) rfl rfl) (
    okc (ok_iload_n (k := 1) (by decide +kernel) rfl rfl) (
    okc (ok_bipush (n := 9) (by decide +kernel) (by decide +kernel) rfl) (
    okc (ok_isub (by decide +kernel) rfl) (
    okc (ok_callS (SPf_ok _ _ _ _ _ _) (mi := 206) (n := 2) (idx := 35) rfl m_JMath_max (by decide) w_403 w_397 (by decide +kernel) rfl) (
    okc (ok_iret rfl (by decide +kernel)) (
    okc (ok_iconst (n := 0) (by decide +kernel) rfl rfl) (
    okc (ok_iret rfl (by decide +kernel)) (
    okc (ok_iconst (n := 2) (by decide +kernel) rfl rfl) (
    okc (ok_iload_n (k := 1) (by decide +kernel) rfl rfl) (
    okc (ok_imul (by decide +kernel) rfl) (
    okc (ok_iret rfl (by decide +kernel)) (
    okc (ok_iload_n (k := 1) (by decide +kernel) rfl rfl) (
    okc (ok_iret rfl (by decide +kernel)) ( okn)))))))))))))))))))))))))))
def pl_S_draw : List (Nat × mA) := [(0, a_aload 0 1), (1, a_aload 0 2), (2, a_getI 3 11 10 5), (5, a_push 1103515245 7), (7, a_bin (fun x y => x * y) 8), (8, a_push 12345 11), (11, a_bin (fun x y => x + y) 12), (12, a_putI 3 11 10 15), (15, a_aload 0 16), (16, a_getI 3 11 10 19), (19, a_push 8 21), (21, a_bin (fun x y => (x.toUInt32 >>> (y.toUInt32 &&& Int32.toUInt32 31)).toInt32) 22), (22, a_iret)]
set_option maxRecDepth 20000 in
theorem ol_S_draw : okall B sp D cA (SPf B sp Ls xs adK adV) MT ⟨"WreckSky$Sky", "draw", "()I"⟩ prog_5_method_8_code 1 (Option.some Jvm.ClassFile.FieldType.int) (pl_S_draw) := by
  unfold pl_S_draw
  exact
    okc (ok_aload_n (k := 0) (by decide +kernel) rfl rfl) (
    okc (ok_aload_n (k := 0) (by decide +kernel) rfl rfl) (
    okc (ok_getI (k := 10) (idx := 49) cX3_ok (by decide) (by decide +kernel) w_157 (by decide +kernel) rfl) (
    okc (ok_ldc (i := 98) w_460 (by decide +kernel) rfl) (
    okc (ok_imul (by decide +kernel) rfl) (
    okc (ok_sipush (n := 12345) (by decide +kernel) (by decide +kernel) rfl) (
    okc (ok_iadd (by decide +kernel) rfl) (
    okc (ok_putI (k := 10) (idx := 49) cX3_ok (by decide) rfl rfl w_157 (by decide +kernel) rfl) (
    okc (ok_aload_n (k := 0) (by decide +kernel) rfl rfl) (
    okc (ok_getI (k := 10) (idx := 49) cX3_ok (by decide) (by decide +kernel) w_157 (by decide +kernel) rfl) (
    okc (ok_bipush (n := 8) (by decide +kernel) (by decide +kernel) rfl) (
    okc (ok_iushr (by decide +kernel) rfl) (
    okc (ok_iret rfl (by decide +kernel)) ( okn)))))))))))))
def pl_S_goAll : List (Nat × mA) := [(0, a_push 0 1), (1, a_istore 1 2), (2, a_iload 1 3), (3, a_aload 0 4), (4, a_getI 3 11 3 7), (7, a_cmp (fun x y => decide (y ≤ x)) 52 10), (10, a_aload 0 11), (11, a_getR 3 11 0 14), (14, a_iload 1 15), (15, a_aald 4 16), (16, a_astore 2 17), (17, a_aload 2 18), (18, a_getI 7 6 5 21), (21, a_if (fun x => decide (x = 0)) 46 24), (24, a_aload 2 25), (25, a_aload 2 26), (26, a_getI 7 6 2 29), (29, a_aload 2 30), (30, a_aload 0 31), (31, a_getI 3 11 9 34), (34, a_callO 7 6 102 1 37), (37, a_bin (fun x y => x + y) 38), (38, a_push 30 40), (40, a_call 188 2 43), (43, a_putI 7 6 2 46), (46, a_iinc 1 1 49), (49, a_goto 2), (52, a_ret)]
set_option maxRecDepth 20000 in
theorem ol_S_goAll : okall B sp D cA (SPf B sp Ls xs adK adV) MT ⟨"WreckSky$Sky", "goAll", "()V"⟩ prog_5_method_11_code 3 (Option.none : Option Jvm.ClassFile.FieldType) (pl_S_goAll) := by
  unfold pl_S_goAll
  exact
    okc (ok_iconst (n := 0) (by decide +kernel) rfl rfl) (
    okc (ok_istore_n (k := 1) (by decide +kernel) rfl rfl) (
    okc (ok_iload_n (k := 1) (by decide +kernel) rfl rfl) (
    okc (ok_aload_n (k := 0) (by decide +kernel) rfl rfl) (
    okc (ok_getI (k := 3) (idx := 27) cX3_ok (by decide) (by decide +kernel) w_141 (by decide +kernel) rfl) (
    okc (ok_cmp_ge (off := 45) (by decide +kernel) rfl rfl) (
    okc (ok_aload_n (k := 0) (by decide +kernel) rfl rfl) (
    okc (ok_getR (k := 0) (idx := 11) cX3_ok (by decide) (by decide +kernel) w_134 (by decide +kernel) rfl) (
    okc (ok_iload_n (k := 1) (by decide +kernel) rfl rfl) (
    okc (ok_aald (C := "WreckSky$Wreck") (by decide) (fun _ => rfl) (by decide +kernel) rfl) (
    okc (ok_astore_n (k := 2) (by decide +kernel) rfl rfl) (
    okc (ok_aload_n (k := 2) (by decide +kernel) rfl rfl) (
    okc (ok_getI (k := 5) (idx := 76) cX7_ok (by decide) (by decide +kernel) w_118 (by decide +kernel) rfl) (
    okc (ok_if_eq (off := 25) (by decide +kernel) rfl rfl) (
    okc (ok_aload_n (k := 2) (by decide +kernel) rfl rfl) (
    okc (ok_aload_n (k := 2) (by decide +kernel) rfl rfl) (
    okc (ok_getI (k := 2) (idx := 67) cX7_ok (by decide) (by decide +kernel) w_107 (by decide +kernel) rfl) (
    okc (ok_aload_n (k := 2) (by decide +kernel) rfl rfl) (
    okc (ok_aload_n (k := 0) (by decide +kernel) rfl rfl) (
    okc (ok_getI (k := 9) (idx := 46) cX3_ok (by decide) (by decide +kernel) w_155 (by decide +kernel) rfl) (
    okc (ok_callV (SPf_ok _ _ _ _ _ _) (mi := 102) (n := 1) (idx := 116) rfl m_K_goesAt (by decide) cX7_ok w_478 w_405 w_406 (by decide +kernel) rfl) (
    okc (ok_iadd (by decide +kernel) rfl) (
    okc (ok_bipush (n := 30) (by decide +kernel) (by decide +kernel) rfl) (
    okc (ok_callS (SPf_ok _ _ _ _ _ _) (mi := 188) (n := 2) (idx := 119) rfl m_JMath_floorMod (by decide) w_479 w_480 (by decide +kernel) rfl) (
    okc (ok_putI (k := 2) (idx := 67) cX7_ok (by decide) rfl rfl w_107 (by decide +kernel) rfl) (
    okc (ok_iinc (n := 1) (by decide +kernel) rfl rfl) (
    okc (ok_goto (off := -47) (by decide +kernel) rfl) (
    okc (ok_ret rfl (by decide +kernel)) ( okn))))))))))))))))))))))))))))
def pl_S_meetAll : List (Nat × mA) := [(0, a_aload 0 1), (1, a_getI 3 11 3 4), (4, a_istore 1 5), (5, a_push 0 6), (6, a_istore 2 7), (7, a_iload 2 8), (8, a_iload 1 9), (9, a_cmp (fun x y => decide (y ≤ x)) 114 12), (12, a_aload 0 13), (13, a_getR 3 11 0 16), (16, a_iload 2 17), (17, a_aald 4 18), (18, a_astore 3 19), (19, a_iload 2 20), (20, a_push 1 21), (21, a_bin (fun x y => x + y) 22), (22, a_istore 4 24), (24, a_iload 4 26), (26, a_iload 1 27), (27, a_cmp (fun x y => decide (y ≤ x)) 108 30), (30, a_aload 3 31), (31, a_getI 7 6 5 34), (34, a_if (fun x => decide (x = 0)) 108 37), (37, a_aload 0 38), (38, a_getR 3 11 0 41), (41, a_iload 4 43), (43, a_aald 4 44), (44, a_astore 5 46), (46, a_aload 3 47), (47, a_getI 7 6 2 50), (50, a_aload 5 52), (52, a_getI 7 6 2 55), (55, a_cmp (fun x y => decide (x ≠ y)) 102 58), (58, a_aload 3 59), (59, a_getI 7 6 1 62), (62, a_aload 5 64), (64, a_getI 7 6 1 67), (67, a_cmp (fun x y => decide (x ≠ y)) 102 70), (70, a_aload 5 72), (72, a_getI 7 6 5 75), (75, a_if (fun x => decide (x = 0)) 102 78), (78, a_aload 0 79), (79, a_aload 0 80), (80, a_aload 3 81), (81, a_callO 3 11 101 1 84), (84, a_aload 0 85), (85, a_aload 5 87), (87, a_callO 3 11 101 1 90), (90, a_cmp (fun x y => decide (y ≤ x)) 97 93), (93, a_aload 3 94), (94, a_goto 99), (97, a_aload 5 99), (99, a_callO 3 11 208 1 102), (102, a_iinc 4 1 105), (105, a_goto 24), (108, a_iinc 2 1 111), (111, a_goto 7), (114, a_ret)]
set_option maxRecDepth 20000 in
theorem ol_S_meetAll : okall B sp D cA (SPf B sp Ls xs adK adV) MT ⟨"WreckSky$Sky", "meetAll", "()V"⟩ prog_5_method_12_code 6 (Option.none : Option Jvm.ClassFile.FieldType) (pl_S_meetAll) := by
  unfold pl_S_meetAll
  exact
    okc (ok_aload_n (k := 0) (by decide +kernel) rfl rfl) (
    okc (ok_getI (k := 3) (idx := 27) cX3_ok (by decide) (by decide +kernel) w_141 (by decide +kernel) rfl) (
    okc (ok_istore_n (k := 1) (by decide +kernel) rfl rfl) (
    okc (ok_iconst (n := 0) (by decide +kernel) rfl rfl) (
    okc (ok_istore_n (k := 2) (by decide +kernel) rfl rfl) (
    okc (ok_iload_n (k := 2) (by decide +kernel) rfl rfl) (
    okc (ok_iload_n (k := 1) (by decide +kernel) rfl rfl) (
    okc (ok_cmp_ge (off := 105) (by decide +kernel) rfl rfl) (
    okc (ok_aload_n (k := 0) (by decide +kernel) rfl rfl) (
    okc (ok_getR (k := 0) (idx := 11) cX3_ok (by decide) (by decide +kernel) w_134 (by decide +kernel) rfl) (
    okc (ok_iload_n (k := 2) (by decide +kernel) rfl rfl) (
    okc (ok_aald (C := "WreckSky$Wreck") (by decide) (fun _ => rfl) (by decide +kernel) rfl) (
    okc (ok_astore_n (k := 3) (by decide +kernel) rfl rfl) (
    okc (ok_iload_n (k := 2) (by decide +kernel) rfl rfl) (
    okc (ok_iconst (n := 1) (by decide +kernel) rfl rfl) (
    okc (ok_iadd (by decide +kernel) rfl) (
    okc (ok_istore (by decide +kernel) rfl) (
    okc (ok_iload (by decide +kernel) rfl) (
    okc (ok_iload_n (k := 1) (by decide +kernel) rfl rfl) (
    okc (ok_cmp_ge (off := 81) (by decide +kernel) rfl rfl) (
    okc (ok_aload_n (k := 3) (by decide +kernel) rfl rfl) (
    okc (ok_getI (k := 5) (idx := 76) cX7_ok (by decide) (by decide +kernel) w_118 (by decide +kernel) rfl) (
    okc (ok_if_eq (off := 74) (by decide +kernel) rfl rfl) (
    okc (ok_aload_n (k := 0) (by decide +kernel) rfl rfl) (
    okc (ok_getR (k := 0) (idx := 11) cX3_ok (by decide) (by decide +kernel) w_134 (by decide +kernel) rfl) (
    okc (ok_iload (by decide +kernel) rfl) (
    okc (ok_aald (C := "WreckSky$Wreck") (by decide) (fun _ => rfl) (by decide +kernel) rfl) (
    okc (ok_astore (by decide +kernel) rfl) (
    okc (ok_aload_n (k := 3) (by decide +kernel) rfl rfl) (
    okc (ok_getI (k := 2) (idx := 67) cX7_ok (by decide) (by decide +kernel) w_107 (by decide +kernel) rfl) (
    okc (ok_aload (by decide +kernel) rfl) (
    okc (ok_getI (k := 2) (idx := 67) cX7_ok (by decide) (by decide +kernel) w_107 (by decide +kernel) rfl) (
    okc (ok_cmp_ne (off := 47) (by decide +kernel) rfl rfl) (
    okc (ok_aload_n (k := 3) (by decide +kernel) rfl rfl) (
    okc (ok_getI (k := 1) (idx := 64) cX7_ok (by decide) (by decide +kernel) w_103 (by decide +kernel) rfl) (
    okc (ok_aload (by decide +kernel) rfl) (
    okc (ok_getI (k := 1) (idx := 64) cX7_ok (by decide) (by decide +kernel) w_103 (by decide +kernel) rfl) (
    okc (ok_cmp_ne (off := 35) (by decide +kernel) rfl rfl) (
    okc (ok_aload (by decide +kernel) rfl) (
    okc (ok_getI (k := 5) (idx := 76) cX7_ok (by decide) (by decide +kernel) w_118 (by decide +kernel) rfl) (
    okc (ok_if_eq (off := 27) (by decide +kernel) rfl rfl) (
    okc (ok_aload_n (k := 0) (by decide +kernel) rfl rfl) (
    okc (ok_aload_n (k := 0) (by decide +kernel) rfl rfl) (
    okc (ok_aload_n (k := 3) (by decide +kernel) rfl rfl) (
    okc (ok_callV (SPf_ok _ _ _ _ _ _) (mi := 101) (n := 1) (idx := 125) rfl m_S_hardOf (by decide) cX3_ok w_486 w_373 w_374 (by decide +kernel) rfl) (
    okc (ok_aload_n (k := 0) (by decide +kernel) rfl rfl) (
    okc (ok_aload (by decide +kernel) rfl) (
    okc (ok_callV (SPf_ok _ _ _ _ _ _) (mi := 101) (n := 1) (idx := 125) rfl m_S_hardOf (by decide) cX3_ok w_486 w_373 w_374 (by decide +kernel) rfl) (
    okc (ok_cmp_ge (off := 7) (by decide +kernel) rfl rfl) (
    okc (ok_aload_n (k := 3) (by decide +kernel) rfl rfl) (
    okc (ok_goto (off := 5) (by decide +kernel) rfl) (
    okc (ok_aload (by decide +kernel) rfl) (
    okc (ok_callV (SPf_ok _ _ _ _ _ _) (mi := 208) (n := 1) (idx := 129) rfl m_S_breakUp (by decide) cX3_ok w_487 w_489 w_2 (by decide +kernel) rfl) (
    okc (ok_iinc (n := 1) (by decide +kernel) rfl rfl) (
    okc (ok_goto (off := -81) (by decide +kernel) rfl) (
    okc (ok_iinc (n := 1) (by decide +kernel) rfl rfl) (
    okc (ok_goto (off := -104) (by decide +kernel) rfl) (
    okc (ok_ret rfl (by decide +kernel)) ( okn))))))))))))))))))))))))))))))))))))))))))))))))))))))))))
def pl_S_sinkByLot : List (Nat × mA) := [(0, a_aload 0 1), (1, a_callO 3 11 175 0 4), (4, a_push 100 6), (6, a_div (fun x y => x - x / y * y) 7), (7, a_aload 0 8), (8, a_getI 3 11 5 11), (11, a_cmp (fun x y => decide (y ≤ x)) 21 14), (14, a_aload 0 15), (15, a_getI 3 11 3 18), (18, a_if (fun x => decide (x ≠ 0)) 22 21), (21, a_ret), (22, a_aload 0 23), (23, a_getR 3 11 0 26), (26, a_aload 0 27), (27, a_callO 3 11 175 0 30), (30, a_aload 0 31), (31, a_getI 3 11 3 34), (34, a_div (fun x y => x - x / y * y) 35), (35, a_aald 4 36), (36, a_astore 1 37), (37, a_aload 1 38), (38, a_getI 7 6 5 41), (41, a_if (fun x => decide (x ≠ 0)) 45 44), (44, a_ret), (45, a_aload 1 46), (46, a_getI 7 6 1 49), (49, a_if (fun x => decide (x ≤ 0)) 65 52), (52, a_aload 1 53), (53, a_dup 54), (54, a_getI 7 6 1 57), (57, a_push 1 58), (58, a_bin (fun x y => x - y) 59), (59, a_putI 7 6 1 62), (62, a_goto 80), (65, a_aload 1 66), (66, a_push 0 67), (67, a_putZ 7 6 5 70), (70, a_aload 0 71), (71, a_dup 72), (72, a_getI 3 11 7 75), (75, a_push 1 76), (76, a_bin (fun x y => x + y) 77), (77, a_putI 3 11 7 80), (80, a_ret)]
set_option maxRecDepth 20000 in
theorem ol_S_sinkByLot : okall B sp D cA (SPf B sp Ls xs adK adV) MT ⟨"WreckSky$Sky", "sinkByLot", "()V"⟩ prog_5_method_14_code 2 (Option.none : Option Jvm.ClassFile.FieldType) (pl_S_sinkByLot) := by
  unfold pl_S_sinkByLot
  exact
    okc (ok_aload_n (k := 0) (by decide +kernel) rfl rfl) (
    okc (ok_callV (SPf_ok _ _ _ _ _ _) (mi := 175) (n := 0) (idx := 99) rfl m_S_draw (by decide) cX3_ok w_456 w_457 w_458 (by decide +kernel) rfl) (
    okc (ok_bipush (n := 100) (by decide +kernel) (by decide +kernel) rfl) (
    okc (ok_irem (by decide +kernel) rfl) (
    okc (ok_aload_n (k := 0) (by decide +kernel) rfl rfl) (
    okc (ok_getI (k := 5) (idx := 34) cX3_ok (by decide) (by decide +kernel) w_146 (by decide +kernel) rfl) (
    okc (ok_cmp_ge (off := 10) (by decide +kernel) rfl rfl) (
    okc (ok_aload_n (k := 0) (by decide +kernel) rfl rfl) (
    okc (ok_getI (k := 3) (idx := 27) cX3_ok (by decide) (by decide +kernel) w_141 (by decide +kernel) rfl) (
    okc (ok_if_ne (off := 4) (by decide +kernel) rfl rfl) (
    okc (ok_ret rfl (by decide +kernel)) (
    okc (ok_aload_n (k := 0) (by decide +kernel) rfl rfl) (
    okc (ok_getR (k := 0) (idx := 11) cX3_ok (by decide) (by decide +kernel) w_134 (by decide +kernel) rfl) (
    okc (ok_aload_n (k := 0) (by decide +kernel) rfl rfl) (
    okc (ok_callV (SPf_ok _ _ _ _ _ _) (mi := 175) (n := 0) (idx := 99) rfl m_S_draw (by decide) cX3_ok w_456 w_457 w_458 (by decide +kernel) rfl) (
    okc (ok_aload_n (k := 0) (by decide +kernel) rfl rfl) (
    okc (ok_getI (k := 3) (idx := 27) cX3_ok (by decide) (by decide +kernel) w_141 (by decide +kernel) rfl) (
    okc (ok_irem (by decide +kernel) rfl) (
    okc (ok_aald (C := "WreckSky$Wreck") (by decide) (fun _ => rfl) (by decide +kernel) rfl) (
    okc (ok_astore_n (k := 1) (by decide +kernel) rfl rfl) (
    okc (ok_aload_n (k := 1) (by decide +kernel) rfl rfl) (
    okc (ok_getI (k := 5) (idx := 76) cX7_ok (by decide) (by decide +kernel) w_118 (by decide +kernel) rfl) (
    okc (ok_if_ne (off := 4) (by decide +kernel) rfl rfl) (
    okc (ok_ret rfl (by decide +kernel)) (
    okc (ok_aload_n (k := 1) (by decide +kernel) rfl rfl) (
    okc (ok_getI (k := 1) (idx := 64) cX7_ok (by decide) (by decide +kernel) w_103 (by decide +kernel) rfl) (
    okc (ok_if_le (off := 16) (by decide +kernel) rfl rfl) (
    okc (ok_aload_n (k := 1) (by decide +kernel) rfl rfl) (
    okc (ok_dup (by decide +kernel) rfl) (
    okc (ok_getI (k := 1) (idx := 64) cX7_ok (by decide) (by decide +kernel) w_103 (by decide +kernel) rfl) (
    okc (ok_iconst (n := 1) (by decide +kernel) rfl rfl) (
    okc (ok_isub (by decide +kernel) rfl) (
    okc (ok_putI (k := 1) (idx := 64) cX7_ok (by decide) rfl rfl w_103 (by decide +kernel) rfl) (
    okc (ok_goto (off := 18) (by decide +kernel) rfl) (
    okc (ok_aload_n (k := 1) (by decide +kernel) rfl rfl) (
    okc (ok_iconst (n := 0) (by decide +kernel) rfl rfl) (
    okc (ok_putZ (k := 5) (idx := 76) cX7_ok (by decide) rfl rfl w_118 (by decide +kernel) rfl) (
    okc (ok_aload_n (k := 0) (by decide +kernel) rfl rfl) (
    okc (ok_dup (by decide +kernel) rfl) (
    okc (ok_getI (k := 7) (idx := 40) cX3_ok (by decide) (by decide +kernel) w_151 (by decide +kernel) rfl) (
    okc (ok_iconst (n := 1) (by decide +kernel) rfl rfl) (
    okc (ok_iadd (by decide +kernel) rfl) (
    okc (ok_putI (k := 7) (idx := 40) cX3_ok (by decide) rfl rfl w_151 (by decide +kernel) rfl) (
    okc (ok_ret rfl (by decide +kernel)) ( okn))))))))))))))))))))))))))))))))))))))))))))
def pl_M_doMeet : List (Nat × mA) := [(0, a_aload 0 1), (1, a_iload 1 2), (2, a_callO 9 36 113 1 5), (5, a_if (fun x => decide (x = 0)) 50 8), (8, a_aload 0 9), (9, a_iload 2 10), (10, a_callO 9 36 113 1 13), (13, a_if (fun x => decide (x = 0)) 50 16), (16, a_aload 0 17), (17, a_iload 1 18), (18, a_push 1 19), (19, a_callO 9 36 105 2 22), (22, a_aload 0 23), (23, a_iload 2 24), (24, a_push 1 25), (25, a_callO 9 36 105 2 28), (28, a_cmp (fun x y => decide (x ≠ y)) 50 31), (31, a_aload 0 32), (32, a_iload 1 33), (33, a_push 2 34), (34, a_callO 9 36 105 2 37), (37, a_aload 0 38), (38, a_iload 2 39), (39, a_push 2 40), (40, a_callO 9 36 105 2 43), (43, a_cmp (fun x y => decide (x ≠ y)) 50 46), (46, a_push 1 47), (47, a_goto 51), (50, a_push 0 51), (51, a_zret)]
set_option maxRecDepth 20000 in
theorem ol_M_doMeet : okall B sp D cA (SPf B sp Ls xs adK adV) MT ⟨"WreckSkyModel", "doMeet", "(II)Z"⟩ prog_11_method_30_code 3 (Option.some Jvm.ClassFile.FieldType.boolean) (pl_M_doMeet) := by
  unfold pl_M_doMeet
  exact
    okc (ok_aload_n (k := 0) (by decide +kernel) rfl rfl) (
    okc (ok_iload_n (k := 1) (by decide +kernel) rfl rfl) (
    okc (ok_callV (SPf_ok _ _ _ _ _ _) (mi := 113) (n := 1) (idx := 137) rfl m_M_isUp (by decide) cX9_ok w_1184 w_1186 w_30 (by decide +kernel) rfl) (
    okc (ok_if_eq (off := 45) (by decide +kernel) rfl rfl) (
    okc (ok_aload_n (k := 0) (by decide +kernel) rfl rfl) (
    okc (ok_iload_n (k := 2) (by decide +kernel) rfl rfl) (
    okc (ok_callV (SPf_ok _ _ _ _ _ _) (mi := 113) (n := 1) (idx := 137) rfl m_M_isUp (by decide) cX9_ok w_1184 w_1186 w_30 (by decide +kernel) rfl) (
    okc (ok_if_eq (off := 37) (by decide +kernel) rfl rfl) (
    okc (ok_aload_n (k := 0) (by decide +kernel) rfl rfl) (
    okc (ok_iload_n (k := 1) (by decide +kernel) rfl rfl) (
    okc (ok_iconst (n := 1) (by decide +kernel) rfl rfl) (
    okc (ok_callV (SPf_ok _ _ _ _ _ _) (mi := 105) (n := 2) (idx := 88) rfl m_M_of (by decide) cX9_ok w_1130 w_1132 w_23 (by decide +kernel) rfl) (
    okc (ok_aload_n (k := 0) (by decide +kernel) rfl rfl) (
    okc (ok_iload_n (k := 2) (by decide +kernel) rfl rfl) (
    okc (ok_iconst (n := 1) (by decide +kernel) rfl rfl) (
    okc (ok_callV (SPf_ok _ _ _ _ _ _) (mi := 105) (n := 2) (idx := 88) rfl m_M_of (by decide) cX9_ok w_1130 w_1132 w_23 (by decide +kernel) rfl) (
    okc (ok_cmp_ne (off := 22) (by decide +kernel) rfl rfl) (
    okc (ok_aload_n (k := 0) (by decide +kernel) rfl rfl) (
    okc (ok_iload_n (k := 1) (by decide +kernel) rfl rfl) (
    okc (ok_iconst (n := 2) (by decide +kernel) rfl rfl) (
    okc (ok_callV (SPf_ok _ _ _ _ _ _) (mi := 105) (n := 2) (idx := 88) rfl m_M_of (by decide) cX9_ok w_1130 w_1132 w_23 (by decide +kernel) rfl) (
    okc (ok_aload_n (k := 0) (by decide +kernel) rfl rfl) (
    okc (ok_iload_n (k := 2) (by decide +kernel) rfl rfl) (
    okc (ok_iconst (n := 2) (by decide +kernel) rfl rfl) (
    okc (ok_callV (SPf_ok _ _ _ _ _ _) (mi := 105) (n := 2) (idx := 88) rfl m_M_of (by decide) cX9_ok w_1130 w_1132 w_23 (by decide +kernel) rfl) (
    okc (ok_cmp_ne (off := 7) (by decide +kernel) rfl rfl) (
    okc (ok_iconst (n := 1) (by decide +kernel) rfl rfl) (
    okc (ok_goto (off := 4) (by decide +kernel) rfl) (
    okc (ok_iconst (n := 0) (by decide +kernel) rfl rfl) (
    okc (ok_zret rfl (by decide +kernel)) ( okn))))))))))))))))))))))))))))))
end PR

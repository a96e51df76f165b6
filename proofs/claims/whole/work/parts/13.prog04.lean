section PR
variable {B : Nat} {sp : Nat → Value} {D : va_G} {cA : Nat → ClassId} {Ls : Nat} {xs : Nat → Int32} {adK adV : Nat → Nat}
def pl_M_seen_2 : List (Nat × mA) := [(106, a_iload 6 108), (108, a_dup2 109), (109, a_ald 0 110), (110, a_iload 5 112), (112, a_push (-1000000005) 114), (114, a_cmp (fun x y => decide (x ≠ y)) 121 117), (117, a_push 0 118), (118, a_goto 136), (121, a_iload 5 123), (123, a_call 147 1 126), (126, a_aload 0 127), (127, a_iload 6 129), (129, a_push 2 130), (130, a_callO 9 36 105 2 133), (133, a_call 148 2 136), (136, a_bin (fun x y => x + y) 137), (137, a_ast 0 (fun x => x) 138), (138, a_iinc 6 1 141), (141, a_goto 96), (144, a_aload 0 145), (145, a_callO 9 36 131 0 148), (148, a_iinc 4 1 151), (151, a_goto 68), (154, a_aload 0 155), (155, a_callO 9 36 129 0 158), (158, a_push 0 159), (159, a_istore 4 161), (161, a_push 1 162), (162, a_istore 5 164), (164, a_iload 5 166), (166, a_iload 3 167), (167, a_cmp (fun x y => decide (y ≤ x)) 202 170), (170, a_aload 0 171), (171, a_getR 9 36 7 174), (174, a_iload 5 176), (176, a_ald 0 177), (177, a_aload 0 178), (178, a_getR 9 36 7 181), (181, a_iload 4 183), (183, a_ald 0 184), (184, a_cmp (fun x y => decide (y ≤ x)) 192 187), (187, a_iload 5 189), (189, a_goto 194), (192, a_iload 4 194), (194, a_istore 4 196), (196, a_iinc 5 1 199), (199, a_goto 164), (202, a_iload 3 203), (203, a_if (fun x => decide (x ≠ 0)) 211 206), (206, a_push (-1000000005) 208), (208, a_goto 227), (211, a_iload 2 212), (212, a_if (fun x => decide (x ≠ 0)) 220 215), (215, a_iload 4 217), (217, a_goto 227), (220, a_aload 0 221), (221, a_getR 9 36 7 224), (224, a_iload 4 226), (226, a_ald 0 227), (227, a_iret)]
set_option maxRecDepth 20000 in
theorem ol_M_seen_2 : okall B sp D cA (SPf B sp Ls xs adK adV) MT ⟨"WreckSkyModel", "seen", "(II)I"⟩ prog_11_method_52_code 7 (Option.some Jvm.ClassFile.FieldType.int) (pl_M_seen_2) := by
  unfold pl_M_seen_2
  exact
    okc (ok_iload (by decide +kernel) rfl) (
    okc (ok_dup2 (by decide +kernel) rfl) (
    okc (ok_iald (by decide +kernel) rfl) (
    okc (ok_iload (by decide +kernel) rfl) (
    okc (ok_ldc (i := 177) w_1265 (by decide +kernel) rfl) (
    okc (ok_cmp_ne (off := 7) (by decide +kernel) rfl rfl) (
    okc (ok_iconst (n := 0) (by decide +kernel) rfl rfl) (
    okc (ok_goto (off := 18) (by decide +kernel) rfl) (
    okc (ok_iload (by decide +kernel) rfl) (
    okc (ok_callS (SPf_ok _ _ _ _ _ _) (mi := 147) (n := 1) (idx := 149) rfl m_M_round (by decide) w_1226 w_1227 (by decide +kernel) rfl) (
    okc (ok_aload_n (k := 0) (by decide +kernel) rfl rfl) (
    okc (ok_iload (by decide +kernel) rfl) (
    okc (ok_iconst (n := 2) (by decide +kernel) rfl rfl) (
    okc (ok_callV (SPf_ok _ _ _ _ _ _) (mi := 105) (n := 2) (idx := 88) rfl m_M_of (by decide) cX9_ok w_1130 w_1132 w_23 (by decide +kernel) rfl) (
    okc (ok_callS (SPf_ok _ _ _ _ _ _) (mi := 148) (n := 2) (idx := 187) rfl m_M_apart (by decide) w_1306 w_1307 (by decide +kernel) rfl) (
    okc (ok_iadd (by decide +kernel) rfl) (
    okc (ok_iast (by decide +kernel) rfl) (
    okc (ok_iinc (n := 1) (by decide +kernel) rfl rfl) (
    okc (ok_goto (off := -45) (by decide +kernel) rfl) (
    okc (ok_aload_n (k := 0) (by decide +kernel) rfl rfl) (
    okc (ok_callV (SPf_ok _ _ _ _ _ _) (mi := 131) (n := 0) (idx := 162) rfl m_M_hour (by decide) cX9_ok w_1222 w_1224 w_34 (by decide +kernel) rfl) (
    okc (ok_iinc (n := 1) (by decide +kernel) rfl rfl) (
    okc (ok_goto (off := -83) (by decide +kernel) rfl) (
    okc (ok_aload_n (k := 0) (by decide +kernel) rfl rfl) (
    okc (ok_callV (SPf_ok _ _ _ _ _ _) (mi := 129) (n := 0) (idx := 174) rfl m_M_putsBack (by decide) cX9_ok w_1257 w_1259 w_40 (by decide +kernel) rfl) (
    okc (ok_iconst (n := 0) (by decide +kernel) rfl rfl) (
    okc (ok_istore (by decide +kernel) rfl) (
    okc (ok_iconst (n := 1) (by decide +kernel) rfl rfl) (
    okc (ok_istore (by decide +kernel) rfl) (
    okc (ok_iload (by decide +kernel) rfl) (
    okc (ok_iload_n (k := 3) (by decide +kernel) rfl rfl) (
    okc (ok_cmp_ge (off := 35) (by decide +kernel) rfl rfl) (
    okc (ok_aload_n (k := 0) (by decide +kernel) rfl rfl) (
    okc (ok_getR (k := 7) (idx := 28) cX9_ok (by decide) (by decide +kernel) w_998 (by decide +kernel) rfl) (
    okc (ok_iload (by decide +kernel) rfl) (
    okc (ok_iald (by decide +kernel) rfl) (
    okc (ok_aload_n (k := 0) (by decide +kernel) rfl rfl) (
    okc (ok_getR (k := 7) (idx := 28) cX9_ok (by decide) (by decide +kernel) w_998 (by decide +kernel) rfl) (
    okc (ok_iload (by decide +kernel) rfl) (
    okc (ok_iald (by decide +kernel) rfl) (
    okc (ok_cmp_ge (off := 8) (by decide +kernel) rfl rfl) (
    okc (ok_iload (by decide +kernel) rfl) (
    okc (ok_goto (off := 5) (by decide +kernel) rfl) (
    okc (ok_iload (by decide +kernel) rfl) (
    okc (ok_istore (by decide +kernel) rfl) (
    okc (ok_iinc (n := 1) (by decide +kernel) rfl rfl) (
    okc (ok_goto (off := -35) (by decide +kernel) rfl) (
    okc (ok_iload_n (k := 3) (by decide +kernel) rfl rfl) (
    okc (ok_if_ne (off := 8) (by decide +kernel) rfl rfl) (
    okc (ok_ldc (i := 177) w_1265 (by decide +kernel) rfl) (
    okc (ok_goto (off := 19) (by decide +kernel) rfl) (
    okc (ok_iload_n (k := 2) (by decide +kernel) rfl rfl) (
    okc (ok_if_ne (off := 8) (by decide +kernel) rfl rfl) (
    okc (ok_iload (by decide +kernel) rfl) (
    okc (ok_goto (off := 10) (by decide +kernel) rfl) (
    okc (ok_aload_n (k := 0) (by decide +kernel) rfl rfl) (
    okc (ok_getR (k := 7) (idx := 28) cX9_ok (by decide) (by decide +kernel) w_998 (by decide +kernel) rfl) (
    okc (ok_iload (by decide +kernel) rfl) (
    okc (ok_iald (by decide +kernel) rfl) (
    okc (ok_iret rfl (by decide +kernel)) ( okn))))))))))))))))))))))))))))))))))))))))))))))))))))))))))))
def pl_M_seen : List (Nat × mA) := pl_M_seen_1 ++ (pl_M_seen_2)
theorem ol_M_seen : okall B sp D cA (SPf B sp Ls xs adK adV) MT ⟨"WreckSkyModel", "seen", "(II)I"⟩ prog_11_method_52_code 7 (Option.some Jvm.ClassFile.FieldType.int) (pl_M_seen) := oka ol_M_seen_1 (ol_M_seen_2)
def pl_W_fee : List (Nat × mA) := [(0, a_aload 0 1), (1, a_getR 8 10 0 4), (4, a_push 1 5), (5, a_callO 3 11 149 1 8), (8, a_istore 1 9), (9, a_iload 1 10), (10, a_if (fun x => decide (0 ≤ x)) 23 13), (13, a_aload 0 14), (14, a_getR 8 10 0 17), (17, a_getI 3 11 6 20), (20, a_goto 57), (23, a_aload 0 24), (24, a_getR 8 10 0 27), (27, a_getR 3 11 1 30), (30, a_iload 1 31), (31, a_aald 5 32), (32, a_aload 0 33), (33, a_getR 8 10 0 36), (36, a_getI 3 11 6 39), (39, a_aload 0 40), (40, a_getR 8 10 0 43), (43, a_getI 3 11 7 46), (46, a_push 0 47), (47, a_aload 0 48), (48, a_getR 8 10 0 51), (51, a_getR 3 11 2 54), (54, a_callO 6 3 150 4 57), (57, a_iret)]
set_option maxRecDepth 20000 in
theorem ol_W_fee : okall B sp D cA (SPf B sp Ls xs adK adV) MT ⟨"WreckSky", "fee", "()I"⟩ prog_1_method_23_code 2 (Option.some Jvm.ClassFile.FieldType.int) (pl_W_fee) := by
  unfold pl_W_fee
  exact
    okc (ok_aload_n (k := 0) (by decide +kernel) rfl rfl) (
    okc (ok_getR (k := 0) (idx := 10) cX8_ok (by decide) (by decide +kernel) w_313 (by decide +kernel) rfl) (
    okc (ok_iconst (n := 1) (by decide +kernel) rfl rfl) (
    okc (ok_callV (SPf_ok _ _ _ _ _ _) (mi := 149) (n := 1) (idx := 231) rfl m_S_textFor (by decide) cX3_ok w_657 w_377 w_378 (by decide +kernel) rfl) (
    okc (ok_istore_n (k := 1) (by decide +kernel) rfl rfl) (
    okc (ok_iload_n (k := 1) (by decide +kernel) rfl rfl) (
    okc (ok_if_ge (off := 13) (by decide +kernel) rfl rfl) (
    okc (ok_aload_n (k := 0) (by decide +kernel) rfl rfl) (
    okc (ok_getR (k := 0) (idx := 10) cX8_ok (by decide) (by decide +kernel) w_313 (by decide +kernel) rfl) (
    okc (ok_getI (k := 6) (idx := 160) cX3_ok (by decide) (by decide +kernel) w_150 (by decide +kernel) rfl) (
    okc (ok_goto (off := 37) (by decide +kernel) rfl) (
    okc (ok_aload_n (k := 0) (by decide +kernel) rfl rfl) (
    okc (ok_getR (k := 0) (idx := 10) cX8_ok (by decide) (by decide +kernel) w_313 (by decide +kernel) rfl) (
    okc (ok_getR (k := 1) (idx := 234) cX3_ok (by decide) (by decide +kernel) w_138 (by decide +kernel) rfl) (
    okc (ok_iload_n (k := 1) (by decide +kernel) rfl rfl) (
    okc (ok_aald (C := "WreckSky$Text") (by decide) (fun _ => rfl) (by decide +kernel) rfl) (
    okc (ok_aload_n (k := 0) (by decide +kernel) rfl rfl) (
    okc (ok_getR (k := 0) (idx := 10) cX8_ok (by decide) (by decide +kernel) w_313 (by decide +kernel) rfl) (
    okc (ok_getI (k := 6) (idx := 160) cX3_ok (by decide) (by decide +kernel) w_150 (by decide +kernel) rfl) (
    okc (ok_aload_n (k := 0) (by decide +kernel) rfl rfl) (
    okc (ok_getR (k := 0) (idx := 10) cX8_ok (by decide) (by decide +kernel) w_313 (by decide +kernel) rfl) (
    okc (ok_getI (k := 7) (idx := 167) cX3_ok (by decide) (by decide +kernel) w_152 (by decide +kernel) rfl) (
    okc (ok_iconst (n := 0) (by decide +kernel) rfl rfl) (
    okc (ok_aload_n (k := 0) (by decide +kernel) rfl rfl) (
    okc (ok_getR (k := 0) (idx := 10) cX8_ok (by decide) (by decide +kernel) w_313 (by decide +kernel) rfl) (
    okc (ok_getR (k := 2) (idx := 238) cX3_ok (by decide) (by decide +kernel) w_140 (by decide +kernel) rfl) (
    okc (ok_callV (SPf_ok _ _ _ _ _ _) (mi := 150) (n := 4) (idx := 241) rfl m_X_valueOf (by decide) cX6_ok w_658 w_381 w_382 (by decide +kernel) rfl) (
    okc (ok_iret rfl (by decide +kernel)) ( okn))))))))))))))))))))))))))))
def pl_M_fee : List (Nat × mA) := [(0, a_aload 0 1), (1, a_push 1 2), (2, a_callO 9 36 151 1 5), (5, a_istore 1 6), (6, a_aload 0 7), (7, a_getR 9 36 25 10), (10, a_push 0 11), (11, a_aload 0 12), (12, a_getR 9 36 0 15), (15, a_push 4 16), (16, a_ald 0 17), (17, a_ast 0 (fun x => x) 18), (18, a_aload 0 19), (19, a_getR 9 36 25 22), (22, a_push 1 23), (23, a_aload 0 24), (24, a_getR 9 36 0 27), (27, a_push 5 28), (28, a_ald 0 29), (29, a_ast 0 (fun x => x) 30), (30, a_iload 1 31), (31, a_if (fun x => decide (0 ≤ x)) 43 34), (34, a_aload 0 35), (35, a_getR 9 36 0 38), (38, a_push 4 39), (39, a_ald 0 40), (40, a_goto 48), (43, a_aload 0 44), (44, a_iload 1 45), (45, a_callO 9 36 152 1 48), (48, a_iret)]
set_option maxRecDepth 20000 in
theorem ol_M_fee : okall B sp D cA (SPf B sp Ls xs adK adV) MT ⟨"WreckSkyModel", "fee", "()I"⟩ prog_11_method_53_code 2 (Option.some Jvm.ClassFile.FieldType.int) (pl_M_fee) := by
  unfold pl_M_fee
  exact
    okc (ok_aload_n (k := 0) (by decide +kernel) rfl rfl) (
    okc (ok_iconst (n := 1) (by decide +kernel) rfl rfl) (
    okc (ok_callV (SPf_ok _ _ _ _ _ _) (mi := 151) (n := 1) (idx := 106) rfl m_M_counts (by decide) cX9_ok w_1138 w_1140 w_25 (by decide +kernel) rfl) (
    okc (ok_istore_n (k := 1) (by decide +kernel) rfl rfl) (
    okc (ok_aload_n (k := 0) (by decide +kernel) rfl rfl) (
    okc (ok_getR (k := 25) (idx := 54) cX9_ok (by decide) (by decide +kernel) w_1016 (by decide +kernel) rfl) (
    okc (ok_iconst (n := 0) (by decide +kernel) rfl rfl) (
    okc (ok_aload_n (k := 0) (by decide +kernel) rfl rfl) (
    okc (ok_getR (k := 0) (idx := 9) cX9_ok (by decide) (by decide +kernel) w_991 (by decide +kernel) rfl) (
    okc (ok_iconst (n := 4) (by decide +kernel) rfl rfl) (
    okc (ok_iald (by decide +kernel) rfl) (
    okc (ok_iast (by decide +kernel) rfl) (
    okc (ok_aload_n (k := 0) (by decide +kernel) rfl rfl) (
    okc (ok_getR (k := 25) (idx := 54) cX9_ok (by decide) (by decide +kernel) w_1016 (by decide +kernel) rfl) (
    okc (ok_iconst (n := 1) (by decide +kernel) rfl rfl) (
    okc (ok_aload_n (k := 0) (by decide +kernel) rfl rfl) (
    okc (ok_getR (k := 0) (idx := 9) cX9_ok (by decide) (by decide +kernel) w_991 (by decide +kernel) rfl) (
    okc (ok_iconst (n := 5) (by decide +kernel) rfl rfl) (
    okc (ok_iald (by decide +kernel) rfl) (
    okc (ok_iast (by decide +kernel) rfl) (
    okc (ok_iload_n (k := 1) (by decide +kernel) rfl rfl) (
    okc (ok_if_ge (off := 12) (by decide +kernel) rfl rfl) (
    okc (ok_aload_n (k := 0) (by decide +kernel) rfl rfl) (
    okc (ok_getR (k := 0) (idx := 9) cX9_ok (by decide) (by decide +kernel) w_991 (by decide +kernel) rfl) (
    okc (ok_iconst (n := 4) (by decide +kernel) rfl rfl) (
    okc (ok_iald (by decide +kernel) rfl) (
    okc (ok_goto (off := 8) (by decide +kernel) rfl) (
    okc (ok_aload_n (k := 0) (by decide +kernel) rfl rfl) (
    okc (ok_iload_n (k := 1) (by decide +kernel) rfl rfl) (
    okc (ok_callV (SPf_ok _ _ _ _ _ _) (mi := 152) (n := 1) (idx := 110) rfl m_M_worksOut (by decide) cX9_ok w_1142 w_1144 w_26 (by decide +kernel) rfl) (
    okc (ok_iret rfl (by decide +kernel)) ( okn)))))))))))))))))))))))))))))))
def pl_W_fine : List (Nat × mA) := [(0, a_aload 0 1), (1, a_getR 8 10 0 4), (4, a_iload 1 5), (5, a_callO 3 11 100 1 8), (8, a_if (fun x => decide (x ≠ 0)) 14 11), (11, a_push (-1000000001) 13), (13, a_iret), (14, a_aload 0 15), (15, a_getR 8 10 0 18), (18, a_getR 3 11 0 21), (21, a_iload 1 22), (22, a_aald 4 23), (23, a_astore 2 24), (24, a_aload 0 25), (25, a_getR 8 10 0 28), (28, a_push 2 29), (29, a_callO 3 11 149 1 32), (32, a_istore 3 33), (33, a_iload 3 34), (34, a_if (fun x => decide (0 ≤ x)) 44 37), (37, a_aload 2 38), (38, a_getI 7 6 4 41), (41, a_goto 72), (44, a_aload 0 45), (45, a_getR 8 10 0 48), (48, a_getR 3 11 1 51), (51, a_iload 3 52), (52, a_aald 5 53), (53, a_aload 2 54), (54, a_getI 7 6 4 57), (57, a_aload 2 58), (58, a_getI 7 6 2 61), (61, a_push 0 62), (62, a_aload 0 63), (63, a_getR 8 10 0 66), (66, a_getR 3 11 2 69), (69, a_callO 6 3 150 4 72), (72, a_iret)]
set_option maxRecDepth 20000 in
theorem ol_W_fine : okall B sp D cA (SPf B sp Ls xs adK adV) MT ⟨"WreckSky", "fine", "(I)I"⟩ prog_1_method_24_code 4 (Option.some Jvm.ClassFile.FieldType.int) (pl_W_fine) := by
  unfold pl_W_fine
  exact
    okc (ok_aload_n (k := 0) (by decide +kernel) rfl rfl) (
    okc (ok_getR (k := 0) (idx := 10) cX8_ok (by decide) (by decide +kernel) w_313 (by decide +kernel) rfl) (
    okc (ok_iload_n (k := 1) (by decide +kernel) rfl rfl) (
    okc (ok_callV (SPf_ok _ _ _ _ _ _) (mi := 100) (n := 1) (idx := 88) rfl m_S_hasWreck (by decide) cX3_ok w_367 w_368 w_369 (by decide +kernel) rfl) (
    okc (ok_if_ne (off := 6) (by decide +kernel) rfl rfl) (
    okc (ok_ldc (i := 79) w_357 (by decide +kernel) rfl) (
    okc (ok_iret rfl (by decide +kernel)) (
    okc (ok_aload_n (k := 0) (by decide +kernel) rfl rfl) (
    okc (ok_getR (k := 0) (idx := 10) cX8_ok (by decide) (by decide +kernel) w_313 (by decide +kernel) rfl) (
    okc (ok_getR (k := 0) (idx := 91) cX3_ok (by decide) (by decide +kernel) w_135 (by decide +kernel) rfl) (
    okc (ok_iload_n (k := 1) (by decide +kernel) rfl rfl) (
    okc (ok_aald (C := "WreckSky$Wreck") (by decide) (fun _ => rfl) (by decide +kernel) rfl) (
    okc (ok_astore_n (k := 2) (by decide +kernel) rfl rfl) (
    okc (ok_aload_n (k := 0) (by decide +kernel) rfl rfl) (
    okc (ok_getR (k := 0) (idx := 10) cX8_ok (by decide) (by decide +kernel) w_313 (by decide +kernel) rfl) (
    okc (ok_iconst (n := 2) (by decide +kernel) rfl rfl) (
    okc (ok_callV (SPf_ok _ _ _ _ _ _) (mi := 149) (n := 1) (idx := 231) rfl m_S_textFor (by decide) cX3_ok w_657 w_377 w_378 (by decide +kernel) rfl) (
    okc (ok_istore_n (k := 3) (by decide +kernel) rfl rfl) (
    okc (ok_iload_n (k := 3) (by decide +kernel) rfl rfl) (
    okc (ok_if_ge (off := 10) (by decide +kernel) rfl rfl) (
    okc (ok_aload_n (k := 2) (by decide +kernel) rfl rfl) (
    okc (ok_getI (k := 4) (idx := 109) cX7_ok (by decide) (by decide +kernel) w_114 (by decide +kernel) rfl) (
    okc (ok_goto (off := 31) (by decide +kernel) rfl) (
    okc (ok_aload_n (k := 0) (by decide +kernel) rfl rfl) (
    okc (ok_getR (k := 0) (idx := 10) cX8_ok (by decide) (by decide +kernel) w_313 (by decide +kernel) rfl) (
    okc (ok_getR (k := 1) (idx := 234) cX3_ok (by decide) (by decide +kernel) w_138 (by decide +kernel) rfl) (
    okc (ok_iload_n (k := 3) (by decide +kernel) rfl rfl) (
    okc (ok_aald (C := "WreckSky$Text") (by decide) (fun _ => rfl) (by decide +kernel) rfl) (
    okc (ok_aload_n (k := 2) (by decide +kernel) rfl rfl) (
    okc (ok_getI (k := 4) (idx := 109) cX7_ok (by decide) (by decide +kernel) w_114 (by decide +kernel) rfl) (
    okc (ok_aload_n (k := 2) (by decide +kernel) rfl rfl) (
    okc (ok_getI (k := 2) (idx := 103) cX7_ok (by decide) (by decide +kernel) w_106 (by decide +kernel) rfl) (
    okc (ok_iconst (n := 0) (by decide +kernel) rfl rfl) (
    okc (ok_aload_n (k := 0) (by decide +kernel) rfl rfl) (
    okc (ok_getR (k := 0) (idx := 10) cX8_ok (by decide) (by decide +kernel) w_313 (by decide +kernel) rfl) (
    okc (ok_getR (k := 2) (idx := 238) cX3_ok (by decide) (by decide +kernel) w_140 (by decide +kernel) rfl) (
    okc (ok_callV (SPf_ok _ _ _ _ _ _) (mi := 150) (n := 4) (idx := 241) rfl m_X_valueOf (by decide) cX6_ok w_658 w_381 w_382 (by decide +kernel) rfl) (
    okc (ok_iret rfl (by decide +kernel)) ( okn))))))))))))))))))))))))))))))))))))))
def pl_M_fine : List (Nat × mA) := [(0, a_aload 0 1), (1, a_iload 1 2), (2, a_callO 9 36 104 1 5), (5, a_if (fun x => decide (x ≠ 0)) 11 8), (8, a_push (-1000000001) 10), (10, a_iret), (11, a_aload 0 12), (12, a_push 2 13), (13, a_callO 9 36 151 1 16), (16, a_istore 2 17), (17, a_aload 0 18), (18, a_getR 9 36 25 21), (21, a_push 0 22), (22, a_aload 0 23), (23, a_iload 1 24), (24, a_push 4 25), (25, a_callO 9 36 105 2 28), (28, a_ast 0 (fun x => x) 29), (29, a_aload 0 30), (30, a_getR 9 36 25 33), (33, a_push 1 34), (34, a_aload 0 35), (35, a_iload 1 36), (36, a_push 2 37), (37, a_callO 9 36 105 2 40), (40, a_ast 0 (fun x => x) 41), (41, a_iload 2 42), (42, a_if (fun x => decide (0 ≤ x)) 54 45), (45, a_aload 0 46), (46, a_iload 1 47), (47, a_push 4 48), (48, a_callO 9 36 105 2 51), (51, a_goto 59), (54, a_aload 0 55), (55, a_iload 2 56), (56, a_callO 9 36 152 1 59), (59, a_iret)]
set_option maxRecDepth 20000 in
theorem ol_M_fine : okall B sp D cA (SPf B sp Ls xs adK adV) MT ⟨"WreckSkyModel", "fine", "(I)I"⟩ prog_11_method_54_code 3 (Option.some Jvm.ClassFile.FieldType.int) (pl_M_fine) := by
  unfold pl_M_fine
  exact
    okc (ok_aload_n (k := 0) (by decide +kernel) rfl rfl) (
    okc (ok_iload_n (k := 1) (by decide +kernel) rfl rfl) (
    okc (ok_callV (SPf_ok _ _ _ _ _ _) (mi := 104) (n := 1) (idx := 117) rfl m_M_isWreck (by decide) cX9_ok w_1126 w_1128 w_22 (by decide +kernel) rfl) (
    okc (ok_if_ne (off := 6) (by decide +kernel) rfl rfl) (
    okc (ok_ldc (i := 100) w_1112 (by decide +kernel) rfl) (
    okc (ok_iret rfl (by decide +kernel)) (
    okc (ok_aload_n (k := 0) (by decide +kernel) rfl rfl) (
    okc (ok_iconst (n := 2) (by decide +kernel) rfl rfl) (
    okc (ok_callV (SPf_ok _ _ _ _ _ _) (mi := 151) (n := 1) (idx := 106) rfl m_M_counts (by decide) cX9_ok w_1138 w_1140 w_25 (by decide +kernel) rfl) (
    okc (ok_istore_n (k := 2) (by decide +kernel) rfl rfl) (
    okc (ok_aload_n (k := 0) (by decide +kernel) rfl rfl) (
    okc (ok_getR (k := 25) (idx := 54) cX9_ok (by decide) (by decide +kernel) w_1016 (by decide +kernel) rfl) (
    okc (ok_iconst (n := 0) (by decide +kernel) rfl rfl) (
    okc (ok_aload_n (k := 0) (by decide +kernel) rfl rfl) (
    okc (ok_iload_n (k := 1) (by decide +kernel) rfl rfl) (
    okc (ok_iconst (n := 4) (by decide +kernel) rfl rfl) (
    okc (ok_callV (SPf_ok _ _ _ _ _ _) (mi := 105) (n := 2) (idx := 88) rfl m_M_of (by decide) cX9_ok w_1130 w_1132 w_23 (by decide +kernel) rfl) (
    okc (ok_iast (by decide +kernel) rfl) (
    okc (ok_aload_n (k := 0) (by decide +kernel) rfl rfl) (
    okc (ok_getR (k := 25) (idx := 54) cX9_ok (by decide) (by decide +kernel) w_1016 (by decide +kernel) rfl) (
    okc (ok_iconst (n := 1) (by decide +kernel) rfl rfl) (
    okc (ok_aload_n (k := 0) (by decide +kernel) rfl rfl) (
    okc (ok_iload_n (k := 1) (by decide +kernel) rfl rfl) (
    okc (ok_iconst (n := 2) (by decide +kernel) rfl rfl) (
    okc (ok_callV (SPf_ok _ _ _ _ _ _) (mi := 105) (n := 2) (idx := 88) rfl m_M_of (by decide) cX9_ok w_1130 w_1132 w_23 (by decide +kernel) rfl) (
    okc (ok_iast (by decide +kernel) rfl) (
    okc (ok_iload_n (k := 2) (by decide +kernel) rfl rfl) (
    okc (ok_if_ge (off := 12) (by decide +kernel) rfl rfl) (
    okc (ok_aload_n (k := 0) (by decide +kernel) rfl rfl) (
    okc (ok_iload_n (k := 1) (by decide +kernel) rfl rfl) (
    okc (ok_iconst (n := 4) (by decide +kernel) rfl rfl) (
    okc (ok_callV (SPf_ok _ _ _ _ _ _) (mi := 105) (n := 2) (idx := 88) rfl m_M_of (by decide) cX9_ok w_1130 w_1132 w_23 (by decide +kernel) rfl) (
    okc (ok_goto (off := 8) (by decide +kernel) rfl) (
    okc (ok_aload_n (k := 0) (by decide +kernel) rfl rfl) (
    okc (ok_iload_n (k := 2) (by decide +kernel) rfl rfl) (
    okc (ok_callV (SPf_ok _ _ _ _ _ _) (mi := 152) (n := 1) (idx := 110) rfl m_M_worksOut (by decide) cX9_ok w_1142 w_1144 w_26 (by decide +kernel) rfl) (
    okc (ok_iret rfl (by decide +kernel)) ( okn)))))))))))))))))))))))))))))))))))))
def pl_W_feed : List (Nat × mA) := [(0, a_aload 0 1), (1, a_getR 8 10 3 4), (4, a_push 12 6), (6, a_callO 5 2 153 1 9), (9, a_if (fun x => decide (x ≠ 0)) 15 12), (12, a_push (-1000000003) 14), (14, a_iret), (15, a_aload 0 16), (16, a_getR 8 10 3 19), (19, a_iload 1 20), (20, a_callO 5 2 154 1 23), (23, a_aload 0 24), (24, a_getR 8 10 3 27), (27, a_iload 2 28), (28, a_callO 5 2 154 1 31), (31, a_aload 0 32), (32, a_getR 8 10 3 35), (35, a_iload 3 36), (36, a_callO 5 2 154 1 39), (39, a_aload 0 40), (40, a_getR 8 10 3 43), (43, a_getI 5 2 1 46), (46, a_iret)]
set_option maxRecDepth 20000 in
theorem ol_W_feed : okall B sp D cA (SPf B sp Ls xs adK adV) MT ⟨"WreckSky", "feed", "(III)I"⟩ prog_1_method_25_code 4 (Option.some Jvm.ClassFile.FieldType.int) (pl_W_feed) := by
  unfold pl_W_feed
  exact
    okc (ok_aload_n (k := 0) (by decide +kernel) rfl rfl) (
    okc (ok_getR (k := 3) (idx := 29) cX8_ok (by decide) (by decide +kernel) w_316 (by decide +kernel) rfl) (
    okc (ok_bipush (n := 12) (by decide +kernel) (by decide +kernel) rfl) (
    okc (ok_callV (SPf_ok _ _ _ _ _ _) (mi := 153) (n := 1) (idx := 245) rfl m_T_hasRoomFor (by decide) cX5_ok w_667 w_668 w_669 (by decide +kernel) rfl) (
    okc (ok_if_ne (off := 6) (by decide +kernel) rfl rfl) (
    okc (ok_ldc (i := 87) w_362 (by decide +kernel) rfl) (
    okc (ok_iret rfl (by decide +kernel)) (
    okc (ok_aload_n (k := 0) (by decide +kernel) rfl rfl) (
    okc (ok_getR (k := 3) (idx := 29) cX8_ok (by decide) (by decide +kernel) w_316 (by decide +kernel) rfl) (
    okc (ok_iload_n (k := 1) (by decide +kernel) rfl rfl) (
    okc (ok_callV (SPf_ok _ _ _ _ _ _) (mi := 154) (n := 1) (idx := 248) rfl m_T_addBytes (by decide) cX5_ok w_671 w_672 w_673 (by decide +kernel) rfl) (
    okc (ok_aload_n (k := 0) (by decide +kernel) rfl rfl) (
    okc (ok_getR (k := 3) (idx := 29) cX8_ok (by decide) (by decide +kernel) w_316 (by decide +kernel) rfl) (
    okc (ok_iload_n (k := 2) (by decide +kernel) rfl rfl) (
    okc (ok_callV (SPf_ok _ _ _ _ _ _) (mi := 154) (n := 1) (idx := 248) rfl m_T_addBytes (by decide) cX5_ok w_671 w_672 w_673 (by decide +kernel) rfl) (
    okc (ok_aload_n (k := 0) (by decide +kernel) rfl rfl) (
    okc (ok_getR (k := 3) (idx := 29) cX8_ok (by decide) (by decide +kernel) w_316 (by decide +kernel) rfl) (
    okc (ok_iload_n (k := 3) (by decide +kernel) rfl rfl) (
    okc (ok_callV (SPf_ok _ _ _ _ _ _) (mi := 154) (n := 1) (idx := 248) rfl m_T_addBytes (by decide) cX5_ok w_671 w_672 w_673 (by decide +kernel) rfl) (
    okc (ok_aload_n (k := 0) (by decide +kernel) rfl rfl) (
    okc (ok_getR (k := 3) (idx := 29) cX8_ok (by decide) (by decide +kernel) w_316 (by decide +kernel) rfl) (
    okc (ok_getI (k := 1) (idx := 251) cX5_ok (by decide) (by decide +kernel) w_217 (by decide +kernel) rfl) (
    okc (ok_iret rfl (by decide +kernel)) ( okn)))))))))))))))))))))))
def pl_M_feed : List (Nat × mA) := [(0, a_aload 0 1), (1, a_getI 9 36 9 4), (4, a_push 12 6), (6, a_bin (fun x y => x + y) 7), (7, a_push 96 9), (9, a_cmp (fun x y => decide (x ≤ y)) 15 12), (12, a_push (-1000000003) 14), (14, a_iret), (15, a_push 0 16), (16, a_istore 4 18), (18, a_iload 4 20), (20, a_push 12 22), (22, a_cmp (fun x y => decide (y ≤ x)) 84 25), (25, a_iload 4 27), (27, a_push 4 28), (28, a_cmp (fun x y => decide (y ≤ x)) 35 31), (31, a_iload 1 32), (32, a_goto 47), (35, a_iload 4 37), (37, a_push 8 39), (39, a_cmp (fun x y => decide (y ≤ x)) 46 42), (42, a_iload 2 43), (43, a_goto 47), (46, a_iload 3 47), (47, a_istore 5 49), (49, a_aload 0 50), (50, a_getR 9 36 8 53), (53, a_aload 0 54), (54, a_getI 9 36 9 57), (57, a_iload 4 59), (59, a_bin (fun x y => x + y) 60), (60, a_iload 5 62), (62, a_push 24 64), (64, a_push 8 66), (66, a_iload 4 68), (68, a_push 4 69), (69, a_div (fun x y => x - x / y * y) 70), (70, a_bin (fun x y => x * y) 71), (71, a_bin (fun x y => x - y) 72), (72, a_bin (fun x y => x >>> (y &&& 31)) 73), (73, a_push 255 76), (76, a_bin (fun x y => x &&& y) 77), (77, a_ast 0 (fun x => x) 78), (78, a_iinc 4 1 81), (81, a_goto 18), (84, a_aload 0 85), (85, a_dup 86), (86, a_getI 9 36 9 89), (89, a_push 12 91), (91, a_bin (fun x y => x + y) 92), (92, a_putI 9 36 9 95), (95, a_aload 0 96), (96, a_getI 9 36 9 99), (99, a_iret)]
set_option maxRecDepth 20000 in
theorem ol_M_feed : okall B sp D cA (SPf B sp Ls xs adK adV) MT ⟨"WreckSkyModel", "feed", "(III)I"⟩ prog_11_method_55_code 6 (Option.some Jvm.ClassFile.FieldType.int) (pl_M_feed) := by
  unfold pl_M_feed
  exact
    okc (ok_aload_n (k := 0) (by decide +kernel) rfl rfl) (
    okc (ok_getI (k := 9) (idx := 197) cX9_ok (by decide) (by decide +kernel) w_1000 (by decide +kernel) rfl) (
    okc (ok_bipush (n := 12) (by decide +kernel) (by decide +kernel) rfl) (
    okc (ok_iadd (by decide +kernel) rfl) (
    okc (ok_bipush (n := 96) (by decide +kernel) (by decide +kernel) rfl) (
    okc (ok_cmp_le (off := 6) (by decide +kernel) rfl rfl) (
    okc (ok_ldc (i := 101) w_1113 (by decide +kernel) rfl) (
    okc (ok_iret rfl (by decide +kernel)) (
    okc (ok_iconst (n := 0) (by decide +kernel) rfl rfl) (
    okc (ok_istore (by decide +kernel) rfl) (
    okc (ok_iload (by decide +kernel) rfl) (
    okc (ok_bipush (n := 12) (by decide +kernel) (by decide +kernel) rfl) (
    okc (ok_cmp_ge (off := 62) (by decide +kernel) rfl rfl) (
    okc (ok_iload (by decide +kernel) rfl) (
    okc (ok_iconst (n := 4) (by decide +kernel) rfl rfl) (
    okc (ok_cmp_ge (off := 7) (by decide +kernel) rfl rfl) (
    okc (ok_iload_n (k := 1) (by decide +kernel) rfl rfl) (
    okc (ok_goto (off := 15) (by decide +kernel) rfl) (
    okc (ok_iload (by decide +kernel) rfl) (
    okc (ok_bipush (n := 8) (by decide +kernel) (by decide +kernel) rfl) (
    okc (ok_cmp_ge (off := 7) (by decide +kernel) rfl rfl) (
    okc (ok_iload_n (k := 2) (by decide +kernel) rfl rfl) (
    okc (ok_goto (off := 4) (by decide +kernel) rfl) (
    okc (ok_iload_n (k := 3) (by decide +kernel) rfl rfl) (
    okc (ok_istore (by decide +kernel) rfl) (
    okc (ok_aload_n (k := 0) (by decide +kernel) rfl rfl) (
    okc (ok_getR (k := 8) (idx := 31) cX9_ok (by decide) (by decide +kernel) w_999 (by decide +kernel) rfl) (
    okc (ok_aload_n (k := 0) (by decide +kernel) rfl rfl) (
    okc (ok_getI (k := 9) (idx := 197) cX9_ok (by decide) (by decide +kernel) w_1000 (by decide +kernel) rfl) (
    okc (ok_iload (by decide +kernel) rfl) (
    okc (ok_iadd (by decide +kernel) rfl) (
    okc (ok_iload (by decide +kernel) rfl) (
    okc (ok_bipush (n := 24) (by decide +kernel) (by decide +kernel) rfl) (
    okc (ok_bipush (n := 8) (by decide +kernel) (by decide +kernel) rfl) (
    okc (ok_iload (by decide +kernel) rfl) (
    okc (ok_iconst (n := 4) (by decide +kernel) rfl rfl) (
    okc (ok_irem (by decide +kernel) rfl) (
    okc (ok_imul (by decide +kernel) rfl) (
    okc (ok_isub (by decide +kernel) rfl) (
    okc (ok_ishr (by decide +kernel) rfl) (
    okc (ok_sipush (n := 255) (by decide +kernel) (by decide +kernel) rfl) (
    okc (ok_iand (by decide +kernel) rfl) (
    okc (ok_iast (by decide +kernel) rfl) (
    okc (ok_iinc (n := 1) (by decide +kernel) rfl rfl) (
    okc (ok_goto (off := -63) (by decide +kernel) rfl) (
    okc (ok_aload_n (k := 0) (by decide +kernel) rfl rfl) (
    okc (ok_dup (by decide +kernel) rfl) (
    okc (ok_getI (k := 9) (idx := 197) cX9_ok (by decide) (by decide +kernel) w_1000 (by decide +kernel) rfl) (
    okc (ok_bipush (n := 12) (by decide +kernel) (by decide +kernel) rfl) (
    okc (ok_iadd (by decide +kernel) rfl) (
    okc (ok_putI (k := 9) (idx := 197) cX9_ok (by decide) rfl rfl w_1000 (by decide +kernel) rfl) (
    okc (ok_aload_n (k := 0) (by decide +kernel) rfl rfl) (
    okc (ok_getI (k := 9) (idx := 197) cX9_ok (by decide) (by decide +kernel) w_1000 (by decide +kernel) rfl) (
    okc (ok_iret rfl (by decide +kernel)) ( okn))))))))))))))))))))))))))))))))))))))))))))))))))))))
def pl_W_trim : List (Nat × mA) := [(0, a_iload 1 1), (1, a_push 0 2), (2, a_aload 0 3), (3, a_getR 8 10 3 6), (6, a_getI 5 2 1 9), (9, a_call 94 3 12), (12, a_if (fun x => decide (x ≠ 0)) 18 15), (15, a_push (-1000000001) 17), (17, a_iret), (18, a_aload 0 19), (19, a_getR 8 10 3 22), (22, a_iload 1 23), (23, a_putI 5 2 1 26), (26, a_iload 1 27), (27, a_iret)]
set_option maxRecDepth 20000 in
theorem ol_W_trim : okall B sp D cA (SPf B sp Ls xs adK adV) MT ⟨"WreckSky", "trim", "(I)I"⟩ prog_1_method_26_code 2 (Option.some Jvm.ClassFile.FieldType.int) (pl_W_trim) := by
  unfold pl_W_trim
  exact
    okc (ok_iload_n (k := 1) (by decide +kernel) rfl rfl) (
    okc (ok_iconst (n := 0) (by decide +kernel) rfl rfl) (
    okc (ok_aload_n (k := 0) (by decide +kernel) rfl rfl) (
    okc (ok_getR (k := 3) (idx := 29) cX8_ok (by decide) (by decide +kernel) w_316 (by decide +kernel) rfl) (
    okc (ok_getI (k := 1) (idx := 251) cX5_ok (by decide) (by decide +kernel) w_217 (by decide +kernel) rfl) (
    okc (ok_callS (SPf_ok _ _ _ _ _ _) (mi := 94) (n := 3) (idx := 72) rfl m_W_within (by decide) w_351 w_352 (by decide +kernel) rfl) (
    okc (ok_if_ne (off := 6) (by decide +kernel) rfl rfl) (
    okc (ok_ldc (i := 79) w_357 (by decide +kernel) rfl) (
    okc (ok_iret rfl (by decide +kernel)) (
    okc (ok_aload_n (k := 0) (by decide +kernel) rfl rfl) (
    okc (ok_getR (k := 3) (idx := 29) cX8_ok (by decide) (by decide +kernel) w_316 (by decide +kernel) rfl) (
    okc (ok_iload_n (k := 1) (by decide +kernel) rfl rfl) (
    okc (ok_putI (k := 1) (idx := 251) cX5_ok (by decide) rfl rfl w_217 (by decide +kernel) rfl) (
    okc (ok_iload_n (k := 1) (by decide +kernel) rfl rfl) (
    okc (ok_iret rfl (by decide +kernel)) ( okn)))))))))))))))
def pl_M_trim : List (Nat × mA) := [(0, a_iload 1 1), (1, a_push 0 2), (2, a_aload 0 3), (3, a_getI 9 36 9 6), (6, a_call 97 3 9), (9, a_if (fun x => decide (x ≠ 0)) 15 12), (12, a_push (-1000000001) 14), (14, a_iret), (15, a_aload 0 16), (16, a_iload 1 17), (17, a_putI 9 36 9 20), (20, a_iload 1 21), (21, a_iret)]
set_option maxRecDepth 20000 in
theorem ol_M_trim : okall B sp D cA (SPf B sp Ls xs adK adV) MT ⟨"WreckSkyModel", "trim", "(I)I"⟩ prog_11_method_56_code 2 (Option.some Jvm.ClassFile.FieldType.int) (pl_M_trim) := by
  unfold pl_M_trim
  exact
    okc (ok_iload_n (k := 1) (by decide +kernel) rfl rfl) (
    okc (ok_iconst (n := 0) (by decide +kernel) rfl rfl) (
    okc (ok_aload_n (k := 0) (by decide +kernel) rfl rfl) (
    okc (ok_getI (k := 9) (idx := 197) cX9_ok (by decide) (by decide +kernel) w_1000 (by decide +kernel) rfl) (
    okc (ok_callS (SPf_ok _ _ _ _ _ _) (mi := 97) (n := 3) (idx := 84) rfl m_M_in (by decide) w_1106 w_1107 (by decide +kernel) rfl) (
    okc (ok_if_ne (off := 6) (by decide +kernel) rfl rfl) (
    okc (ok_ldc (i := 100) w_1112 (by decide +kernel) rfl) (
    okc (ok_iret rfl (by decide +kernel)) (
    okc (ok_aload_n (k := 0) (by decide +kernel) rfl rfl) (
    okc (ok_iload_n (k := 1) (by decide +kernel) rfl rfl) (
    okc (ok_putI (k := 9) (idx := 197) cX9_ok (by decide) rfl rfl w_1000 (by decide +kernel) rfl) (
    okc (ok_iload_n (k := 1) (by decide +kernel) rfl rfl) (
    okc (ok_iret rfl (by decide +kernel)) ( okn)))))))))))))
def pl_W_text : List (Nat × mA) := [(0, a_aload 0 1), (1, a_getR 8 10 4 4), (4, a_callO 1 10 155 0 7), (7, a_astore 1 8), (8, a_aload 0 9), (9, a_getR 8 10 3 12), (12, a_push 0 13), (13, a_putI 5 2 1 16), (16, a_aload 1 17), (17, a_nonnull 31 20), (20, a_push (-100) 22), (22, a_aload 0 23), (23, a_getR 8 10 4 26), (26, a_getI 1 10 9 29), (29, a_bin (fun x y => x - y) 30), (30, a_iret), (31, a_aload 0 32), (32, a_getR 8 10 0 35), (35, a_aload 1 36), (36, a_callO 3 11 156 1 39), (39, a_if (fun x => decide (x = 0)) 54 42), (42, a_aload 0 43), (43, a_getR 8 10 0 46), (46, a_getI 3 11 4 49), (49, a_push 1 50), (50, a_bin (fun x y => x - y) 51), (51, a_goto 56), (54, a_push (-1000000003) 56), (56, a_iret)]
set_option maxRecDepth 20000 in
theorem ol_W_text : okall B sp D cA (SPf B sp Ls xs adK adV) MT ⟨"WreckSky", "text", "()I"⟩ prog_1_method_27_code 2 (Option.some Jvm.ClassFile.FieldType.int) (pl_W_text) := by
  unfold pl_W_text
  exact
    okc (ok_aload_n (k := 0) (by decide +kernel) rfl rfl) (
    okc (ok_getR (k := 4) (idx := 38) cX8_ok (by decide) (by decide +kernel) w_317 (by decide +kernel) rfl) (
    okc (ok_callV (SPf_ok _ _ _ _ _ _) (mi := 155) (n := 0) (idx := 254) rfl m_R_readTape (by decide) cX1_ok w_683 w_684 w_685 (by decide +kernel) rfl) (
    okc (ok_astore_n (k := 1) (by decide +kernel) rfl rfl) (
    okc (ok_aload_n (k := 0) (by decide +kernel) rfl rfl) (
    okc (ok_getR (k := 3) (idx := 29) cX8_ok (by decide) (by decide +kernel) w_316 (by decide +kernel) rfl) (
    okc (ok_iconst (n := 0) (by decide +kernel) rfl rfl) (
    okc (ok_putI (k := 1) (idx := 251) cX5_ok (by decide) rfl rfl w_217 (by decide +kernel) rfl) (
    okc (ok_aload_n (k := 1) (by decide +kernel) rfl rfl) (
    okc (ok_nonnull (off := 14) (by decide +kernel) rfl rfl) (
    okc (ok_bipush (n := -100) (by decide +kernel) (by decide +kernel) rfl) (
    okc (ok_aload_n (k := 0) (by decide +kernel) rfl rfl) (
    okc (ok_getR (k := 4) (idx := 38) cX8_ok (by decide) (by decide +kernel) w_317 (by decide +kernel) rfl) (
    okc (ok_getI (k := 9) (idx := 258) cX1_ok (by decide) (by decide +kernel) w_240 (by decide +kernel) rfl) (
    okc (ok_isub (by decide +kernel) rfl) (
    okc (ok_iret rfl (by decide +kernel)) (
    okc (ok_aload_n (k := 0) (by decide +kernel) rfl rfl) (
    okc (ok_getR (k := 0) (idx := 10) cX8_ok (by decide) (by decide +kernel) w_313 (by decide +kernel) rfl) (
    okc (ok_aload_n (k := 1) (by decide +kernel) rfl rfl) (
    okc (ok_callV (SPf_ok _ _ _ _ _ _) (mi := 156) (n := 1) (idx := 261) rfl m_S_addText (by decide) cX3_ok w_877 w_878 w_879 (by decide +kernel) rfl) (
    okc (ok_if_eq (off := 15) (by decide +kernel) rfl rfl) (
    okc (ok_aload_n (k := 0) (by decide +kernel) rfl rfl) (
    okc (ok_getR (k := 0) (idx := 10) cX8_ok (by decide) (by decide +kernel) w_313 (by decide +kernel) rfl) (
    okc (ok_getI (k := 4) (idx := 265) cX3_ok (by decide) (by decide +kernel) w_145 (by decide +kernel) rfl) (
    okc (ok_iconst (n := 1) (by decide +kernel) rfl rfl) (
    okc (ok_isub (by decide +kernel) rfl) (
    okc (ok_goto (off := 5) (by decide +kernel) rfl) (
    okc (ok_ldc (i := 87) w_362 (by decide +kernel) rfl) (
    okc (ok_iret rfl (by decide +kernel)) ( okn)))))))))))))))))))))))))))))
def pl_M_text_1 : List (Nat × mA) := [(0, a_aload 0 1), (1, a_push 0 2), (2, a_putI 9 36 10 5), (5, a_aload 0 6), (6, a_push (-1) 7), (7, a_putI 9 36 14 10), (10, a_aload 0 11), (11, a_callO 9 36 157 0 14), (14, a_aload 0 15), (15, a_callO 9 36 158 0 18), (18, a_if (fun x => decide (x = 0)) 32 21), (21, a_aload 0 22), (22, a_callO 9 36 159 0 25), (25, a_if (fun x => decide (x = 0)) 32 28), (28, a_push 1 29), (29, a_goto 33), (32, a_push 0 33), (33, a_istore 1 34), (34, a_aload 0 35), (35, a_push 0 36), (36, a_putI 9 36 9 39), (39, a_iload 1 40), (40, a_if (fun x => decide (x ≠ 0)) 51 43), (43, a_push (-100) 45), (45, a_aload 0 46), (46, a_getI 9 36 11 49), (49, a_bin (fun x y => x - y) 50), (50, a_iret), (51, a_aload 0 52), (52, a_getR 9 36 0 55), (55, a_push 7 57), (57, a_ald 0 58), (58, a_push 14 60), (60, a_cmp (fun x y => decide (x ≠ y)) 66 63), (63, a_push (-1000000003) 65), (65, a_iret), (66, a_aload 0 67), (67, a_getR 9 36 0 70), (70, a_push 7 72), (72, a_ald 0 73), (73, a_istore 2 74), (74, a_aload 0 75), (75, a_getR 9 36 0 78), (78, a_push 92 80), (80, a_push 2 81), (81, a_iload 2 82), (82, a_bin (fun x y => x * y) 83), (83, a_bin (fun x y => x + y) 84), (84, a_push 1000 87), (87, a_aload 0 88), (88, a_getI 9 36 15 91), (91, a_bin (fun x y => x * y) 92), (92, a_aload 0 93), (93, a_getI 9 36 19 96), (96, a_bin (fun x y => x + y) 97), (97, a_ast 0 (fun x => x) 98), (98, a_aload 0 99), (99, a_getR 9 36 0 102), (102, a_push 92 104), (104, a_push 2 105)]
set_option maxRecDepth 20000 in
theorem ol_M_text_1 : okall B sp D cA (SPf B sp Ls xs adK adV) MT ⟨"WreckSkyModel", "text", "()I"⟩ prog_11_method_68_code 4 (Option.some Jvm.ClassFile.FieldType.int) (pl_M_text_1) := by
  unfold pl_M_text_1
  exact
    okc (ok_aload_n (k := 0) (by decide +kernel) rfl rfl) (
    okc (ok_iconst (n := 0) (by decide +kernel) rfl rfl) (
    okc (ok_putI (k := 10) (idx := 201) cX9_ok (by decide) rfl rfl w_1001 (by decide +kernel) rfl) (
    okc (ok_aload_n (k := 0) (by decide +kernel) rfl rfl) (
    okc (ok_iconst (n := -1) (by decide +kernel) rfl rfl) (
    okc (ok_putI (k := 14) (idx := 207) cX9_ok (by decide) rfl rfl w_1005 (by decide +kernel) rfl) (
    okc (ok_aload_n (k := 0) (by decide +kernel) rfl rfl) (
    okc (ok_callV (SPf_ok _ _ _ _ _ _) (mi := 157) (n := 0) (idx := 225) rfl m_M_go (by decide) cX9_ok w_1337 w_1339 w_45 (by decide +kernel) rfl) (
    okc (ok_aload_n (k := 0) (by decide +kernel) rfl rfl) (
    okc (ok_callV (SPf_ok _ _ _ _ _ _) (mi := 158) (n := 0) (idx := 256) rfl m_M_takesKey (by decide) cX9_ok w_1349 w_1351 w_48 (by decide +kernel) rfl) (
    okc (ok_if_eq (off := 14) (by decide +kernel) rfl rfl) (
    okc (ok_aload_n (k := 0) (by decide +kernel) rfl rfl) (
    okc (ok_callV (SPf_ok _ _ _ _ _ _) (mi := 159) (n := 0) (idx := 259) rfl m_M_takesE (by decide) cX9_ok w_1353 w_1355 w_49 (by decide +kernel) rfl) (
    okc (ok_if_eq (off := 7) (by decide +kernel) rfl rfl) (
    okc (ok_iconst (n := 1) (by decide +kernel) rfl rfl) (
    okc (ok_goto (off := 4) (by decide +kernel) rfl) (
    okc (ok_iconst (n := 0) (by decide +kernel) rfl rfl) (
    okc (ok_istore_n (k := 1) (by decide +kernel) rfl rfl) (
    okc (ok_aload_n (k := 0) (by decide +kernel) rfl rfl) (
    okc (ok_iconst (n := 0) (by decide +kernel) rfl rfl) (
    okc (ok_putI (k := 9) (idx := 197) cX9_ok (by decide) rfl rfl w_1000 (by decide +kernel) rfl) (
    okc (ok_iload_n (k := 1) (by decide +kernel) rfl rfl) (
    okc (ok_if_ne (off := 11) (by decide +kernel) rfl rfl) (
    okc (ok_bipush (n := -100) (by decide +kernel) (by decide +kernel) rfl) (
    okc (ok_aload_n (k := 0) (by decide +kernel) rfl rfl) (
    okc (ok_getI (k := 11) (idx := 204) cX9_ok (by decide) (by decide +kernel) w_1002 (by decide +kernel) rfl) (
    okc (ok_isub (by decide +kernel) rfl) (
    okc (ok_iret rfl (by decide +kernel)) (
    okc (ok_aload_n (k := 0) (by decide +kernel) rfl rfl) (
    okc (ok_getR (k := 0) (idx := 9) cX9_ok (by decide) (by decide +kernel) w_991 (by decide +kernel) rfl) (
    okc (ok_bipush (n := 7) (by decide +kernel) (by decide +kernel) rfl) (
    okc (ok_iald (by decide +kernel) rfl) (
    okc (ok_bipush (n := 14) (by decide +kernel) (by decide +kernel) rfl) (
    okc (ok_cmp_ne (off := 6) (by decide +kernel) rfl rfl) (
    okc (ok_ldc (i := 101) w_1113 (by decide +kernel) rfl) (
    okc (ok_iret rfl (by decide +kernel)) (
    okc (ok_aload_n (k := 0) (by decide +kernel) rfl rfl) (
    okc (ok_getR (k := 0) (idx := 9) cX9_ok (by decide) (by decide +kernel) w_991 (by decide +kernel) rfl) (
    okc (ok_bipush (n := 7) (by decide +kernel) (by decide +kernel) rfl) (
    okc (ok_iald (by decide +kernel) rfl) (
    okc (ok_istore_n (k := 2) (by decide +kernel) rfl rfl) (
    okc (ok_aload_n (k := 0) (by decide +kernel) rfl rfl) (
    okc (ok_getR (k := 0) (idx := 9) cX9_ok (by decide) (by decide +kernel) w_991 (by decide +kernel) rfl) (
    okc (ok_bipush (n := 92) (by decide +kernel) (by decide +kernel) rfl) (
    okc (ok_iconst (n := 2) (by decide +kernel) rfl rfl) (
    okc (ok_iload_n (k := 2) (by decide +kernel) rfl rfl) (
    okc (ok_imul (by decide +kernel) rfl) (
    okc (ok_iadd (by decide +kernel) rfl) (
    okc (ok_sipush (n := 1000) (by decide +kernel) (by decide +kernel) rfl) (
    okc (ok_aload_n (k := 0) (by decide +kernel) rfl rfl) (
    okc (ok_getI (k := 15) (idx := 222) cX9_ok (by decide) (by decide +kernel) w_1006 (by decide +kernel) rfl) (
    okc (ok_imul (by decide +kernel) rfl) (
    okc (ok_aload_n (k := 0) (by decide +kernel) rfl rfl) (
    okc (ok_getI (k := 19) (idx := 234) cX9_ok (by decide) (by decide +kernel) w_1010 (by decide +kernel) rfl) (
    okc (ok_iadd (by decide +kernel) rfl) (
    okc (ok_iast (by decide +kernel) rfl) (
    okc (ok_aload_n (k := 0) (by decide +kernel) rfl rfl) (
    okc (ok_getR (k := 0) (idx := 9) cX9_ok (by decide) (by decide +kernel) w_991 (by decide +kernel) rfl) (
    okc (ok_bipush (n := 92) (by decide +kernel) (by decide +kernel) rfl) (
    okc (ok_iconst (n := 2) (by decide +kernel) rfl rfl) ( okn))))))))))))))))))))))))))))))))))))))))))))))))))))))))))))
def pl_M_text_2 : List (Nat × mA) := [(105, a_iload 2 106), (106, a_bin (fun x y => x * y) 107), (107, a_bin (fun x y => x + y) 108), (108, a_push 1 109), (109, a_bin (fun x y => x + y) 110), (110, a_aload 0 111), (111, a_getI 9 36 20 114), (114, a_ast 0 (fun x => x) 115), (115, a_push 0 116), (116, a_istore 3 117), (117, a_iload 3 118), (118, a_aload 0 119), (119, a_getI 9 36 19 122), (122, a_cmp (fun x y => decide (y ≤ x)) 151 125), (125, a_aload 0 126), (126, a_getR 9 36 0 129), (129, a_push 120 131), (131, a_push 96 133), (133, a_iload 2 134), (134, a_bin (fun x y => x * y) 135), (135, a_bin (fun x y => x + y) 136), (136, a_iload 3 137), (137, a_bin (fun x y => x + y) 138), (138, a_aload 0 139), (139, a_getR 9 36 18 142), (142, a_iload 3 143), (143, a_ald 0 144), (144, a_ast 0 (fun x => x) 145), (145, a_iinc 3 1 148), (148, a_goto 117), (151, a_aload 0 152), (152, a_getR 9 36 0 155), (155, a_push 7 157), (157, a_dup2 158), (158, a_ald 0 159), (159, a_push 1 160), (160, a_bin (fun x y => x + y) 161), (161, a_ast 0 (fun x => x) 162), (162, a_iload 2 163), (163, a_iret)]
set_option maxRecDepth 20000 in
theorem ol_M_text_2 : okall B sp D cA (SPf B sp Ls xs adK adV) MT ⟨"WreckSkyModel", "text", "()I"⟩ prog_11_method_68_code 4 (Option.some Jvm.ClassFile.FieldType.int) (pl_M_text_2) := by
  unfold pl_M_text_2
  exact
    okc (ok_iload_n (k := 2) (by decide +kernel) rfl rfl) (
    okc (ok_imul (by decide +kernel) rfl) (
    okc (ok_iadd (by decide +kernel) rfl) (
    okc (ok_iconst (n := 1) (by decide +kernel) rfl rfl) (
    okc (ok_iadd (by decide +kernel) rfl) (
    okc (ok_aload_n (k := 0) (by decide +kernel) rfl rfl) (
    okc (ok_getI (k := 20) (idx := 240) cX9_ok (by decide) (by decide +kernel) w_1011 (by decide +kernel) rfl) (
    okc (ok_iast (by decide +kernel) rfl) (
    okc (ok_iconst (n := 0) (by decide +kernel) rfl rfl) (
    okc (ok_istore_n (k := 3) (by decide +kernel) rfl rfl) (
    okc (ok_iload_n (k := 3) (by decide +kernel) rfl rfl) (
    okc (ok_aload_n (k := 0) (by decide +kernel) rfl rfl) (
    okc (ok_getI (k := 19) (idx := 234) cX9_ok (by decide) (by decide +kernel) w_1010 (by decide +kernel) rfl) (
    okc (ok_cmp_ge (off := 29) (by decide +kernel) rfl rfl) (
    okc (ok_aload_n (k := 0) (by decide +kernel) rfl rfl) (
    okc (ok_getR (k := 0) (idx := 9) cX9_ok (by decide) (by decide +kernel) w_991 (by decide +kernel) rfl) (
    okc (ok_bipush (n := 120) (by decide +kernel) (by decide +kernel) rfl) (
    okc (ok_bipush (n := 96) (by decide +kernel) (by decide +kernel) rfl) (
    okc (ok_iload_n (k := 2) (by decide +kernel) rfl rfl) (
    okc (ok_imul (by decide +kernel) rfl) (
    okc (ok_iadd (by decide +kernel) rfl) (
    okc (ok_iload_n (k := 3) (by decide +kernel) rfl rfl) (
    okc (ok_iadd (by decide +kernel) rfl) (
    okc (ok_aload_n (k := 0) (by decide +kernel) rfl rfl) (
    okc (ok_getR (k := 18) (idx := 41) cX9_ok (by decide) (by decide +kernel) w_1009 (by decide +kernel) rfl) (
    okc (ok_iload_n (k := 3) (by decide +kernel) rfl rfl) (
    okc (ok_iald (by decide +kernel) rfl) (
    okc (ok_iast (by decide +kernel) rfl) (
    okc (ok_iinc (n := 1) (by decide +kernel) rfl rfl) (
    okc (ok_goto (off := -31) (by decide +kernel) rfl) (
    okc (ok_aload_n (k := 0) (by decide +kernel) rfl rfl) (
    okc (ok_getR (k := 0) (idx := 9) cX9_ok (by decide) (by decide +kernel) w_991 (by decide +kernel) rfl) (
    okc (ok_bipush (n := 7) (by decide +kernel) (by decide +kernel) rfl) (
    okc (ok_dup2 (by decide +kernel) rfl) (
    okc (ok_iald (by decide +kernel) rfl) (
    okc (ok_iconst (n := 1) (by decide +kernel) rfl rfl) (
    okc (ok_iadd (by decide +kernel) rfl) (
    okc (ok_iast (by decide +kernel) rfl) (
    okc (ok_iload_n (k := 2) (by decide +kernel) rfl rfl) (
    okc (ok_iret rfl (by decide +kernel)) ( okn))))))))))))))))))))))))))))))))))))))))
def pl_M_text : List (Nat × mA) := pl_M_text_1 ++ (pl_M_text_2)
theorem ol_M_text : okall B sp D cA (SPf B sp Ls xs adK adV) MT ⟨"WreckSkyModel", "text", "()I"⟩ prog_11_method_68_code 4 (Option.some Jvm.ClassFile.FieldType.int) (pl_M_text) := oka ol_M_text_1 (ol_M_text_2)
def pl_W_textTold : List (Nat × mA) := [(0, a_iload 1 1), (1, a_push 0 2), (2, a_aload 0 3), (3, a_getR 8 10 0 6), (6, a_getI 3 11 4 9), (9, a_push 1 10), (10, a_bin (fun x y => x - y) 11), (11, a_call 94 3 14), (14, a_if (fun x => decide (x = 0)) 26 17), (17, a_iload 2 18), (18, a_push 0 19), (19, a_push 1 20), (20, a_call 94 3 23), (23, a_if (fun x => decide (x ≠ 0)) 29 26), (26, a_push (-1000000001) 28), (28, a_iret), (29, a_iload 2 30), (30, a_if (fun x => decide (x ≠ 0)) 48 33), (33, a_aload 0 34), (34, a_getR 8 10 0 37), (37, a_getR 3 11 1 40), (40, a_iload 1 41), (41, a_aald 5 42), (42, a_getI 6 3 0 45), (45, a_goto 60), (48, a_aload 0 49), (49, a_getR 8 10 0 52), (52, a_getR 3 11 1 55), (55, a_iload 1 56), (56, a_aald 5 57), (57, a_getI 6 3 1 60), (60, a_iret)]
set_option maxRecDepth 20000 in
theorem ol_W_textTold : okall B sp D cA (SPf B sp Ls xs adK adV) MT ⟨"WreckSky", "textTold", "(II)I"⟩ prog_1_method_28_code 3 (Option.some Jvm.ClassFile.FieldType.int) (pl_W_textTold) := by
  unfold pl_W_textTold
  exact
    okc (ok_iload_n (k := 1) (by decide +kernel) rfl rfl) (
    okc (ok_iconst (n := 0) (by decide +kernel) rfl rfl) (
    okc (ok_aload_n (k := 0) (by decide +kernel) rfl rfl) (
    okc (ok_getR (k := 0) (idx := 10) cX8_ok (by decide) (by decide +kernel) w_313 (by decide +kernel) rfl) (
    okc (ok_getI (k := 4) (idx := 265) cX3_ok (by decide) (by decide +kernel) w_145 (by decide +kernel) rfl) (
    okc (ok_iconst (n := 1) (by decide +kernel) rfl rfl) (
    okc (ok_isub (by decide +kernel) rfl) (
    okc (ok_callS (SPf_ok _ _ _ _ _ _) (mi := 94) (n := 3) (idx := 72) rfl m_W_within (by decide) w_351 w_352 (by decide +kernel) rfl) (
    okc (ok_if_eq (off := 12) (by decide +kernel) rfl rfl) (
    okc (ok_iload_n (k := 2) (by decide +kernel) rfl rfl) (
    okc (ok_iconst (n := 0) (by decide +kernel) rfl rfl) (
    okc (ok_iconst (n := 1) (by decide +kernel) rfl rfl) (
    okc (ok_callS (SPf_ok _ _ _ _ _ _) (mi := 94) (n := 3) (idx := 72) rfl m_W_within (by decide) w_351 w_352 (by decide +kernel) rfl) (
    okc (ok_if_ne (off := 6) (by decide +kernel) rfl rfl) (
    okc (ok_ldc (i := 79) w_357 (by decide +kernel) rfl) (
    okc (ok_iret rfl (by decide +kernel)) (
    okc (ok_iload_n (k := 2) (by decide +kernel) rfl rfl) (
    okc (ok_if_ne (off := 18) (by decide +kernel) rfl rfl) (
    okc (ok_aload_n (k := 0) (by decide +kernel) rfl rfl) (
    okc (ok_getR (k := 0) (idx := 10) cX8_ok (by decide) (by decide +kernel) w_313 (by decide +kernel) rfl) (
    okc (ok_getR (k := 1) (idx := 234) cX3_ok (by decide) (by decide +kernel) w_138 (by decide +kernel) rfl) (
    okc (ok_iload_n (k := 1) (by decide +kernel) rfl rfl) (
    okc (ok_aald (C := "WreckSky$Text") (by decide) (fun _ => rfl) (by decide +kernel) rfl) (
    okc (ok_getI (k := 0) (idx := 268) cX6_ok (by decide) (by decide +kernel) w_866 (by decide +kernel) rfl) (
    okc (ok_goto (off := 15) (by decide +kernel) rfl) (
    okc (ok_aload_n (k := 0) (by decide +kernel) rfl rfl) (
    okc (ok_getR (k := 0) (idx := 10) cX8_ok (by decide) (by decide +kernel) w_313 (by decide +kernel) rfl) (
    okc (ok_getR (k := 1) (idx := 234) cX3_ok (by decide) (by decide +kernel) w_138 (by decide +kernel) rfl) (
    okc (ok_iload_n (k := 1) (by decide +kernel) rfl rfl) (
    okc (ok_aald (C := "WreckSky$Text") (by decide) (fun _ => rfl) (by decide +kernel) rfl) (
    okc (ok_getI (k := 1) (idx := 271) cX6_ok (by decide) (by decide +kernel) w_868 (by decide +kernel) rfl) (
    okc (ok_iret rfl (by decide +kernel)) ( okn))))))))))))))))))))))))))))))))
def pl_M_textTold : List (Nat × mA) := [(0, a_iload 1 1), (1, a_push 0 2), (2, a_aload 0 3), (3, a_getR 9 36 0 6), (6, a_push 7 8), (8, a_ald 0 9), (9, a_push 1 10), (10, a_bin (fun x y => x - y) 11), (11, a_call 97 3 14), (14, a_if (fun x => decide (x = 0)) 26 17), (17, a_iload 2 18), (18, a_push 0 19), (19, a_push 1 20), (20, a_call 97 3 23), (23, a_if (fun x => decide (x ≠ 0)) 29 26), (26, a_push (-1000000001) 28), (28, a_iret), (29, a_iload 2 30), (30, a_if (fun x => decide (x ≠ 0)) 51 33), (33, a_aload 0 34), (34, a_getR 9 36 0 37), (37, a_push 92 39), (39, a_push 2 40), (40, a_iload 1 41), (41, a_bin (fun x y => x * y) 42), (42, a_bin (fun x y => x + y) 43), (43, a_ald 0 44), (44, a_push 1000 47), (47, a_div (fun x y => x / y) 48), (48, a_goto 64), (51, a_aload 0 52), (52, a_getR 9 36 0 55), (55, a_push 92 57), (57, a_push 2 58), (58, a_iload 1 59), (59, a_bin (fun x y => x * y) 60), (60, a_bin (fun x y => x + y) 61), (61, a_push 1 62), (62, a_bin (fun x y => x + y) 63), (63, a_ald 0 64), (64, a_iret)]
set_option maxRecDepth 20000 in
theorem ol_M_textTold : okall B sp D cA (SPf B sp Ls xs adK adV) MT ⟨"WreckSkyModel", "textTold", "(II)I"⟩ prog_11_method_69_code 3 (Option.some Jvm.ClassFile.FieldType.int) (pl_M_textTold) := by
  unfold pl_M_textTold
  exact
    okc (ok_iload_n (k := 1) (by decide +kernel) rfl rfl) (
    okc (ok_iconst (n := 0) (by decide +kernel) rfl rfl) (
    okc (ok_aload_n (k := 0) (by decide +kernel) rfl rfl) (
    okc (ok_getR (k := 0) (idx := 9) cX9_ok (by decide) (by decide +kernel) w_991 (by decide +kernel) rfl) (
    okc (ok_bipush (n := 7) (by decide +kernel) (by decide +kernel) rfl) (
    okc (ok_iald (by decide +kernel) rfl) (
    okc (ok_iconst (n := 1) (by decide +kernel) rfl rfl) (
    okc (ok_isub (by decide +kernel) rfl) (
    okc (ok_callS (SPf_ok _ _ _ _ _ _) (mi := 97) (n := 3) (idx := 84) rfl m_M_in (by decide) w_1106 w_1107 (by decide +kernel) rfl) (
    okc (ok_if_eq (off := 12) (by decide +kernel) rfl rfl) (
    okc (ok_iload_n (k := 2) (by decide +kernel) rfl rfl) (
    okc (ok_iconst (n := 0) (by decide +kernel) rfl rfl) (
    okc (ok_iconst (n := 1) (by decide +kernel) rfl rfl) (
    okc (ok_callS (SPf_ok _ _ _ _ _ _) (mi := 97) (n := 3) (idx := 84) rfl m_M_in (by decide) w_1106 w_1107 (by decide +kernel) rfl) (
    okc (ok_if_ne (off := 6) (by decide +kernel) rfl rfl) (
    okc (ok_ldc (i := 100) w_1112 (by decide +kernel) rfl) (
    okc (ok_iret rfl (by decide +kernel)) (
    okc (ok_iload_n (k := 2) (by decide +kernel) rfl rfl) (
    okc (ok_if_ne (off := 21) (by decide +kernel) rfl rfl) (
    okc (ok_aload_n (k := 0) (by decide +kernel) rfl rfl) (
    okc (ok_getR (k := 0) (idx := 9) cX9_ok (by decide) (by decide +kernel) w_991 (by decide +kernel) rfl) (
    okc (ok_bipush (n := 92) (by decide +kernel) (by decide +kernel) rfl) (
    okc (ok_iconst (n := 2) (by decide +kernel) rfl rfl) (
    okc (ok_iload_n (k := 1) (by decide +kernel) rfl rfl) (
    okc (ok_imul (by decide +kernel) rfl) (
    okc (ok_iadd (by decide +kernel) rfl) (
    okc (ok_iald (by decide +kernel) rfl) (
    okc (ok_sipush (n := 1000) (by decide +kernel) (by decide +kernel) rfl) (
    okc (ok_idiv (by decide +kernel) rfl) (
    okc (ok_goto (off := 16) (by decide +kernel) rfl) (
    okc (ok_aload_n (k := 0) (by decide +kernel) rfl rfl) (
    okc (ok_getR (k := 0) (idx := 9) cX9_ok (by decide) (by decide +kernel) w_991 (by decide +kernel) rfl) (
    okc (ok_bipush (n := 92) (by decide +kernel) (by decide +kernel) rfl) (
    okc (ok_iconst (n := 2) (by decide +kernel) rfl rfl) (
    okc (ok_iload_n (k := 1) (by decide +kernel) rfl rfl) (
    okc (ok_imul (by decide +kernel) rfl) (
    okc (ok_iadd (by decide +kernel) rfl) (
    okc (ok_iconst (n := 1) (by decide +kernel) rfl rfl) (
    okc (ok_iadd (by decide +kernel) rfl) (
    okc (ok_iald (by decide +kernel) rfl) (
    okc (ok_iret rfl (by decide +kernel)) ( okn)))))))))))))))))))))))))))))))))))))))))
def pl_W_why : List (Nat × mA) := [(0, a_iload 1 1), (1, a_push 0 2), (2, a_push 2 3), (3, a_call 94 3 6), (6, a_if (fun x => decide (x ≠ 0)) 12 9), (9, a_push (-1000000001) 11), (11, a_iret), (12, a_aload 0 13), (13, a_getR 8 10 0 16), (16, a_iload 1 17), (17, a_callO 3 11 149 1 20), (20, a_istore 2 21), (21, a_iload 2 22), (22, a_if (fun x => decide (0 ≤ x)) 31 25), (25, a_push (-1000000005) 28), (28, a_goto 32), (31, a_iload 2 32), (32, a_iret)]
set_option maxRecDepth 20000 in
theorem ol_W_why : okall B sp D cA (SPf B sp Ls xs adK adV) MT ⟨"WreckSky", "why", "(I)I"⟩ prog_1_method_29_code 3 (Option.some Jvm.ClassFile.FieldType.int) (pl_W_why) := by
  unfold pl_W_why
  exact
    okc (ok_iload_n (k := 1) (by decide +kernel) rfl rfl) (
    okc (ok_iconst (n := 0) (by decide +kernel) rfl rfl) (
    okc (ok_iconst (n := 2) (by decide +kernel) rfl rfl) (
    okc (ok_callS (SPf_ok _ _ _ _ _ _) (mi := 94) (n := 3) (idx := 72) rfl m_W_within (by decide) w_351 w_352 (by decide +kernel) rfl) (
    okc (ok_if_ne (off := 6) (by decide +kernel) rfl rfl) (
    okc (ok_ldc (i := 79) w_357 (by decide +kernel) rfl) (
    okc (ok_iret rfl (by decide +kernel)) (
    okc (ok_aload_n (k := 0) (by decide +kernel) rfl rfl) (
    okc (ok_getR (k := 0) (idx := 10) cX8_ok (by decide) (by decide +kernel) w_313 (by decide +kernel) rfl) (
    okc (ok_iload_n (k := 1) (by decide +kernel) rfl rfl) (
    okc (ok_callV (SPf_ok _ _ _ _ _ _) (mi := 149) (n := 1) (idx := 231) rfl m_S_textFor (by decide) cX3_ok w_657 w_377 w_378 (by decide +kernel) rfl) (
    okc (ok_istore_n (k := 2) (by decide +kernel) rfl rfl) (
    okc (ok_iload_n (k := 2) (by decide +kernel) rfl rfl) (
    okc (ok_if_ge (off := 9) (by decide +kernel) rfl rfl) (
    okc (ok_ldc_w (i := 274) w_889 (by decide +kernel) rfl) (
    okc (ok_goto (off := 4) (by decide +kernel) rfl) (
    okc (ok_iload_n (k := 2) (by decide +kernel) rfl rfl) (
    okc (ok_iret rfl (by decide +kernel)) ( okn))))))))))))))))))
def pl_M_why : List (Nat × mA) := [(0, a_iload 1 1), (1, a_push 0 2), (2, a_push 2 3), (3, a_call 97 3 6), (6, a_if (fun x => decide (x ≠ 0)) 12 9), (9, a_push (-1000000001) 11), (11, a_iret), (12, a_aload 0 13), (13, a_iload 1 14), (14, a_callO 9 36 151 1 17), (17, a_istore 2 18), (18, a_iload 2 19), (19, a_if (fun x => decide (0 ≤ x)) 27 22), (22, a_push (-1000000005) 24), (24, a_goto 28), (27, a_iload 2 28), (28, a_iret)]
set_option maxRecDepth 20000 in
theorem ol_M_why : okall B sp D cA (SPf B sp Ls xs adK adV) MT ⟨"WreckSkyModel", "why", "(I)I"⟩ prog_11_method_71_code 3 (Option.some Jvm.ClassFile.FieldType.int) (pl_M_why) := by
  unfold pl_M_why
  exact
    okc (ok_iload_n (k := 1) (by decide +kernel) rfl rfl) (
    okc (ok_iconst (n := 0) (by decide +kernel) rfl rfl) (
    okc (ok_iconst (n := 2) (by decide +kernel) rfl rfl) (
    okc (ok_callS (SPf_ok _ _ _ _ _ _) (mi := 97) (n := 3) (idx := 84) rfl m_M_in (by decide) w_1106 w_1107 (by decide +kernel) rfl) (
    okc (ok_if_ne (off := 6) (by decide +kernel) rfl rfl) (
    okc (ok_ldc (i := 100) w_1112 (by decide +kernel) rfl) (
    okc (ok_iret rfl (by decide +kernel)) (
    okc (ok_aload_n (k := 0) (by decide +kernel) rfl rfl) (
    okc (ok_iload_n (k := 1) (by decide +kernel) rfl rfl) (
    okc (ok_callV (SPf_ok _ _ _ _ _ _) (mi := 151) (n := 1) (idx := 106) rfl m_M_counts (by decide) cX9_ok w_1138 w_1140 w_25 (by decide +kernel) rfl) (
    okc (ok_istore_n (k := 2) (by decide +kernel) rfl rfl) (
    okc (ok_iload_n (k := 2) (by decide +kernel) rfl rfl) (
    okc (ok_if_ge (off := 8) (by decide +kernel) rfl rfl) (
    okc (ok_ldc (i := 177) w_1265 (by decide +kernel) rfl) (
    okc (ok_goto (off := 4) (by decide +kernel) rfl) (
    okc (ok_iload_n (k := 2) (by decide +kernel) rfl rfl) (
    okc (ok_iret rfl (by decide +kernel)) ( okn)))))))))))))))))
def pl_W_sheet : List (Nat × mA) := [(0, a_iload 1 1), (1, a_call 143 1 4), (4, a_if (fun x => decide (x = 0)) 16 7), (7, a_iload 2 8), (8, a_push (-1) 9), (9, a_push 1 10), (10, a_call 94 3 13), (13, a_if (fun x => decide (x ≠ 0)) 19 16), (16, a_push (-1000000001) 18), (18, a_iret), (19, a_iload 2 20), (20, a_push (-1) 21), (21, a_cmp (fun x y => decide (x ≠ y)) 28 24), (24, a_push 0 25), (25, a_goto 29), (28, a_iload 3 29), (29, a_istore 4 31), (31, a_iload 4 33), (33, a_push 24 35), (35, a_cmp (fun x y => decide (x ≤ y)) 41 38), (38, a_push (-1000000001) 40), (40, a_iret), (41, a_iload 4 43), (43, a_if (fun x => decide (0 ≤ x)) 50 46), (46, a_push (-1000000014) 49), (49, a_iret), (50, a_aload 0 51), (51, a_getR 8 10 5 54), (54, a_iload 1 55), (55, a_aald 6 56), (56, a_iload 2 57), (57, a_iload 4 59), (59, a_callO 2 3 160 2 62), (62, a_iload 4 64), (64, a_iret)]
set_option maxRecDepth 20000 in
theorem ol_W_sheet : okall B sp D cA (SPf B sp Ls xs adK adV) MT ⟨"WreckSky", "sheet", "(III)I"⟩ prog_1_method_30_code 5 (Option.some Jvm.ClassFile.FieldType.int) (pl_W_sheet) := by
  unfold pl_W_sheet
  exact
    okc (ok_iload_n (k := 1) (by decide +kernel) rfl rfl) (
    okc (ok_callS (SPf_ok _ _ _ _ _ _) (mi := 143) (n := 1) (idx := 217) rfl m_W_isSheet (by decide) w_630 w_631 (by decide +kernel) rfl) (
    okc (ok_if_eq (off := 12) (by decide +kernel) rfl rfl) (
    okc (ok_iload_n (k := 2) (by decide +kernel) rfl rfl) (
    okc (ok_iconst (n := -1) (by decide +kernel) rfl rfl) (
    okc (ok_iconst (n := 1) (by decide +kernel) rfl rfl) (
    okc (ok_callS (SPf_ok _ _ _ _ _ _) (mi := 94) (n := 3) (idx := 72) rfl m_W_within (by decide) w_351 w_352 (by decide +kernel) rfl) (
    okc (ok_if_ne (off := 6) (by decide +kernel) rfl rfl) (
    okc (ok_ldc (i := 79) w_357 (by decide +kernel) rfl) (
    okc (ok_iret rfl (by decide +kernel)) (
    okc (ok_iload_n (k := 2) (by decide +kernel) rfl rfl) (
    okc (ok_iconst (n := -1) (by decide +kernel) rfl rfl) (
    okc (ok_cmp_ne (off := 7) (by decide +kernel) rfl rfl) (
    okc (ok_iconst (n := 0) (by decide +kernel) rfl rfl) (
    okc (ok_goto (off := 4) (by decide +kernel) rfl) (
    okc (ok_iload_n (k := 3) (by decide +kernel) rfl rfl) (
    okc (ok_istore (by decide +kernel) rfl) (
    okc (ok_iload (by decide +kernel) rfl) (
    okc (ok_bipush (n := 24) (by decide +kernel) (by decide +kernel) rfl) (
    okc (ok_cmp_le (off := 6) (by decide +kernel) rfl rfl) (
    okc (ok_ldc (i := 79) w_357 (by decide +kernel) rfl) (
    okc (ok_iret rfl (by decide +kernel)) (
    okc (ok_iload (by decide +kernel) rfl) (
    okc (ok_if_ge (off := 7) (by decide +kernel) rfl rfl) (
    okc (ok_ldc_w (i := 275) w_894 (by decide +kernel) rfl) (
    okc (ok_iret rfl (by decide +kernel)) (
    okc (ok_aload_n (k := 0) (by decide +kernel) rfl rfl) (
    okc (ok_getR (k := 5) (idx := 44) cX8_ok (by decide) (by decide +kernel) w_318 (by decide +kernel) rfl) (
    okc (ok_iload_n (k := 1) (by decide +kernel) rfl rfl) (
    okc (ok_aald (C := "WreckSky$Sheet") (by decide) (fun _ => rfl) (by decide +kernel) rfl) (
    okc (ok_iload_n (k := 2) (by decide +kernel) rfl rfl) (
    okc (ok_iload (by decide +kernel) rfl) (
    okc (ok_callV (SPf_ok _ _ _ _ _ _) (mi := 160) (n := 2) (idx := 276) rfl m_H_becomeBlank (by decide) cX2_ok w_895 w_896 w_897 (by decide +kernel) rfl) (
    okc (ok_iload (by decide +kernel) rfl) (
    okc (ok_iret rfl (by decide +kernel)) ( okn)))))))))))))))))))))))))))))))))))
def pl_M_sheet : List (Nat × mA) := [(0, a_iload 1 1), (1, a_call 146 1 4), (4, a_if (fun x => decide (x = 0)) 26 7), (7, a_iload 2 8), (8, a_push (-1) 9), (9, a_push 1 10), (10, a_call 97 3 13), (13, a_if (fun x => decide (x = 0)) 26 16), (16, a_iload 2 17), (17, a_if (fun x => decide (x < 0)) 29 20), (20, a_iload 3 21), (21, a_push 24 23), (23, a_cmp (fun x y => decide (x ≤ y)) 29 26), (26, a_push (-1000000001) 28), (28, a_iret), (29, a_iload 2 30), (30, a_if (fun x => decide (x < 0)) 41 33), (33, a_iload 3 34), (34, a_if (fun x => decide (0 ≤ x)) 41 37), (37, a_push (-1000000014) 40), (40, a_iret), (41, a_aload 0 42), (42, a_getR 9 36 26 45), (45, a_iload 1 46), (46, a_iload 2 47), (47, a_ast 0 (fun x => x) 48), (48, a_aload 0 49), (49, a_getR 9 36 27 52), (52, a_iload 1 53), (53, a_iload 2 54), (54, a_if (fun x => decide (0 ≤ x)) 61 57), (57, a_push 0 58), (58, a_goto 62), (61, a_iload 3 62), (62, a_ast 0 (fun x => x) 63), (63, a_push 0 64), (64, a_istore 4 66), (66, a_iload 4 68), (68, a_push 24 70), (70, a_cmp (fun x y => decide (y ≤ x)) 92 73), (73, a_aload 0 74), (74, a_getR 9 36 28 77), (77, a_push 24 79), (79, a_iload 1 80), (80, a_bin (fun x y => x * y) 81), (81, a_iload 4 83), (83, a_bin (fun x y => x + y) 84), (84, a_push 0 85), (85, a_ast 0 (fun x => x) 86), (86, a_iinc 4 1 89), (89, a_goto 66), (92, a_aload 0 93), (93, a_getR 9 36 27 96), (96, a_iload 1 97), (97, a_ald 0 98), (98, a_iret)]
set_option maxRecDepth 20000 in
theorem ol_M_sheet : okall B sp D cA (SPf B sp Ls xs adK adV) MT ⟨"WreckSkyModel", "sheet", "(III)I"⟩ prog_11_method_76_code 5 (Option.some Jvm.ClassFile.FieldType.int) (pl_M_sheet) := by
  unfold pl_M_sheet
  exact
    okc (ok_iload_n (k := 1) (by decide +kernel) rfl rfl) (
    okc (ok_callS (SPf_ok _ _ _ _ _ _) (mi := 146) (n := 1) (idx := 193) rfl m_M_isSheet (by decide) w_1313 w_1314 (by decide +kernel) rfl) (
    okc (ok_if_eq (off := 22) (by decide +kernel) rfl rfl) (
    okc (ok_iload_n (k := 2) (by decide +kernel) rfl rfl) (
    okc (ok_iconst (n := -1) (by decide +kernel) rfl rfl) (
    okc (ok_iconst (n := 1) (by decide +kernel) rfl rfl) (
    okc (ok_callS (SPf_ok _ _ _ _ _ _) (mi := 97) (n := 3) (idx := 84) rfl m_M_in (by decide) w_1106 w_1107 (by decide +kernel) rfl) (
    okc (ok_if_eq (off := 13) (by decide +kernel) rfl rfl) (
    okc (ok_iload_n (k := 2) (by decide +kernel) rfl rfl) (
    okc (ok_if_lt (off := 12) (by decide +kernel) rfl rfl) (
    okc (ok_iload_n (k := 3) (by decide +kernel) rfl rfl) (
    okc (ok_bipush (n := 24) (by decide +kernel) (by decide +kernel) rfl) (
    okc (ok_cmp_le (off := 6) (by decide +kernel) rfl rfl) (
    okc (ok_ldc (i := 100) w_1112 (by decide +kernel) rfl) (
    okc (ok_iret rfl (by decide +kernel)) (
    okc (ok_iload_n (k := 2) (by decide +kernel) rfl rfl) (
    okc (ok_if_lt (off := 11) (by decide +kernel) rfl rfl) (
    okc (ok_iload_n (k := 3) (by decide +kernel) rfl rfl) (
    okc (ok_if_ge (off := 7) (by decide +kernel) rfl rfl) (
    okc (ok_ldc_w (i := 265) w_1392 (by decide +kernel) rfl) (
    okc (ok_iret rfl (by decide +kernel)) (
    okc (ok_aload_n (k := 0) (by decide +kernel) rfl rfl) (
    okc (ok_getR (k := 26) (idx := 57) cX9_ok (by decide) (by decide +kernel) w_1017 (by decide +kernel) rfl) (
    okc (ok_iload_n (k := 1) (by decide +kernel) rfl rfl) (
    okc (ok_iload_n (k := 2) (by decide +kernel) rfl rfl) (
    okc (ok_iast (by decide +kernel) rfl) (
    okc (ok_aload_n (k := 0) (by decide +kernel) rfl rfl) (
    okc (ok_getR (k := 27) (idx := 60) cX9_ok (by decide) (by decide +kernel) w_1018 (by decide +kernel) rfl) (
    okc (ok_iload_n (k := 1) (by decide +kernel) rfl rfl) (
    okc (ok_iload_n (k := 2) (by decide +kernel) rfl rfl) (
    okc (ok_if_ge (off := 7) (by decide +kernel) rfl rfl) (
    okc (ok_iconst (n := 0) (by decide +kernel) rfl rfl) (
    okc (ok_goto (off := 4) (by decide +kernel) rfl) (
    okc (ok_iload_n (k := 3) (by decide +kernel) rfl rfl) (
    okc (ok_iast (by decide +kernel) rfl) (
    okc (ok_iconst (n := 0) (by decide +kernel) rfl rfl) (
    okc (ok_istore (by decide +kernel) rfl) (
    okc (ok_iload (by decide +kernel) rfl) (
    okc (ok_bipush (n := 24) (by decide +kernel) (by decide +kernel) rfl) (
    okc (ok_cmp_ge (off := 22) (by decide +kernel) rfl rfl) (
    okc (ok_aload_n (k := 0) (by decide +kernel) rfl rfl) (
    okc (ok_getR (k := 28) (idx := 63) cX9_ok (by decide) (by decide +kernel) w_1019 (by decide +kernel) rfl) (
    okc (ok_bipush (n := 24) (by decide +kernel) (by decide +kernel) rfl) (
    okc (ok_iload_n (k := 1) (by decide +kernel) rfl rfl) (
    okc (ok_imul (by decide +kernel) rfl) (
    okc (ok_iload (by decide +kernel) rfl) (
    okc (ok_iadd (by decide +kernel) rfl) (
    okc (ok_iconst (n := 0) (by decide +kernel) rfl rfl) (
    okc (ok_iast (by decide +kernel) rfl) (
    okc (ok_iinc (n := 1) (by decide +kernel) rfl rfl) (
    okc (ok_goto (off := -23) (by decide +kernel) rfl) (
    okc (ok_aload_n (k := 0) (by decide +kernel) rfl rfl) (
    okc (ok_getR (k := 27) (idx := 60) cX9_ok (by decide) (by decide +kernel) w_1018 (by decide +kernel) rfl) (
    okc (ok_iload_n (k := 1) (by decide +kernel) rfl rfl) (
    okc (ok_iald (by decide +kernel) rfl) (
    okc (ok_iret rfl (by decide +kernel)) ( okn))))))))))))))))))))))))))))))))))))))))))))))))))))))))
def pl_W_mark : List (Nat × mA) := [(0, a_iload 1 1), (1, a_call 143 1 4), (4, a_if (fun x => decide (x ≠ 0)) 10 7), (7, a_push (-1000000001) 9), (9, a_iret), (10, a_aload 0 11), (11, a_getR 8 10 5 14), (14, a_iload 1 15), (15, a_aald 6 16), (16, a_astore 4 18), (18, a_aload 4 20), (20, a_callO 2 3 144 0 23), (23, a_if (fun x => decide (x = 0)) 29 26), (26, a_push (-1000000011) 28), (28, a_iret), (29, a_aload 4 31), (31, a_iload 2 32), (32, a_callO 2 3 161 1 35), (35, a_if (fun x => decide (x ≠ 0)) 42 38), (38, a_push (-1000000013) 41), (41, a_iret), (42, a_aload 4 44), (44, a_getI 2 3 1 47), (47, a_if (fun x => decide (x ≠ 0)) 71 50), (50, a_iload 3 51), (51, a_push (-1000000005) 54), (54, a_cmp (fun x y => decide (x ≠ y)) 60 57), (57, a_push (-1000000012) 59), (59, a_iret), (60, a_aload 4 62), (62, a_getR 2 3 0 65), (65, a_iload 2 66), (66, a_iload 3 67), (67, a_un (fun x => x.toInt16.toInt32) 68), (68, a_ast 0 (fun x => x) 69), (69, a_push 1 70), (70, a_iret), (71, a_iload 3 72), (72, a_push (-1000000005) 75), (75, a_cmp (fun x y => decide (x = y)) 94 78), (78, a_iload 3 79), (79, a_push (-99999) 82), (82, a_push 99999 85), (85, a_call 94 3 88), (88, a_if (fun x => decide (x ≠ 0)) 94 91), (91, a_push (-1000000001) 93), (93, a_iret), (94, a_aload 4 96), (96, a_getR 2 3 0 99), (99, a_iload 2 100), (100, a_iload 3 101), (101, a_ast 0 (fun x => x) 102), (102, a_push 1 103), (103, a_iret)]
set_option maxRecDepth 20000 in
theorem ol_W_mark : okall B sp D cA (SPf B sp Ls xs adK adV) MT ⟨"WreckSky", "mark", "(III)I"⟩ prog_1_method_31_code 5 (Option.some Jvm.ClassFile.FieldType.int) (pl_W_mark) := by
  unfold pl_W_mark
  exact
    okc (ok_iload_n (k := 1) (by decide +kernel) rfl rfl) (
    okc (ok_callS (SPf_ok _ _ _ _ _ _) (mi := 143) (n := 1) (idx := 217) rfl m_W_isSheet (by decide) w_630 w_631 (by decide +kernel) rfl) (
    okc (ok_if_ne (off := 6) (by decide +kernel) rfl rfl) (
    okc (ok_ldc (i := 79) w_357 (by decide +kernel) rfl) (
    okc (ok_iret rfl (by decide +kernel)) (
    okc (ok_aload_n (k := 0) (by decide +kernel) rfl rfl) (
    okc (ok_getR (k := 5) (idx := 44) cX8_ok (by decide) (by decide +kernel) w_318 (by decide +kernel) rfl) (
    okc (ok_iload_n (k := 1) (by decide +kernel) rfl rfl) (
    okc (ok_aald (C := "WreckSky$Sheet") (by decide) (fun _ => rfl) (by decide +kernel) rfl) (
    okc (ok_astore (by decide +kernel) rfl) (
    okc (ok_aload (by decide +kernel) rfl) (
    okc (ok_callV (SPf_ok _ _ _ _ _ _) (mi := 144) (n := 0) (idx := 220) rfl m_H_isMissing (by decide) cX2_ok w_633 w_634 w_635 (by decide +kernel) rfl) (
    okc (ok_if_eq (off := 6) (by decide +kernel) rfl rfl) (
    okc (ok_ldc (i := 224) w_637 (by decide +kernel) rfl) (
    okc (ok_iret rfl (by decide +kernel)) (
    okc (ok_aload (by decide +kernel) rfl) (
    okc (ok_iload_n (k := 2) (by decide +kernel) rfl rfl) (
    okc (ok_callV (SPf_ok _ _ _ _ _ _) (mi := 161) (n := 1) (idx := 280) rfl m_H_hasPlace (by decide) cX2_ok w_904 w_647 w_648 (by decide +kernel) rfl) (
    okc (ok_if_ne (off := 7) (by decide +kernel) rfl rfl) (
    okc (ok_ldc_w (i := 283) w_905 (by decide +kernel) rfl) (
    okc (ok_iret rfl (by decide +kernel)) (
    okc (ok_aload (by decide +kernel) rfl) (
    okc (ok_getI (k := 1) (idx := 284) cX2_ok (by decide) (by decide +kernel) w_276 (by decide +kernel) rfl) (
    okc (ok_if_ne (off := 24) (by decide +kernel) rfl rfl) (
    okc (ok_iload_n (k := 3) (by decide +kernel) rfl rfl) (
    okc (ok_ldc_w (i := 274) w_889 (by decide +kernel) rfl) (
    okc (ok_cmp_ne (off := 6) (by decide +kernel) rfl rfl) (
    okc (ok_ldc (i := 133) w_422 (by decide +kernel) rfl) (
    okc (ok_iret rfl (by decide +kernel)) (
    okc (ok_aload (by decide +kernel) rfl) (
    okc (ok_getR (k := 0) (idx := 287) cX2_ok (by decide) (by decide +kernel) w_274 (by decide +kernel) rfl) (
    okc (ok_iload_n (k := 2) (by decide +kernel) rfl rfl) (
    okc (ok_iload_n (k := 3) (by decide +kernel) rfl rfl) (
    okc (ok_i2s (by decide +kernel) rfl) (
    okc (ok_iast (by decide +kernel) rfl) (
    okc (ok_iconst (n := 1) (by decide +kernel) rfl rfl) (
    okc (ok_iret rfl (by decide +kernel)) (
    okc (ok_iload_n (k := 3) (by decide +kernel) rfl rfl) (
    okc (ok_ldc_w (i := 274) w_889 (by decide +kernel) rfl) (
    okc (ok_cmp_eq (off := 19) (by decide +kernel) rfl rfl) (
    okc (ok_iload_n (k := 3) (by decide +kernel) rfl rfl) (
    okc (ok_ldc_w (i := 290) w_906 (by decide +kernel) rfl) (
    okc (ok_ldc_w (i := 291) w_907 (by decide +kernel) rfl) (
    okc (ok_callS (SPf_ok _ _ _ _ _ _) (mi := 94) (n := 3) (idx := 72) rfl m_W_within (by decide) w_351 w_352 (by decide +kernel) rfl) (
    okc (ok_if_ne (off := 6) (by decide +kernel) rfl rfl) (
    okc (ok_ldc (i := 79) w_357 (by decide +kernel) rfl) (
    okc (ok_iret rfl (by decide +kernel)) (
    okc (ok_aload (by decide +kernel) rfl) (
    okc (ok_getR (k := 0) (idx := 287) cX2_ok (by decide) (by decide +kernel) w_274 (by decide +kernel) rfl) (
    okc (ok_iload_n (k := 2) (by decide +kernel) rfl rfl) (
    okc (ok_iload_n (k := 3) (by decide +kernel) rfl rfl) (
    okc (ok_iast (by decide +kernel) rfl) (
    okc (ok_iconst (n := 1) (by decide +kernel) rfl rfl) (
    okc (ok_iret rfl (by decide +kernel)) ( okn))))))))))))))))))))))))))))))))))))))))))))))))))))))
end PR

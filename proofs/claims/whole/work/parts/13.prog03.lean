section PR
variable {B : Nat} {sp : Nat → Value} {D : va_G} {cA : Nat → ClassId} {Ls : Nat} {xs : Nat → Int32} {adK adV : Nat → Nat}
def pl_M_behind : List (Nat × mA) := [(0, a_iload 1 1), (1, a_push 0 2), (2, a_push 100 4), (4, a_call 97 3 7), (7, a_if (fun x => decide (x = 0)) 29 10), (10, a_iload 2 11), (11, a_if (fun x => decide (x < 0)) 29 14), (14, a_iload 2 15), (15, a_push 2 16), (16, a_cmp (fun x y => decide (x ≤ y)) 32 19), (19, a_aload 0 20), (20, a_iload 2 21), (21, a_push 3 22), (22, a_bin (fun x y => x - y) 23), (23, a_callO 9 36 104 1 26), (26, a_if (fun x => decide (x ≠ 0)) 32 29), (29, a_push (-1000000001) 31), (31, a_iret), (32, a_aload 0 33), (33, a_callO 9 36 128 0 36), (36, a_aload 0 37), (37, a_iload 1 38), (38, a_callO 9 36 121 1 41), (41, a_iload 2 42), (42, a_if (fun x => decide (x ≠ 0)) 54 45), (45, a_aload 0 46), (46, a_getR 9 36 0 49), (49, a_push 4 50), (50, a_ald 0 51), (51, a_goto 89), (54, a_iload 2 55), (55, a_push 1 56), (56, a_cmp (fun x y => decide (x ≠ y)) 68 59), (59, a_aload 0 60), (60, a_getR 9 36 0 63), (63, a_push 5 64), (64, a_ald 0 65), (65, a_goto 89), (68, a_iload 2 69), (69, a_push 2 70), (70, a_cmp (fun x y => decide (x ≠ y)) 81 73), (73, a_aload 0 74), (74, a_push 0 75), (75, a_callO 9 36 125 1 78), (78, a_goto 89), (81, a_aload 0 82), (82, a_iload 2 83), (83, a_push 3 84), (84, a_bin (fun x y => x - y) 85), (85, a_push 2 86), (86, a_callO 9 36 105 2 89), (89, a_istore 3 90), (90, a_aload 0 91), (91, a_callO 9 36 129 0 94), (94, a_iload 3 95), (95, a_iret)]
set_option maxRecDepth 20000 in
theorem ol_M_behind : okall B sp D cA (SPf B sp Ls xs adK adV) MT ⟨"WreckSkyModel", "behind", "(II)I"⟩ prog_11_method_39_code 4 (Option.some Jvm.ClassFile.FieldType.int) (pl_M_behind) := by
  unfold pl_M_behind
  exact
    okc (ok_iload_n (k := 1) (by decide +kernel) rfl rfl) (
    okc (ok_iconst (n := 0) (by decide +kernel) rfl rfl) (
    okc (ok_bipush (n := 100) (by decide +kernel) (by decide +kernel) rfl) (
    okc (ok_callS (SPf_ok _ _ _ _ _ _) (mi := 97) (n := 3) (idx := 84) rfl m_M_in (by decide) w_1106 w_1107 (by decide +kernel) rfl) (
    okc (ok_if_eq (off := 22) (by decide +kernel) rfl rfl) (
    okc (ok_iload_n (k := 2) (by decide +kernel) rfl rfl) (
    okc (ok_if_lt (off := 18) (by decide +kernel) rfl rfl) (
    okc (ok_iload_n (k := 2) (by decide +kernel) rfl rfl) (
    okc (ok_iconst (n := 2) (by decide +kernel) rfl rfl) (
    okc (ok_cmp_le (off := 16) (by decide +kernel) rfl rfl) (
    okc (ok_aload_n (k := 0) (by decide +kernel) rfl rfl) (
    okc (ok_iload_n (k := 2) (by decide +kernel) rfl rfl) (
    okc (ok_iconst (n := 3) (by decide +kernel) rfl rfl) (
    okc (ok_isub (by decide +kernel) rfl) (
    okc (ok_callV (SPf_ok _ _ _ _ _ _) (mi := 104) (n := 1) (idx := 117) rfl m_M_isWreck (by decide) cX9_ok w_1126 w_1128 w_22 (by decide +kernel) rfl) (
    okc (ok_if_ne (off := 6) (by decide +kernel) rfl rfl) (
    okc (ok_ldc (i := 100) w_1112 (by decide +kernel) rfl) (
    okc (ok_iret rfl (by decide +kernel)) (
    okc (ok_aload_n (k := 0) (by decide +kernel) rfl rfl) (
    okc (ok_callV (SPf_ok _ _ _ _ _ _) (mi := 128) (n := 0) (idx := 171) rfl m_M_thinks (by decide) cX9_ok w_1253 w_1255 w_39 (by decide +kernel) rfl) (
    okc (ok_aload_n (k := 0) (by decide +kernel) rfl rfl) (
    okc (ok_iload_n (k := 1) (by decide +kernel) rfl rfl) (
    okc (ok_callV (SPf_ok _ _ _ _ _ _) (mi := 121) (n := 1) (idx := 165) rfl m_M_goesOn (by decide) cX9_ok w_1218 w_1220 w_33 (by decide +kernel) rfl) (
    okc (ok_iload_n (k := 2) (by decide +kernel) rfl rfl) (
    okc (ok_if_ne (off := 12) (by decide +kernel) rfl rfl) (
    okc (ok_aload_n (k := 0) (by decide +kernel) rfl rfl) (
    okc (ok_getR (k := 0) (idx := 9) cX9_ok (by decide) (by decide +kernel) w_991 (by decide +kernel) rfl) (
    okc (ok_iconst (n := 4) (by decide +kernel) rfl rfl) (
    okc (ok_iald (by decide +kernel) rfl) (
    okc (ok_goto (off := 38) (by decide +kernel) rfl) (
    okc (ok_iload_n (k := 2) (by decide +kernel) rfl rfl) (
    okc (ok_iconst (n := 1) (by decide +kernel) rfl rfl) (
    okc (ok_cmp_ne (off := 12) (by decide +kernel) rfl rfl) (
    okc (ok_aload_n (k := 0) (by decide +kernel) rfl rfl) (
    okc (ok_getR (k := 0) (idx := 9) cX9_ok (by decide) (by decide +kernel) w_991 (by decide +kernel) rfl) (
    okc (ok_iconst (n := 5) (by decide +kernel) rfl rfl) (
    okc (ok_iald (by decide +kernel) rfl) (
    okc (ok_goto (off := 24) (by decide +kernel) rfl) (
    okc (ok_iload_n (k := 2) (by decide +kernel) rfl rfl) (
    okc (ok_iconst (n := 2) (by decide +kernel) rfl rfl) (
    okc (ok_cmp_ne (off := 11) (by decide +kernel) rfl rfl) (
    okc (ok_aload_n (k := 0) (by decide +kernel) rfl rfl) (
    okc (ok_iconst (n := 0) (by decide +kernel) rfl rfl) (
    okc (ok_callV (SPf_ok _ _ _ _ _ _) (mi := 125) (n := 1) (idx := 168) rfl m_M_ups (by decide) cX9_ok w_1245 w_1247 w_38 (by decide +kernel) rfl) (
    okc (ok_goto (off := 11) (by decide +kernel) rfl) (
    okc (ok_aload_n (k := 0) (by decide +kernel) rfl rfl) (
    okc (ok_iload_n (k := 2) (by decide +kernel) rfl rfl) (
    okc (ok_iconst (n := 3) (by decide +kernel) rfl rfl) (
    okc (ok_isub (by decide +kernel) rfl) (
    okc (ok_iconst (n := 2) (by decide +kernel) rfl rfl) (
    okc (ok_callV (SPf_ok _ _ _ _ _ _) (mi := 105) (n := 2) (idx := 88) rfl m_M_of (by decide) cX9_ok w_1130 w_1132 w_23 (by decide +kernel) rfl) (
    okc (ok_istore_n (k := 3) (by decide +kernel) rfl rfl) (
    okc (ok_aload_n (k := 0) (by decide +kernel) rfl rfl) (
    okc (ok_callV (SPf_ok _ _ _ _ _ _) (mi := 129) (n := 0) (idx := 174) rfl m_M_putsBack (by decide) cX9_ok w_1257 w_1259 w_40 (by decide +kernel) rfl) (
    okc (ok_iload_n (k := 3) (by decide +kernel) rfl rfl) (
    okc (ok_iret rfl (by decide +kernel)) ( okn))))))))))))))))))))))))))))))))))))))))))))))))))))))))
def pl_W_first : List (Nat × mA) := [(0, a_aload 0 1), (1, a_getR 8 10 2 4), (4, a_aload 0 5), (5, a_getR 8 10 0 8), (8, a_callO 0 5 130 1 11), (11, a_iret)]
set_option maxRecDepth 20000 in
theorem ol_W_first : okall B sp D cA (SPf B sp Ls xs adK adV) MT ⟨"WreckSky", "first", "()I"⟩ prog_1_method_15_code 1 (Option.some Jvm.ClassFile.FieldType.int) (pl_W_first) := by
  unfold pl_W_first
  exact
    okc (ok_aload_n (k := 0) (by decide +kernel) rfl rfl) (
    okc (ok_getR (k := 2) (idx := 22) cX8_ok (by decide) (by decide +kernel) w_315 (by decide +kernel) rfl) (
    okc (ok_aload_n (k := 0) (by decide +kernel) rfl rfl) (
    okc (ok_getR (k := 0) (idx := 10) cX8_ok (by decide) (by decide +kernel) w_313 (by decide +kernel) rfl) (
    okc (ok_callV (SPf_ok _ _ _ _ _ _) (mi := 130) (n := 1) (idx := 188) rfl m_F_firstBreak (by decide) cX0_ok w_539 w_540 w_541 (by decide +kernel) rfl) (
    okc (ok_iret rfl (by decide +kernel)) ( okn))))))
def pl_M_first : List (Nat × mA) := [(0, a_aload 0 1), (1, a_callO 9 36 128 0 4), (4, a_push 0 5), (5, a_istore 1 6), (6, a_iload 1 7), (7, a_push 200 10), (10, a_cmp (fun x y => decide (y < x)) 38 13), (13, a_aload 0 14), (14, a_getR 9 36 0 17), (17, a_push 4 18), (18, a_ald 0 19), (19, a_aload 0 20), (20, a_getR 9 36 4 23), (23, a_push 4 24), (24, a_ald 0 25), (25, a_cmp (fun x y => decide (x ≠ y)) 38 28), (28, a_aload 0 29), (29, a_callO 9 36 131 0 32), (32, a_iinc 1 1 35), (35, a_goto 6), (38, a_aload 0 39), (39, a_callO 9 36 129 0 42), (42, a_iload 1 43), (43, a_push 200 46), (46, a_cmp (fun x y => decide (x ≤ y)) 54 49), (49, a_push (-1000000005) 51), (51, a_goto 55), (54, a_iload 1 55), (55, a_iret)]
set_option maxRecDepth 20000 in
theorem ol_M_first : okall B sp D cA (SPf B sp Ls xs adK adV) MT ⟨"WreckSkyModel", "first", "()I"⟩ prog_11_method_40_code 2 (Option.some Jvm.ClassFile.FieldType.int) (pl_M_first) := by
  unfold pl_M_first
  exact
    okc (ok_aload_n (k := 0) (by decide +kernel) rfl rfl) (
    okc (ok_callV (SPf_ok _ _ _ _ _ _) (mi := 128) (n := 0) (idx := 171) rfl m_M_thinks (by decide) cX9_ok w_1253 w_1255 w_39 (by decide +kernel) rfl) (
    okc (ok_iconst (n := 0) (by decide +kernel) rfl rfl) (
    okc (ok_istore_n (k := 1) (by decide +kernel) rfl rfl) (
    okc (ok_iload_n (k := 1) (by decide +kernel) rfl rfl) (
    okc (ok_sipush (n := 200) (by decide +kernel) (by decide +kernel) rfl) (
    okc (ok_cmp_gt (off := 28) (by decide +kernel) rfl rfl) (
    okc (ok_aload_n (k := 0) (by decide +kernel) rfl rfl) (
    okc (ok_getR (k := 0) (idx := 9) cX9_ok (by decide) (by decide +kernel) w_991 (by decide +kernel) rfl) (
    okc (ok_iconst (n := 4) (by decide +kernel) rfl rfl) (
    okc (ok_iald (by decide +kernel) rfl) (
    okc (ok_aload_n (k := 0) (by decide +kernel) rfl rfl) (
    okc (ok_getR (k := 4) (idx := 19) cX9_ok (by decide) (by decide +kernel) w_995 (by decide +kernel) rfl) (
    okc (ok_iconst (n := 4) (by decide +kernel) rfl rfl) (
    okc (ok_iald (by decide +kernel) rfl) (
    okc (ok_cmp_ne (off := 13) (by decide +kernel) rfl rfl) (
    okc (ok_aload_n (k := 0) (by decide +kernel) rfl rfl) (
    okc (ok_callV (SPf_ok _ _ _ _ _ _) (mi := 131) (n := 0) (idx := 162) rfl m_M_hour (by decide) cX9_ok w_1222 w_1224 w_34 (by decide +kernel) rfl) (
    okc (ok_iinc (n := 1) (by decide +kernel) rfl rfl) (
    okc (ok_goto (off := -29) (by decide +kernel) rfl) (
    okc (ok_aload_n (k := 0) (by decide +kernel) rfl rfl) (
    okc (ok_callV (SPf_ok _ _ _ _ _ _) (mi := 129) (n := 0) (idx := 174) rfl m_M_putsBack (by decide) cX9_ok w_1257 w_1259 w_40 (by decide +kernel) rfl) (
    okc (ok_iload_n (k := 1) (by decide +kernel) rfl rfl) (
    okc (ok_sipush (n := 200) (by decide +kernel) (by decide +kernel) rfl) (
    okc (ok_cmp_le (off := 8) (by decide +kernel) rfl rfl) (
    okc (ok_ldc (i := 177) w_1265 (by decide +kernel) rfl) (
    okc (ok_goto (off := 4) (by decide +kernel) rfl) (
    okc (ok_iload_n (k := 1) (by decide +kernel) rfl rfl) (
    okc (ok_iret rfl (by decide +kernel)) ( okn)))))))))))))))))))))))))))))
def pl_W_hole : List (Nat × mA) := [(0, a_iload 1 1), (1, a_call 95 1 4), (4, a_if (fun x => decide (x ≠ 0)) 10 7), (7, a_push (-1000000001) 9), (9, a_iret), (10, a_aload 0 11), (11, a_getR 8 10 2 14), (14, a_aload 0 15), (15, a_getR 8 10 0 18), (18, a_callO 0 5 132 1 21), (21, a_aload 0 22), (22, a_getR 8 10 2 25), (25, a_iload 1 26), (26, a_callO 0 5 133 1 29), (29, a_iret)]
set_option maxRecDepth 20000 in
theorem ol_W_hole : okall B sp D cA (SPf B sp Ls xs adK adV) MT ⟨"WreckSky", "hole", "(I)I"⟩ prog_1_method_16_code 2 (Option.some Jvm.ClassFile.FieldType.int) (pl_W_hole) := by
  unfold pl_W_hole
  exact
    okc (ok_iload_n (k := 1) (by decide +kernel) rfl rfl) (
    okc (ok_callS (SPf_ok _ _ _ _ _ _) (mi := 95) (n := 1) (idx := 76) rfl m_W_isPlace (by decide) w_354 w_355 (by decide +kernel) rfl) (
    okc (ok_if_ne (off := 6) (by decide +kernel) rfl rfl) (
    okc (ok_ldc (i := 79) w_357 (by decide +kernel) rfl) (
    okc (ok_iret rfl (by decide +kernel)) (
    okc (ok_aload_n (k := 0) (by decide +kernel) rfl rfl) (
    okc (ok_getR (k := 2) (idx := 22) cX8_ok (by decide) (by decide +kernel) w_315 (by decide +kernel) rfl) (
    okc (ok_aload_n (k := 0) (by decide +kernel) rfl rfl) (
    okc (ok_getR (k := 0) (idx := 10) cX8_ok (by decide) (by decide +kernel) w_313 (by decide +kernel) rfl) (
    okc (ok_callV (SPf_ok _ _ _ _ _ _) (mi := 132) (n := 1) (idx := 192) rfl m_F_findHoles (by decide) cX0_ok w_547 w_548 w_549 (by decide +kernel) rfl) (
    okc (ok_aload_n (k := 0) (by decide +kernel) rfl rfl) (
    okc (ok_getR (k := 2) (idx := 22) cX8_ok (by decide) (by decide +kernel) w_315 (by decide +kernel) rfl) (
    okc (ok_iload_n (k := 1) (by decide +kernel) rfl rfl) (
    okc (ok_callV (SPf_ok _ _ _ _ _ _) (mi := 133) (n := 1) (idx := 196) rfl m_F_holeOver (by decide) cX0_ok w_559 w_560 w_561 (by decide +kernel) rfl) (
    okc (ok_iret rfl (by decide +kernel)) ( okn)))))))))))))))
def pl_M_hole : List (Nat × mA) := [(0, a_push 2 1), (1, a_iload 1 2), (2, a_call 98 2 5), (5, a_if (fun x => decide (x ≠ 0)) 11 8), (8, a_push (-1000000001) 10), (10, a_iret), (11, a_aload 0 12), (12, a_callO 9 36 134 0 15), (15, a_aload 0 16), (16, a_iload 1 17), (17, a_callO 9 36 135 1 20), (20, a_iret)]
set_option maxRecDepth 20000 in
theorem ol_M_hole : okall B sp D cA (SPf B sp Ls xs adK adV) MT ⟨"WreckSkyModel", "hole", "(I)I"⟩ prog_11_method_43_code 2 (Option.some Jvm.ClassFile.FieldType.int) (pl_M_hole) := by
  unfold pl_M_hole
  exact
    okc (ok_iconst (n := 2) (by decide +kernel) rfl rfl) (
    okc (ok_iload_n (k := 1) (by decide +kernel) rfl rfl) (
    okc (ok_callS (SPf_ok _ _ _ _ _ _) (mi := 98) (n := 2) (idx := 96) rfl m_M_isOf (by decide) w_1109 w_1110 (by decide +kernel) rfl) (
    okc (ok_if_ne (off := 6) (by decide +kernel) rfl rfl) (
    okc (ok_ldc (i := 100) w_1112 (by decide +kernel) rfl) (
    okc (ok_iret rfl (by decide +kernel)) (
    okc (ok_aload_n (k := 0) (by decide +kernel) rfl rfl) (
    okc (ok_callV (SPf_ok _ _ _ _ _ _) (mi := 134) (n := 0) (idx := 178) rfl m_M_looksUp (by decide) cX9_ok w_1270 w_1272 w_41 (by decide +kernel) rfl) (
    okc (ok_aload_n (k := 0) (by decide +kernel) rfl rfl) (
    okc (ok_iload_n (k := 1) (by decide +kernel) rfl rfl) (
    okc (ok_callV (SPf_ok _ _ _ _ _ _) (mi := 135) (n := 1) (idx := 181) rfl m_M_holeOf (by decide) cX9_ok w_1274 w_1276 w_42 (by decide +kernel) rfl) (
    okc (ok_iret rfl (by decide +kernel)) ( okn))))))))))))
def pl_W_open : List (Nat × mA) := [(0, a_iload 1 1), (1, a_push 0 2), (2, a_push 60 4), (4, a_call 94 3 7), (7, a_if (fun x => decide (x ≠ 0)) 13 10), (10, a_push (-1000000001) 12), (12, a_iret), (13, a_aload 0 14), (14, a_getR 8 10 2 17), (17, a_aload 0 18), (18, a_getR 8 10 0 21), (21, a_callO 0 5 132 1 24), (24, a_push 0 25), (25, a_istore 2 26), (26, a_push 0 27), (27, a_istore 3 28), (28, a_iload 3 29), (29, a_push 30 31), (31, a_cmp (fun x y => decide (y ≤ x)) 55 34), (34, a_aload 0 35), (35, a_getR 8 10 2 38), (38, a_iload 3 39), (39, a_callO 0 5 133 1 42), (42, a_iload 1 43), (43, a_cmp (fun x y => decide (x ≠ y)) 49 46), (46, a_iinc 2 1 49), (49, a_iinc 3 1 52), (52, a_goto 28), (55, a_iload 2 56), (56, a_iret)]
set_option maxRecDepth 20000 in
theorem ol_W_open : okall B sp D cA (SPf B sp Ls xs adK adV) MT ⟨"WreckSky", "open", "(I)I"⟩ prog_1_method_17_code 4 (Option.some Jvm.ClassFile.FieldType.int) (pl_W_open) := by
  unfold pl_W_open
  exact
    okc (ok_iload_n (k := 1) (by decide +kernel) rfl rfl) (
    okc (ok_iconst (n := 0) (by decide +kernel) rfl rfl) (
    okc (ok_bipush (n := 60) (by decide +kernel) (by decide +kernel) rfl) (
    okc (ok_callS (SPf_ok _ _ _ _ _ _) (mi := 94) (n := 3) (idx := 72) rfl m_W_within (by decide) w_351 w_352 (by decide +kernel) rfl) (
    okc (ok_if_ne (off := 6) (by decide +kernel) rfl rfl) (
    okc (ok_ldc (i := 79) w_357 (by decide +kernel) rfl) (
    okc (ok_iret rfl (by decide +kernel)) (
    okc (ok_aload_n (k := 0) (by decide +kernel) rfl rfl) (
    okc (ok_getR (k := 2) (idx := 22) cX8_ok (by decide) (by decide +kernel) w_315 (by decide +kernel) rfl) (
    okc (ok_aload_n (k := 0) (by decide +kernel) rfl rfl) (
    okc (ok_getR (k := 0) (idx := 10) cX8_ok (by decide) (by decide +kernel) w_313 (by decide +kernel) rfl) (
    okc (ok_callV (SPf_ok _ _ _ _ _ _) (mi := 132) (n := 1) (idx := 192) rfl m_F_findHoles (by decide) cX0_ok w_547 w_548 w_549 (by decide +kernel) rfl) (
    okc (ok_iconst (n := 0) (by decide +kernel) rfl rfl) (
    okc (ok_istore_n (k := 2) (by decide +kernel) rfl rfl) (
    okc (ok_iconst (n := 0) (by decide +kernel) rfl rfl) (
    okc (ok_istore_n (k := 3) (by decide +kernel) rfl rfl) (
    okc (ok_iload_n (k := 3) (by decide +kernel) rfl rfl) (
    okc (ok_bipush (n := 30) (by decide +kernel) (by decide +kernel) rfl) (
    okc (ok_cmp_ge (off := 24) (by decide +kernel) rfl rfl) (
    okc (ok_aload_n (k := 0) (by decide +kernel) rfl rfl) (
    okc (ok_getR (k := 2) (idx := 22) cX8_ok (by decide) (by decide +kernel) w_315 (by decide +kernel) rfl) (
    okc (ok_iload_n (k := 3) (by decide +kernel) rfl rfl) (
    okc (ok_callV (SPf_ok _ _ _ _ _ _) (mi := 133) (n := 1) (idx := 196) rfl m_F_holeOver (by decide) cX0_ok w_559 w_560 w_561 (by decide +kernel) rfl) (
    okc (ok_iload_n (k := 1) (by decide +kernel) rfl rfl) (
    okc (ok_cmp_ne (off := 6) (by decide +kernel) rfl rfl) (
    okc (ok_iinc (n := 1) (by decide +kernel) rfl rfl) (
    okc (ok_iinc (n := 1) (by decide +kernel) rfl rfl) (
    okc (ok_goto (off := -24) (by decide +kernel) rfl) (
    okc (ok_iload_n (k := 2) (by decide +kernel) rfl rfl) (
    okc (ok_iret rfl (by decide +kernel)) ( okn))))))))))))))))))))))))))))))
def pl_M_open : List (Nat × mA) := [(0, a_iload 1 1), (1, a_push 0 2), (2, a_push 60 4), (4, a_call 97 3 7), (7, a_if (fun x => decide (x ≠ 0)) 13 10), (10, a_push (-1000000001) 12), (12, a_iret), (13, a_aload 0 14), (14, a_callO 9 36 134 0 17), (17, a_push 0 18), (18, a_istore 2 19), (19, a_push 0 20), (20, a_istore 3 21), (21, a_iload 3 22), (22, a_push 30 24), (24, a_cmp (fun x y => decide (y ≤ x)) 50 27), (27, a_iload 2 28), (28, a_aload 0 29), (29, a_iload 3 30), (30, a_callO 9 36 135 1 33), (33, a_iload 1 34), (34, a_cmp (fun x y => decide (x ≠ y)) 41 37), (37, a_push 1 38), (38, a_goto 42), (41, a_push 0 42), (42, a_bin (fun x y => x + y) 43), (43, a_istore 2 44), (44, a_iinc 3 1 47), (47, a_goto 21), (50, a_iload 2 51), (51, a_iret)]
set_option maxRecDepth 20000 in
theorem ol_M_open : okall B sp D cA (SPf B sp Ls xs adK adV) MT ⟨"WreckSkyModel", "open", "(I)I"⟩ prog_11_method_44_code 4 (Option.some Jvm.ClassFile.FieldType.int) (pl_M_open) := by
  unfold pl_M_open
  exact
    okc (ok_iload_n (k := 1) (by decide +kernel) rfl rfl) (
    okc (ok_iconst (n := 0) (by decide +kernel) rfl rfl) (
    okc (ok_bipush (n := 60) (by decide +kernel) (by decide +kernel) rfl) (
    okc (ok_callS (SPf_ok _ _ _ _ _ _) (mi := 97) (n := 3) (idx := 84) rfl m_M_in (by decide) w_1106 w_1107 (by decide +kernel) rfl) (
    okc (ok_if_ne (off := 6) (by decide +kernel) rfl rfl) (
    okc (ok_ldc (i := 100) w_1112 (by decide +kernel) rfl) (
    okc (ok_iret rfl (by decide +kernel)) (
    okc (ok_aload_n (k := 0) (by decide +kernel) rfl rfl) (
    okc (ok_callV (SPf_ok _ _ _ _ _ _) (mi := 134) (n := 0) (idx := 178) rfl m_M_looksUp (by decide) cX9_ok w_1270 w_1272 w_41 (by decide +kernel) rfl) (
    okc (ok_iconst (n := 0) (by decide +kernel) rfl rfl) (
    okc (ok_istore_n (k := 2) (by decide +kernel) rfl rfl) (
    okc (ok_iconst (n := 0) (by decide +kernel) rfl rfl) (
    okc (ok_istore_n (k := 3) (by decide +kernel) rfl rfl) (
    okc (ok_iload_n (k := 3) (by decide +kernel) rfl rfl) (
    okc (ok_bipush (n := 30) (by decide +kernel) (by decide +kernel) rfl) (
    okc (ok_cmp_ge (off := 26) (by decide +kernel) rfl rfl) (
    okc (ok_iload_n (k := 2) (by decide +kernel) rfl rfl) (
    okc (ok_aload_n (k := 0) (by decide +kernel) rfl rfl) (
    okc (ok_iload_n (k := 3) (by decide +kernel) rfl rfl) (
    okc (ok_callV (SPf_ok _ _ _ _ _ _) (mi := 135) (n := 1) (idx := 181) rfl m_M_holeOf (by decide) cX9_ok w_1274 w_1276 w_42 (by decide +kernel) rfl) (
    okc (ok_iload_n (k := 1) (by decide +kernel) rfl rfl) (
    okc (ok_cmp_ne (off := 7) (by decide +kernel) rfl rfl) (
    okc (ok_iconst (n := 1) (by decide +kernel) rfl rfl) (
    okc (ok_goto (off := 4) (by decide +kernel) rfl) (
    okc (ok_iconst (n := 0) (by decide +kernel) rfl rfl) (
    okc (ok_iadd (by decide +kernel) rfl) (
    okc (ok_istore_n (k := 2) (by decide +kernel) rfl rfl) (
    okc (ok_iinc (n := 1) (by decide +kernel) rfl rfl) (
    okc (ok_goto (off := -26) (by decide +kernel) rfl) (
    okc (ok_iload_n (k := 2) (by decide +kernel) rfl rfl) (
    okc (ok_iret rfl (by decide +kernel)) ( okn)))))))))))))))))))))))))))))))
def pl_W_best : List (Nat × mA) := [(0, a_iload 1 1), (1, a_push 1 2), (2, a_push 60 4), (4, a_call 94 3 7), (7, a_if (fun x => decide (x = 0)) 19 10), (10, a_iload 2 11), (11, a_push 0 12), (12, a_push 1 13), (13, a_call 94 3 16), (16, a_if (fun x => decide (x ≠ 0)) 22 19), (19, a_push (-1000000001) 21), (21, a_iret), (22, a_aload 0 23), (23, a_getR 8 10 2 26), (26, a_aload 0 27), (27, a_getR 8 10 0 30), (30, a_iload 1 31), (31, a_callO 0 5 136 2 34), (34, a_aload 0 35), (35, a_getR 8 10 2 38), (38, a_iload 2 39), (39, a_callO 0 5 137 1 42), (42, a_iret)]
set_option maxRecDepth 20000 in
theorem ol_W_best : okall B sp D cA (SPf B sp Ls xs adK adV) MT ⟨"WreckSky", "best", "(II)I"⟩ prog_1_method_18_code 3 (Option.some Jvm.ClassFile.FieldType.int) (pl_W_best) := by
  unfold pl_W_best
  exact
    okc (ok_iload_n (k := 1) (by decide +kernel) rfl rfl) (
    okc (ok_iconst (n := 1) (by decide +kernel) rfl rfl) (
    okc (ok_bipush (n := 60) (by decide +kernel) (by decide +kernel) rfl) (
    okc (ok_callS (SPf_ok _ _ _ _ _ _) (mi := 94) (n := 3) (idx := 72) rfl m_W_within (by decide) w_351 w_352 (by decide +kernel) rfl) (
    okc (ok_if_eq (off := 12) (by decide +kernel) rfl rfl) (
    okc (ok_iload_n (k := 2) (by decide +kernel) rfl rfl) (
    okc (ok_iconst (n := 0) (by decide +kernel) rfl rfl) (
    okc (ok_iconst (n := 1) (by decide +kernel) rfl rfl) (
    okc (ok_callS (SPf_ok _ _ _ _ _ _) (mi := 94) (n := 3) (idx := 72) rfl m_W_within (by decide) w_351 w_352 (by decide +kernel) rfl) (
    okc (ok_if_ne (off := 6) (by decide +kernel) rfl rfl) (
    okc (ok_ldc (i := 79) w_357 (by decide +kernel) rfl) (
    okc (ok_iret rfl (by decide +kernel)) (
    okc (ok_aload_n (k := 0) (by decide +kernel) rfl rfl) (
    okc (ok_getR (k := 2) (idx := 22) cX8_ok (by decide) (by decide +kernel) w_315 (by decide +kernel) rfl) (
    okc (ok_aload_n (k := 0) (by decide +kernel) rfl rfl) (
    okc (ok_getR (k := 0) (idx := 10) cX8_ok (by decide) (by decide +kernel) w_313 (by decide +kernel) rfl) (
    okc (ok_iload_n (k := 1) (by decide +kernel) rfl rfl) (
    okc (ok_callV (SPf_ok _ _ _ _ _ _) (mi := 136) (n := 2) (idx := 199) rfl m_F_chooseSweep (by decide) cX0_ok w_571 w_572 w_573 (by decide +kernel) rfl) (
    okc (ok_aload_n (k := 0) (by decide +kernel) rfl rfl) (
    okc (ok_getR (k := 2) (idx := 22) cX8_ok (by decide) (by decide +kernel) w_315 (by decide +kernel) rfl) (
    okc (ok_iload_n (k := 2) (by decide +kernel) rfl rfl) (
    okc (ok_callV (SPf_ok _ _ _ _ _ _) (mi := 137) (n := 1) (idx := 203) rfl m_F_toldOf (by decide) cX0_ok w_583 w_584 w_585 (by decide +kernel) rfl) (
    okc (ok_iret rfl (by decide +kernel)) ( okn)))))))))))))))))))))))
def pl_M_best_1 : List (Nat × mA) := [(0, a_iload 1 1), (1, a_push 1 2), (2, a_push 60 4), (4, a_call 97 3 7), (7, a_if (fun x => decide (x = 0)) 19 10), (10, a_iload 2 11), (11, a_push 0 12), (12, a_push 1 13), (13, a_call 97 3 16), (16, a_if (fun x => decide (x ≠ 0)) 22 19), (19, a_push (-1000000001) 21), (21, a_iret), (22, a_aload 0 23), (23, a_callO 9 36 128 0 26), (26, a_push (-1) 27), (27, a_istore 3 28), (28, a_push 0 29), (29, a_istore 4 31), (31, a_push 0 32), (32, a_istore 5 34), (34, a_iload 5 36), (36, a_aload 0 37), (37, a_getR 9 36 0 40), (40, a_push 1 41), (41, a_ald 0 42), (42, a_cmp (fun x y => decide (y ≤ x)) 108 45), (45, a_aload 0 46), (46, a_iload 5 48), (48, a_callO 9 36 113 1 51), (51, a_if (fun x => decide (x = 0)) 102 54), (54, a_aload 0 55), (55, a_iload 5 57), (57, a_push 5 58), (58, a_push 0 59), (59, a_callO 9 36 114 3 62), (62, a_aload 0 63), (63, a_iload 1 64), (64, a_callO 9 36 138 1 67), (67, a_istore 6 69), (69, a_iload 3 70), (70, a_if (fun x => decide (x < 0)) 80 73), (73, a_iload 6 75), (75, a_iload 4 77), (77, a_cmp (fun x y => decide (y ≤ x)) 85 80), (80, a_iload 5 82), (82, a_goto 86), (85, a_iload 3 86), (86, a_istore 3 87), (87, a_iload 3 88), (88, a_iload 5 90), (90, a_cmp (fun x y => decide (x ≠ y)) 98 93), (93, a_iload 6 95), (95, a_goto 100), (98, a_iload 4 100), (100, a_istore 4 102), (102, a_iinc 5 1 105), (105, a_goto 34), (108, a_iload 3 109), (109, a_if (fun x => decide (0 ≤ x)) 117 112), (112, a_push (-1000000005) 114)]
set_option maxRecDepth 20000 in
theorem ol_M_best_1 : okall B sp D cA (SPf B sp Ls xs adK adV) MT ⟨"WreckSkyModel", "best", "(II)I"⟩ prog_11_method_46_code 7 (Option.some Jvm.ClassFile.FieldType.int) (pl_M_best_1) := by
  unfold pl_M_best_1
  exact
    okc (ok_iload_n (k := 1) (by decide +kernel) rfl rfl) (
    okc (ok_iconst (n := 1) (by decide +kernel) rfl rfl) (
    okc (ok_bipush (n := 60) (by decide +kernel) (by decide +kernel) rfl) (
    okc (ok_callS (SPf_ok _ _ _ _ _ _) (mi := 97) (n := 3) (idx := 84) rfl m_M_in (by decide) w_1106 w_1107 (by decide +kernel) rfl) (
    okc (ok_if_eq (off := 12) (by decide +kernel) rfl rfl) (
    okc (ok_iload_n (k := 2) (by decide +kernel) rfl rfl) (
    okc (ok_iconst (n := 0) (by decide +kernel) rfl rfl) (
    okc (ok_iconst (n := 1) (by decide +kernel) rfl rfl) (
    okc (ok_callS (SPf_ok _ _ _ _ _ _) (mi := 97) (n := 3) (idx := 84) rfl m_M_in (by decide) w_1106 w_1107 (by decide +kernel) rfl) (
    okc (ok_if_ne (off := 6) (by decide +kernel) rfl rfl) (
    okc (ok_ldc (i := 100) w_1112 (by decide +kernel) rfl) (
    okc (ok_iret rfl (by decide +kernel)) (
    okc (ok_aload_n (k := 0) (by decide +kernel) rfl rfl) (
    okc (ok_callV (SPf_ok _ _ _ _ _ _) (mi := 128) (n := 0) (idx := 171) rfl m_M_thinks (by decide) cX9_ok w_1253 w_1255 w_39 (by decide +kernel) rfl) (
    okc (ok_iconst (n := -1) (by decide +kernel) rfl rfl) (
    okc (ok_istore_n (k := 3) (by decide +kernel) rfl rfl) (
    okc (ok_iconst (n := 0) (by decide +kernel) rfl rfl) (
    okc (ok_istore (by decide +kernel) rfl) (
    okc (ok_iconst (n := 0) (by decide +kernel) rfl rfl) (
    okc (ok_istore (by decide +kernel) rfl) (
    okc (ok_iload (by decide +kernel) rfl) (
    okc (ok_aload_n (k := 0) (by decide +kernel) rfl rfl) (
    okc (ok_getR (k := 0) (idx := 9) cX9_ok (by decide) (by decide +kernel) w_991 (by decide +kernel) rfl) (
    okc (ok_iconst (n := 1) (by decide +kernel) rfl rfl) (
    okc (ok_iald (by decide +kernel) rfl) (
    okc (ok_cmp_ge (off := 66) (by decide +kernel) rfl rfl) (
    okc (ok_aload_n (k := 0) (by decide +kernel) rfl rfl) (
    okc (ok_iload (by decide +kernel) rfl) (
    okc (ok_callV (SPf_ok _ _ _ _ _ _) (mi := 113) (n := 1) (idx := 137) rfl m_M_isUp (by decide) cX9_ok w_1184 w_1186 w_30 (by decide +kernel) rfl) (
    okc (ok_if_eq (off := 51) (by decide +kernel) rfl rfl) (
    okc (ok_aload_n (k := 0) (by decide +kernel) rfl rfl) (
    okc (ok_iload (by decide +kernel) rfl) (
    okc (ok_iconst (n := 5) (by decide +kernel) rfl rfl) (
    okc (ok_iconst (n := 0) (by decide +kernel) rfl rfl) (
    okc (ok_callV (SPf_ok _ _ _ _ _ _) (mi := 114) (n := 3) (idx := 92) rfl m_M_put (by decide) cX9_ok w_1118 w_1120 w_21 (by decide +kernel) rfl) (
    okc (ok_aload_n (k := 0) (by decide +kernel) rfl rfl) (
    okc (ok_iload_n (k := 1) (by decide +kernel) rfl rfl) (
    okc (ok_callV (SPf_ok _ _ _ _ _ _) (mi := 138) (n := 1) (idx := 184) rfl m_M_brokenBehind (by decide) cX9_ok w_1286 w_1288 w_43 (by decide +kernel) rfl) (
    okc (ok_istore (by decide +kernel) rfl) (
    okc (ok_iload_n (k := 3) (by decide +kernel) rfl rfl) (
    okc (ok_if_lt (off := 10) (by decide +kernel) rfl rfl) (
    okc (ok_iload (by decide +kernel) rfl) (
    okc (ok_iload (by decide +kernel) rfl) (
    okc (ok_cmp_ge (off := 8) (by decide +kernel) rfl rfl) (
    okc (ok_iload (by decide +kernel) rfl) (
    okc (ok_goto (off := 4) (by decide +kernel) rfl) (
    okc (ok_iload_n (k := 3) (by decide +kernel) rfl rfl) (
    okc (ok_istore_n (k := 3) (by decide +kernel) rfl rfl) (
    okc (ok_iload_n (k := 3) (by decide +kernel) rfl rfl) (
    okc (ok_iload (by decide +kernel) rfl) (
    okc (ok_cmp_ne (off := 8) (by decide +kernel) rfl rfl) (
    okc (ok_iload (by decide +kernel) rfl) (
    okc (ok_goto (off := 5) (by decide +kernel) rfl) (
    okc (ok_iload (by decide +kernel) rfl) (
    okc (ok_istore (by decide +kernel) rfl) (
    okc (ok_iinc (n := 1) (by decide +kernel) rfl rfl) (
    okc (ok_goto (off := -71) (by decide +kernel) rfl) (
    okc (ok_iload_n (k := 3) (by decide +kernel) rfl rfl) (
    okc (ok_if_ge (off := 8) (by decide +kernel) rfl rfl) (
    okc (ok_ldc (i := 177) w_1265 (by decide +kernel) rfl) ( okn))))))))))))))))))))))))))))))))))))))))))))))))))))))))))))
def pl_M_best_2 : List (Nat × mA) := [(114, a_goto 127), (117, a_iload 2 118), (118, a_if (fun x => decide (x ≠ 0)) 125 121), (121, a_iload 3 122), (122, a_goto 127), (125, a_iload 4 127), (127, a_iret)]
set_option maxRecDepth 20000 in
theorem ol_M_best_2 : okall B sp D cA (SPf B sp Ls xs adK adV) MT ⟨"WreckSkyModel", "best", "(II)I"⟩ prog_11_method_46_code 7 (Option.some Jvm.ClassFile.FieldType.int) (pl_M_best_2) := by
  unfold pl_M_best_2
  exact
    okc (ok_goto (off := 13) (by decide +kernel) rfl) (
    okc (ok_iload_n (k := 2) (by decide +kernel) rfl rfl) (
    okc (ok_if_ne (off := 7) (by decide +kernel) rfl rfl) (
    okc (ok_iload_n (k := 3) (by decide +kernel) rfl rfl) (
    okc (ok_goto (off := 5) (by decide +kernel) rfl) (
    okc (ok_iload (by decide +kernel) rfl) (
    okc (ok_iret rfl (by decide +kernel)) ( okn)))))))
def pl_M_best : List (Nat × mA) := pl_M_best_1 ++ (pl_M_best_2)
theorem ol_M_best : okall B sp D cA (SPf B sp Ls xs adK adV) MT ⟨"WreckSkyModel", "best", "(II)I"⟩ prog_11_method_46_code 7 (Option.some Jvm.ClassFile.FieldType.int) (pl_M_best) := oka ol_M_best_1 (ol_M_best_2)
def pl_W_push : List (Nat × mA) := [(0, a_aload 0 1), (1, a_getR 8 10 0 4), (4, a_iload 1 5), (5, a_callO 3 11 100 1 8), (8, a_if (fun x => decide (x = 0)) 30 11), (11, a_iload 2 12), (12, a_push 1 13), (13, a_push 60 15), (15, a_call 94 3 18), (18, a_if (fun x => decide (x = 0)) 30 21), (21, a_iload 3 22), (22, a_push 0 23), (23, a_push 1 24), (24, a_call 94 3 27), (27, a_if (fun x => decide (x ≠ 0)) 33 30), (30, a_push (-1000000001) 32), (32, a_iret), (33, a_aload 0 34), (34, a_getR 8 10 2 37), (37, a_aload 0 38), (38, a_getR 8 10 0 41), (41, a_iload 1 42), (42, a_iload 2 43), (43, a_callO 0 5 139 3 46), (46, a_aload 0 47), (47, a_getR 8 10 2 50), (50, a_iload 3 51), (51, a_callO 0 5 137 1 54), (54, a_iret)]
set_option maxRecDepth 20000 in
theorem ol_W_push : okall B sp D cA (SPf B sp Ls xs adK adV) MT ⟨"WreckSky", "push", "(III)I"⟩ prog_1_method_19_code 4 (Option.some Jvm.ClassFile.FieldType.int) (pl_W_push) := by
  unfold pl_W_push
  exact
    okc (ok_aload_n (k := 0) (by decide +kernel) rfl rfl) (
    okc (ok_getR (k := 0) (idx := 10) cX8_ok (by decide) (by decide +kernel) w_313 (by decide +kernel) rfl) (
    okc (ok_iload_n (k := 1) (by decide +kernel) rfl rfl) (
    okc (ok_callV (SPf_ok _ _ _ _ _ _) (mi := 100) (n := 1) (idx := 88) rfl m_S_hasWreck (by decide) cX3_ok w_367 w_368 w_369 (by decide +kernel) rfl) (
    okc (ok_if_eq (off := 22) (by decide +kernel) rfl rfl) (
    okc (ok_iload_n (k := 2) (by decide +kernel) rfl rfl) (
    okc (ok_iconst (n := 1) (by decide +kernel) rfl rfl) (
    okc (ok_bipush (n := 60) (by decide +kernel) (by decide +kernel) rfl) (
    okc (ok_callS (SPf_ok _ _ _ _ _ _) (mi := 94) (n := 3) (idx := 72) rfl m_W_within (by decide) w_351 w_352 (by decide +kernel) rfl) (
    okc (ok_if_eq (off := 12) (by decide +kernel) rfl rfl) (
    okc (ok_iload_n (k := 3) (by decide +kernel) rfl rfl) (
    okc (ok_iconst (n := 0) (by decide +kernel) rfl rfl) (
    okc (ok_iconst (n := 1) (by decide +kernel) rfl rfl) (
    okc (ok_callS (SPf_ok _ _ _ _ _ _) (mi := 94) (n := 3) (idx := 72) rfl m_W_within (by decide) w_351 w_352 (by decide +kernel) rfl) (
    okc (ok_if_ne (off := 6) (by decide +kernel) rfl rfl) (
    okc (ok_ldc (i := 79) w_357 (by decide +kernel) rfl) (
    okc (ok_iret rfl (by decide +kernel)) (
    okc (ok_aload_n (k := 0) (by decide +kernel) rfl rfl) (
    okc (ok_getR (k := 2) (idx := 22) cX8_ok (by decide) (by decide +kernel) w_315 (by decide +kernel) rfl) (
    okc (ok_aload_n (k := 0) (by decide +kernel) rfl rfl) (
    okc (ok_getR (k := 0) (idx := 10) cX8_ok (by decide) (by decide +kernel) w_313 (by decide +kernel) rfl) (
    okc (ok_iload_n (k := 1) (by decide +kernel) rfl rfl) (
    okc (ok_iload_n (k := 2) (by decide +kernel) rfl rfl) (
    okc (ok_callV (SPf_ok _ _ _ _ _ _) (mi := 139) (n := 3) (idx := 206) rfl m_F_choosePace (by decide) cX0_ok w_591 w_592 w_593 (by decide +kernel) rfl) (
    okc (ok_aload_n (k := 0) (by decide +kernel) rfl rfl) (
    okc (ok_getR (k := 2) (idx := 22) cX8_ok (by decide) (by decide +kernel) w_315 (by decide +kernel) rfl) (
    okc (ok_iload_n (k := 3) (by decide +kernel) rfl rfl) (
    okc (ok_callV (SPf_ok _ _ _ _ _ _) (mi := 137) (n := 1) (idx := 203) rfl m_F_toldOf (by decide) cX0_ok w_583 w_584 w_585 (by decide +kernel) rfl) (
    okc (ok_iret rfl (by decide +kernel)) ( okn)))))))))))))))))))))))))))))
def pl_M_push_1 : List (Nat × mA) := [(0, a_aload 0 1), (1, a_iload 1 2), (2, a_callO 9 36 104 1 5), (5, a_if (fun x => decide (x = 0)) 27 8), (8, a_iload 2 9), (9, a_push 1 10), (10, a_push 60 12), (12, a_call 97 3 15), (15, a_if (fun x => decide (x = 0)) 27 18), (18, a_iload 3 19), (19, a_push 0 20), (20, a_push 1 21), (21, a_call 97 3 24), (24, a_if (fun x => decide (x ≠ 0)) 30 27), (27, a_push (-1000000001) 29), (29, a_iret), (30, a_aload 0 31), (31, a_callO 9 36 128 0 34), (34, a_push (-10) 36), (36, a_istore 4 38), (38, a_push 0 39), (39, a_istore 5 41), (41, a_push (-9) 43), (43, a_istore 6 45), (45, a_iload 6 47), (47, a_push 10 49), (49, a_cmp (fun x y => decide (y ≤ x)) 112 52), (52, a_aload 0 53), (53, a_iload 1 54), (54, a_push 3 55), (55, a_iload 6 57), (57, a_callO 9 36 114 3 60), (60, a_aload 0 61), (61, a_iload 2 62), (62, a_callO 9 36 138 1 65), (65, a_istore 7 67), (67, a_iload 4 69), (69, a_push (-9) 71), (71, a_cmp (fun x y => decide (x < y)) 81 74), (74, a_iload 7 76), (76, a_iload 5 78), (78, a_cmp (fun x y => decide (y ≤ x)) 86 81), (81, a_iload 6 83), (83, a_goto 88), (86, a_iload 4 88), (88, a_istore 4 90), (90, a_iload 4 92), (92, a_iload 6 94), (94, a_cmp (fun x y => decide (x ≠ y)) 102 97), (97, a_iload 7 99), (99, a_goto 104), (102, a_iload 5 104), (104, a_istore 5 106), (106, a_iinc 6 1 109), (109, a_goto 45), (112, a_iload 3 113), (113, a_if (fun x => decide (x ≠ 0)) 121 116), (116, a_iload 4 118), (118, a_goto 123), (121, a_iload 5 123)]
set_option maxRecDepth 20000 in
theorem ol_M_push_1 : okall B sp D cA (SPf B sp Ls xs adK adV) MT ⟨"WreckSkyModel", "push", "(III)I"⟩ prog_11_method_47_code 8 (Option.some Jvm.ClassFile.FieldType.int) (pl_M_push_1) := by
  unfold pl_M_push_1
  exact
    okc (ok_aload_n (k := 0) (by decide +kernel) rfl rfl) (
    okc (ok_iload_n (k := 1) (by decide +kernel) rfl rfl) (
    okc (ok_callV (SPf_ok _ _ _ _ _ _) (mi := 104) (n := 1) (idx := 117) rfl m_M_isWreck (by decide) cX9_ok w_1126 w_1128 w_22 (by decide +kernel) rfl) (
    okc (ok_if_eq (off := 22) (by decide +kernel) rfl rfl) (
    okc (ok_iload_n (k := 2) (by decide +kernel) rfl rfl) (
    okc (ok_iconst (n := 1) (by decide +kernel) rfl rfl) (
    okc (ok_bipush (n := 60) (by decide +kernel) (by decide +kernel) rfl) (
    okc (ok_callS (SPf_ok _ _ _ _ _ _) (mi := 97) (n := 3) (idx := 84) rfl m_M_in (by decide) w_1106 w_1107 (by decide +kernel) rfl) (
    okc (ok_if_eq (off := 12) (by decide +kernel) rfl rfl) (
    okc (ok_iload_n (k := 3) (by decide +kernel) rfl rfl) (
    okc (ok_iconst (n := 0) (by decide +kernel) rfl rfl) (
    okc (ok_iconst (n := 1) (by decide +kernel) rfl rfl) (
    okc (ok_callS (SPf_ok _ _ _ _ _ _) (mi := 97) (n := 3) (idx := 84) rfl m_M_in (by decide) w_1106 w_1107 (by decide +kernel) rfl) (
    okc (ok_if_ne (off := 6) (by decide +kernel) rfl rfl) (
    okc (ok_ldc (i := 100) w_1112 (by decide +kernel) rfl) (
    okc (ok_iret rfl (by decide +kernel)) (
    okc (ok_aload_n (k := 0) (by decide +kernel) rfl rfl) (
    okc (ok_callV (SPf_ok _ _ _ _ _ _) (mi := 128) (n := 0) (idx := 171) rfl m_M_thinks (by decide) cX9_ok w_1253 w_1255 w_39 (by decide +kernel) rfl) (
    okc (ok_bipush (n := -10) (by decide +kernel) (by decide +kernel) rfl) (
    okc (ok_istore (by decide +kernel) rfl) (
    okc (ok_iconst (n := 0) (by decide +kernel) rfl rfl) (
    okc (ok_istore (by decide +kernel) rfl) (
    okc (ok_bipush (n := -9) (by decide +kernel) (by decide +kernel) rfl) (
    okc (ok_istore (by decide +kernel) rfl) (
    okc (ok_iload (by decide +kernel) rfl) (
    okc (ok_bipush (n := 10) (by decide +kernel) (by decide +kernel) rfl) (
    okc (ok_cmp_ge (off := 63) (by decide +kernel) rfl rfl) (
    okc (ok_aload_n (k := 0) (by decide +kernel) rfl rfl) (
    okc (ok_iload_n (k := 1) (by decide +kernel) rfl rfl) (
    okc (ok_iconst (n := 3) (by decide +kernel) rfl rfl) (
    okc (ok_iload (by decide +kernel) rfl) (
    okc (ok_callV (SPf_ok _ _ _ _ _ _) (mi := 114) (n := 3) (idx := 92) rfl m_M_put (by decide) cX9_ok w_1118 w_1120 w_21 (by decide +kernel) rfl) (
    okc (ok_aload_n (k := 0) (by decide +kernel) rfl rfl) (
    okc (ok_iload_n (k := 2) (by decide +kernel) rfl rfl) (
    okc (ok_callV (SPf_ok _ _ _ _ _ _) (mi := 138) (n := 1) (idx := 184) rfl m_M_brokenBehind (by decide) cX9_ok w_1286 w_1288 w_43 (by decide +kernel) rfl) (
    okc (ok_istore (by decide +kernel) rfl) (
    okc (ok_iload (by decide +kernel) rfl) (
    okc (ok_bipush (n := -9) (by decide +kernel) (by decide +kernel) rfl) (
    okc (ok_cmp_lt (off := 10) (by decide +kernel) rfl rfl) (
    okc (ok_iload (by decide +kernel) rfl) (
    okc (ok_iload (by decide +kernel) rfl) (
    okc (ok_cmp_ge (off := 8) (by decide +kernel) rfl rfl) (
    okc (ok_iload (by decide +kernel) rfl) (
    okc (ok_goto (off := 5) (by decide +kernel) rfl) (
    okc (ok_iload (by decide +kernel) rfl) (
    okc (ok_istore (by decide +kernel) rfl) (
    okc (ok_iload (by decide +kernel) rfl) (
    okc (ok_iload (by decide +kernel) rfl) (
    okc (ok_cmp_ne (off := 8) (by decide +kernel) rfl rfl) (
    okc (ok_iload (by decide +kernel) rfl) (
    okc (ok_goto (off := 5) (by decide +kernel) rfl) (
    okc (ok_iload (by decide +kernel) rfl) (
    okc (ok_istore (by decide +kernel) rfl) (
    okc (ok_iinc (n := 1) (by decide +kernel) rfl rfl) (
    okc (ok_goto (off := -64) (by decide +kernel) rfl) (
    okc (ok_iload_n (k := 3) (by decide +kernel) rfl rfl) (
    okc (ok_if_ne (off := 8) (by decide +kernel) rfl rfl) (
    okc (ok_iload (by decide +kernel) rfl) (
    okc (ok_goto (off := 5) (by decide +kernel) rfl) (
    okc (ok_iload (by decide +kernel) rfl) ( okn))))))))))))))))))))))))))))))))))))))))))))))))))))))))))))
def pl_M_push_2 : List (Nat × mA) := [(123, a_iret)]
set_option maxRecDepth 20000 in
theorem ol_M_push_2 : okall B sp D cA (SPf B sp Ls xs adK adV) MT ⟨"WreckSkyModel", "push", "(III)I"⟩ prog_11_method_47_code 8 (Option.some Jvm.ClassFile.FieldType.int) (pl_M_push_2) := by
  unfold pl_M_push_2
  exact
    okc (ok_iret rfl (by decide +kernel)) ( okn)
def pl_M_push : List (Nat × mA) := pl_M_push_1 ++ (pl_M_push_2)
theorem ol_M_push : okall B sp D cA (SPf B sp Ls xs adK adV) MT ⟨"WreckSkyModel", "push", "(III)I"⟩ prog_11_method_47_code 8 (Option.some Jvm.ClassFile.FieldType.int) (pl_M_push) := oka ol_M_push_1 (ol_M_push_2)
def pl_W_under : List (Nat × mA) := [(0, a_iload 1 1), (1, a_push 1 2), (2, a_push 100 4), (4, a_call 94 3 7), (7, a_if (fun x => decide (x = 0)) 19 10), (10, a_iload 2 11), (11, a_push 0 12), (12, a_push 1 13), (13, a_call 94 3 16), (16, a_if (fun x => decide (x ≠ 0)) 22 19), (19, a_push (-1000000001) 21), (21, a_iret), (22, a_aload 0 23), (23, a_getR 8 10 2 26), (26, a_aload 0 27), (27, a_getR 8 10 0 30), (30, a_iload 1 31), (31, a_callO 0 5 140 2 34), (34, a_aload 0 35), (35, a_getR 8 10 2 38), (38, a_iload 2 39), (39, a_callO 0 5 137 1 42), (42, a_iret)]
set_option maxRecDepth 20000 in
theorem ol_W_under : okall B sp D cA (SPf B sp Ls xs adK adV) MT ⟨"WreckSky", "under", "(II)I"⟩ prog_1_method_20_code 3 (Option.some Jvm.ClassFile.FieldType.int) (pl_W_under) := by
  unfold pl_W_under
  exact
    okc (ok_iload_n (k := 1) (by decide +kernel) rfl rfl) (
    okc (ok_iconst (n := 1) (by decide +kernel) rfl rfl) (
    okc (ok_bipush (n := 100) (by decide +kernel) (by decide +kernel) rfl) (
    okc (ok_callS (SPf_ok _ _ _ _ _ _) (mi := 94) (n := 3) (idx := 72) rfl m_W_within (by decide) w_351 w_352 (by decide +kernel) rfl) (
    okc (ok_if_eq (off := 12) (by decide +kernel) rfl rfl) (
    okc (ok_iload_n (k := 2) (by decide +kernel) rfl rfl) (
    okc (ok_iconst (n := 0) (by decide +kernel) rfl rfl) (
    okc (ok_iconst (n := 1) (by decide +kernel) rfl rfl) (
    okc (ok_callS (SPf_ok _ _ _ _ _ _) (mi := 94) (n := 3) (idx := 72) rfl m_W_within (by decide) w_351 w_352 (by decide +kernel) rfl) (
    okc (ok_if_ne (off := 6) (by decide +kernel) rfl rfl) (
    okc (ok_ldc (i := 79) w_357 (by decide +kernel) rfl) (
    okc (ok_iret rfl (by decide +kernel)) (
    okc (ok_aload_n (k := 0) (by decide +kernel) rfl rfl) (
    okc (ok_getR (k := 2) (idx := 22) cX8_ok (by decide) (by decide +kernel) w_315 (by decide +kernel) rfl) (
    okc (ok_aload_n (k := 0) (by decide +kernel) rfl rfl) (
    okc (ok_getR (k := 0) (idx := 10) cX8_ok (by decide) (by decide +kernel) w_313 (by decide +kernel) rfl) (
    okc (ok_iload_n (k := 1) (by decide +kernel) rfl rfl) (
    okc (ok_callV (SPf_ok _ _ _ _ _ _) (mi := 140) (n := 2) (idx := 210) rfl m_F_choosePlaceUnder (by decide) cX0_ok w_599 w_600 w_601 (by decide +kernel) rfl) (
    okc (ok_aload_n (k := 0) (by decide +kernel) rfl rfl) (
    okc (ok_getR (k := 2) (idx := 22) cX8_ok (by decide) (by decide +kernel) w_315 (by decide +kernel) rfl) (
    okc (ok_iload_n (k := 2) (by decide +kernel) rfl rfl) (
    okc (ok_callV (SPf_ok _ _ _ _ _ _) (mi := 137) (n := 1) (idx := 203) rfl m_F_toldOf (by decide) cX0_ok w_583 w_584 w_585 (by decide +kernel) rfl) (
    okc (ok_iret rfl (by decide +kernel)) ( okn)))))))))))))))))))))))
def pl_M_under_1 : List (Nat × mA) := [(0, a_iload 1 1), (1, a_push 1 2), (2, a_push 100 4), (4, a_call 97 3 7), (7, a_if (fun x => decide (x = 0)) 19 10), (10, a_iload 2 11), (11, a_push 0 12), (12, a_push 1 13), (13, a_call 97 3 16), (16, a_if (fun x => decide (x ≠ 0)) 22 19), (19, a_push (-1000000001) 21), (21, a_iret), (22, a_aload 0 23), (23, a_callO 9 36 128 0 26), (26, a_push 0 27), (27, a_istore 3 28), (28, a_iload 3 29), (29, a_push 30 31), (31, a_cmp (fun x y => decide (y ≤ x)) 47 34), (34, a_aload 0 35), (35, a_getR 9 36 6 38), (38, a_iload 3 39), (39, a_push 0 40), (40, a_ast 0 (fun x => x) 41), (41, a_iinc 3 1 44), (44, a_goto 28), (47, a_push 0 48), (48, a_istore 3 49), (49, a_iload 3 50), (50, a_iload 1 51), (51, a_cmp (fun x y => decide (y ≤ x)) 147 54), (54, a_aload 0 55), (55, a_callO 9 36 131 0 58), (58, a_push 0 59), (59, a_istore 4 61), (61, a_push 0 62), (62, a_istore 5 64), (64, a_iload 5 66), (66, a_aload 0 67), (67, a_getR 9 36 0 70), (70, a_push 1 71), (71, a_ald 0 72), (72, a_cmp (fun x y => decide (y ≤ x)) 108 75), (75, a_iload 4 77), (77, a_aload 0 78), (78, a_iload 5 80), (80, a_callO 9 36 113 1 83), (83, a_if (fun x => decide (x = 0)) 98 86), (86, a_push 1 87), (87, a_aload 0 88), (88, a_iload 5 90), (90, a_push 2 91), (91, a_callO 9 36 105 2 94), (94, a_bin (fun x y => x <<< (y &&& 31)) 95), (95, a_goto 99), (98, a_push 0 99), (99, a_bin (fun x y => x ||| y) 100), (100, a_istore 4 102), (102, a_iinc 5 1 105), (105, a_goto 64)]
set_option maxRecDepth 20000 in
theorem ol_M_under_1 : okall B sp D cA (SPf B sp Ls xs adK adV) MT ⟨"WreckSkyModel", "under", "(II)I"⟩ prog_11_method_48_code 6 (Option.some Jvm.ClassFile.FieldType.int) (pl_M_under_1) := by
  unfold pl_M_under_1
  exact
    okc (ok_iload_n (k := 1) (by decide +kernel) rfl rfl) (
    okc (ok_iconst (n := 1) (by decide +kernel) rfl rfl) (
    okc (ok_bipush (n := 100) (by decide +kernel) (by decide +kernel) rfl) (
    okc (ok_callS (SPf_ok _ _ _ _ _ _) (mi := 97) (n := 3) (idx := 84) rfl m_M_in (by decide) w_1106 w_1107 (by decide +kernel) rfl) (
    okc (ok_if_eq (off := 12) (by decide +kernel) rfl rfl) (
    okc (ok_iload_n (k := 2) (by decide +kernel) rfl rfl) (
    okc (ok_iconst (n := 0) (by decide +kernel) rfl rfl) (
    okc (ok_iconst (n := 1) (by decide +kernel) rfl rfl) (
    okc (ok_callS (SPf_ok _ _ _ _ _ _) (mi := 97) (n := 3) (idx := 84) rfl m_M_in (by decide) w_1106 w_1107 (by decide +kernel) rfl) (
    okc (ok_if_ne (off := 6) (by decide +kernel) rfl rfl) (
    okc (ok_ldc (i := 100) w_1112 (by decide +kernel) rfl) (
    okc (ok_iret rfl (by decide +kernel)) (
    okc (ok_aload_n (k := 0) (by decide +kernel) rfl rfl) (
    okc (ok_callV (SPf_ok _ _ _ _ _ _) (mi := 128) (n := 0) (idx := 171) rfl m_M_thinks (by decide) cX9_ok w_1253 w_1255 w_39 (by decide +kernel) rfl) (
    okc (ok_iconst (n := 0) (by decide +kernel) rfl rfl) (
    okc (ok_istore_n (k := 3) (by decide +kernel) rfl rfl) (
    okc (ok_iload_n (k := 3) (by decide +kernel) rfl rfl) (
    okc (ok_bipush (n := 30) (by decide +kernel) (by decide +kernel) rfl) (
    okc (ok_cmp_ge (off := 16) (by decide +kernel) rfl rfl) (
    okc (ok_aload_n (k := 0) (by decide +kernel) rfl rfl) (
    okc (ok_getR (k := 6) (idx := 25) cX9_ok (by decide) (by decide +kernel) w_997 (by decide +kernel) rfl) (
    okc (ok_iload_n (k := 3) (by decide +kernel) rfl rfl) (
    okc (ok_iconst (n := 0) (by decide +kernel) rfl rfl) (
    okc (ok_iast (by decide +kernel) rfl) (
    okc (ok_iinc (n := 1) (by decide +kernel) rfl rfl) (
    okc (ok_goto (off := -16) (by decide +kernel) rfl) (
    okc (ok_iconst (n := 0) (by decide +kernel) rfl rfl) (
    okc (ok_istore_n (k := 3) (by decide +kernel) rfl rfl) (
    okc (ok_iload_n (k := 3) (by decide +kernel) rfl rfl) (
    okc (ok_iload_n (k := 1) (by decide +kernel) rfl rfl) (
    okc (ok_cmp_ge (off := 96) (by decide +kernel) rfl rfl) (
    okc (ok_aload_n (k := 0) (by decide +kernel) rfl rfl) (
    okc (ok_callV (SPf_ok _ _ _ _ _ _) (mi := 131) (n := 0) (idx := 162) rfl m_M_hour (by decide) cX9_ok w_1222 w_1224 w_34 (by decide +kernel) rfl) (
    okc (ok_iconst (n := 0) (by decide +kernel) rfl rfl) (
    okc (ok_istore (by decide +kernel) rfl) (
    okc (ok_iconst (n := 0) (by decide +kernel) rfl rfl) (
    okc (ok_istore (by decide +kernel) rfl) (
    okc (ok_iload (by decide +kernel) rfl) (
    okc (ok_aload_n (k := 0) (by decide +kernel) rfl rfl) (
    okc (ok_getR (k := 0) (idx := 9) cX9_ok (by decide) (by decide +kernel) w_991 (by decide +kernel) rfl) (
    okc (ok_iconst (n := 1) (by decide +kernel) rfl rfl) (
    okc (ok_iald (by decide +kernel) rfl) (
    okc (ok_cmp_ge (off := 36) (by decide +kernel) rfl rfl) (
    okc (ok_iload (by decide +kernel) rfl) (
    okc (ok_aload_n (k := 0) (by decide +kernel) rfl rfl) (
    okc (ok_iload (by decide +kernel) rfl) (
    okc (ok_callV (SPf_ok _ _ _ _ _ _) (mi := 113) (n := 1) (idx := 137) rfl m_M_isUp (by decide) cX9_ok w_1184 w_1186 w_30 (by decide +kernel) rfl) (
    okc (ok_if_eq (off := 15) (by decide +kernel) rfl rfl) (
    okc (ok_iconst (n := 1) (by decide +kernel) rfl rfl) (
    okc (ok_aload_n (k := 0) (by decide +kernel) rfl rfl) (
    okc (ok_iload (by decide +kernel) rfl) (
    okc (ok_iconst (n := 2) (by decide +kernel) rfl rfl) (
    okc (ok_callV (SPf_ok _ _ _ _ _ _) (mi := 105) (n := 2) (idx := 88) rfl m_M_of (by decide) cX9_ok w_1130 w_1132 w_23 (by decide +kernel) rfl) (
    okc (ok_ishl (by decide +kernel) rfl) (
    okc (ok_goto (off := 4) (by decide +kernel) rfl) (
    okc (ok_iconst (n := 0) (by decide +kernel) rfl rfl) (
    okc (ok_ior (by decide +kernel) rfl) (
    okc (ok_istore (by decide +kernel) rfl) (
    okc (ok_iinc (n := 1) (by decide +kernel) rfl rfl) (
    okc (ok_goto (off := -41) (by decide +kernel) rfl) ( okn))))))))))))))))))))))))))))))))))))))))))))))))))))))))))))
def pl_M_under_2 : List (Nat × mA) := [(108, a_push 0 109), (109, a_istore 5 111), (111, a_iload 5 113), (113, a_push 30 115), (115, a_cmp (fun x y => decide (y ≤ x)) 141 118), (118, a_aload 0 119), (119, a_getR 9 36 6 122), (122, a_iload 5 124), (124, a_dup2 125), (125, a_ald 0 126), (126, a_iload 4 128), (128, a_iload 5 130), (130, a_bin (fun x y => x >>> (y &&& 31)) 131), (131, a_push 1 132), (132, a_bin (fun x y => x &&& y) 133), (133, a_bin (fun x y => x + y) 134), (134, a_ast 0 (fun x => x) 135), (135, a_iinc 5 1 138), (138, a_goto 111), (141, a_iinc 3 1 144), (144, a_goto 49), (147, a_aload 0 148), (148, a_callO 9 36 129 0 151), (151, a_push 0 152), (152, a_istore 3 153), (153, a_push 1 154), (154, a_istore 4 156), (156, a_iload 4 158), (158, a_push 30 160), (160, a_cmp (fun x y => decide (y ≤ x)) 192 163), (163, a_aload 0 164), (164, a_getR 9 36 6 167), (167, a_iload 4 169), (169, a_ald 0 170), (170, a_aload 0 171), (171, a_getR 9 36 6 174), (174, a_iload 3 175), (175, a_ald 0 176), (176, a_cmp (fun x y => decide (x ≤ y)) 184 179), (179, a_iload 4 181), (181, a_goto 185), (184, a_iload 3 185), (185, a_istore 3 186), (186, a_iinc 4 1 189), (189, a_goto 156), (192, a_iload 2 193), (193, a_if (fun x => decide (x ≠ 0)) 200 196), (196, a_iload 3 197), (197, a_goto 206), (200, a_aload 0 201), (201, a_getR 9 36 6 204), (204, a_iload 3 205), (205, a_ald 0 206), (206, a_iret)]
set_option maxRecDepth 20000 in
theorem ol_M_under_2 : okall B sp D cA (SPf B sp Ls xs adK adV) MT ⟨"WreckSkyModel", "under", "(II)I"⟩ prog_11_method_48_code 6 (Option.some Jvm.ClassFile.FieldType.int) (pl_M_under_2) := by
  unfold pl_M_under_2
  exact
    okc (ok_iconst (n := 0) (by decide +kernel) rfl rfl) (
    okc (ok_istore (by decide +kernel) rfl) (
    okc (ok_iload (by decide +kernel) rfl) (
    okc (ok_bipush (n := 30) (by decide +kernel) (by decide +kernel) rfl) (
    okc (ok_cmp_ge (off := 26) (by decide +kernel) rfl rfl) (
    okc (ok_aload_n (k := 0) (by decide +kernel) rfl rfl) (
    okc (ok_getR (k := 6) (idx := 25) cX9_ok (by decide) (by decide +kernel) w_997 (by decide +kernel) rfl) (
    okc (ok_iload (by decide +kernel) rfl) (
    okc (ok_dup2 (by decide +kernel) rfl) (
    okc (ok_iald (by decide +kernel) rfl) (
    okc (ok_iload (by decide +kernel) rfl) (
    okc (ok_iload (by decide +kernel) rfl) (
    okc (ok_ishr (by decide +kernel) rfl) (
    okc (ok_iconst (n := 1) (by decide +kernel) rfl rfl) (
    okc (ok_iand (by decide +kernel) rfl) (
    okc (ok_iadd (by decide +kernel) rfl) (
    okc (ok_iast (by decide +kernel) rfl) (
    okc (ok_iinc (n := 1) (by decide +kernel) rfl rfl) (
    okc (ok_goto (off := -27) (by decide +kernel) rfl) (
    okc (ok_iinc (n := 1) (by decide +kernel) rfl rfl) (
    okc (ok_goto (off := -95) (by decide +kernel) rfl) (
    okc (ok_aload_n (k := 0) (by decide +kernel) rfl rfl) (
    okc (ok_callV (SPf_ok _ _ _ _ _ _) (mi := 129) (n := 0) (idx := 174) rfl m_M_putsBack (by decide) cX9_ok w_1257 w_1259 w_40 (by decide +kernel) rfl) (
    okc (ok_iconst (n := 0) (by decide +kernel) rfl rfl) (
    okc (ok_istore_n (k := 3) (by decide +kernel) rfl rfl) (
    okc (ok_iconst (n := 1) (by decide +kernel) rfl rfl) (
    okc (ok_istore (by decide +kernel) rfl) (
    okc (ok_iload (by decide +kernel) rfl) (
    okc (ok_bipush (n := 30) (by decide +kernel) (by decide +kernel) rfl) (
    okc (ok_cmp_ge (off := 32) (by decide +kernel) rfl rfl) (
    okc (ok_aload_n (k := 0) (by decide +kernel) rfl rfl) (
    okc (ok_getR (k := 6) (idx := 25) cX9_ok (by decide) (by decide +kernel) w_997 (by decide +kernel) rfl) (
    okc (ok_iload (by decide +kernel) rfl) (
    okc (ok_iald (by decide +kernel) rfl) (
    okc (ok_aload_n (k := 0) (by decide +kernel) rfl rfl) (
    okc (ok_getR (k := 6) (idx := 25) cX9_ok (by decide) (by decide +kernel) w_997 (by decide +kernel) rfl) (
    okc (ok_iload_n (k := 3) (by decide +kernel) rfl rfl) (
    okc (ok_iald (by decide +kernel) rfl) (
    okc (ok_cmp_le (off := 8) (by decide +kernel) rfl rfl) (
    okc (ok_iload (by decide +kernel) rfl) (
    okc (ok_goto (off := 4) (by decide +kernel) rfl) (
    okc (ok_iload_n (k := 3) (by decide +kernel) rfl rfl) (
    okc (ok_istore_n (k := 3) (by decide +kernel) rfl rfl) (
    okc (ok_iinc (n := 1) (by decide +kernel) rfl rfl) (
    okc (ok_goto (off := -33) (by decide +kernel) rfl) (
    okc (ok_iload_n (k := 2) (by decide +kernel) rfl rfl) (
    okc (ok_if_ne (off := 7) (by decide +kernel) rfl rfl) (
    okc (ok_iload_n (k := 3) (by decide +kernel) rfl rfl) (
    okc (ok_goto (off := 9) (by decide +kernel) rfl) (
    okc (ok_aload_n (k := 0) (by decide +kernel) rfl rfl) (
    okc (ok_getR (k := 6) (idx := 25) cX9_ok (by decide) (by decide +kernel) w_997 (by decide +kernel) rfl) (
    okc (ok_iload_n (k := 3) (by decide +kernel) rfl rfl) (
    okc (ok_iald (by decide +kernel) rfl) (
    okc (ok_iret rfl (by decide +kernel)) ( okn))))))))))))))))))))))))))))))))))))))))))))))))))))))
def pl_M_under : List (Nat × mA) := pl_M_under_1 ++ (pl_M_under_2)
theorem ol_M_under : okall B sp D cA (SPf B sp Ls xs adK adV) MT ⟨"WreckSkyModel", "under", "(II)I"⟩ prog_11_method_48_code 6 (Option.some Jvm.ClassFile.FieldType.int) (pl_M_under) := oka ol_M_under_1 (ol_M_under_2)
def pl_W_nearest : List (Nat × mA) := [(0, a_aload 0 1), (1, a_getR 8 10 0 4), (4, a_iload 1 5), (5, a_callO 3 11 100 1 8), (8, a_if (fun x => decide (x = 0)) 21 11), (11, a_iload 2 12), (12, a_push 0 13), (13, a_push 100 15), (15, a_call 94 3 18), (18, a_if (fun x => decide (x ≠ 0)) 24 21), (21, a_push (-1000000001) 23), (23, a_iret), (24, a_aload 0 25), (25, a_getR 8 10 2 28), (28, a_aload 0 29), (29, a_getR 8 10 0 32), (32, a_iload 1 33), (33, a_iload 2 34), (34, a_callO 0 5 141 3 37), (37, a_iret)]
set_option maxRecDepth 20000 in
theorem ol_W_nearest : okall B sp D cA (SPf B sp Ls xs adK adV) MT ⟨"WreckSky", "nearest", "(II)I"⟩ prog_1_method_21_code 3 (Option.some Jvm.ClassFile.FieldType.int) (pl_W_nearest) := by
  unfold pl_W_nearest
  exact
    okc (ok_aload_n (k := 0) (by decide +kernel) rfl rfl) (
    okc (ok_getR (k := 0) (idx := 10) cX8_ok (by decide) (by decide +kernel) w_313 (by decide +kernel) rfl) (
    okc (ok_iload_n (k := 1) (by decide +kernel) rfl rfl) (
    okc (ok_callV (SPf_ok _ _ _ _ _ _) (mi := 100) (n := 1) (idx := 88) rfl m_S_hasWreck (by decide) cX3_ok w_367 w_368 w_369 (by decide +kernel) rfl) (
    okc (ok_if_eq (off := 13) (by decide +kernel) rfl rfl) (
    okc (ok_iload_n (k := 2) (by decide +kernel) rfl rfl) (
    okc (ok_iconst (n := 0) (by decide +kernel) rfl rfl) (
    okc (ok_bipush (n := 100) (by decide +kernel) (by decide +kernel) rfl) (
    okc (ok_callS (SPf_ok _ _ _ _ _ _) (mi := 94) (n := 3) (idx := 72) rfl m_W_within (by decide) w_351 w_352 (by decide +kernel) rfl) (
    okc (ok_if_ne (off := 6) (by decide +kernel) rfl rfl) (
    okc (ok_ldc (i := 79) w_357 (by decide +kernel) rfl) (
    okc (ok_iret rfl (by decide +kernel)) (
    okc (ok_aload_n (k := 0) (by decide +kernel) rfl rfl) (
    okc (ok_getR (k := 2) (idx := 22) cX8_ok (by decide) (by decide +kernel) w_315 (by decide +kernel) rfl) (
    okc (ok_aload_n (k := 0) (by decide +kernel) rfl rfl) (
    okc (ok_getR (k := 0) (idx := 10) cX8_ok (by decide) (by decide +kernel) w_313 (by decide +kernel) rfl) (
    okc (ok_iload_n (k := 1) (by decide +kernel) rfl rfl) (
    okc (ok_iload_n (k := 2) (by decide +kernel) rfl rfl) (
    okc (ok_callV (SPf_ok _ _ _ _ _ _) (mi := 141) (n := 3) (idx := 213) rfl m_F_nearestWay (by decide) cX0_ok w_611 w_612 w_613 (by decide +kernel) rfl) (
    okc (ok_iret rfl (by decide +kernel)) ( okn))))))))))))))))))))
def pl_M_nearest : List (Nat × mA) := [(0, a_aload 0 1), (1, a_iload 1 2), (2, a_callO 9 36 104 1 5), (5, a_if (fun x => decide (x = 0)) 18 8), (8, a_iload 2 9), (9, a_push 0 10), (10, a_push 100 12), (12, a_call 97 3 15), (15, a_if (fun x => decide (x ≠ 0)) 21 18), (18, a_push (-1000000001) 20), (20, a_iret), (21, a_aload 0 22), (22, a_callO 9 36 128 0 25), (25, a_aload 0 26), (26, a_iload 1 27), (27, a_push (-1000000005) 29), (29, a_callO 9 36 142 2 32), (32, a_istore 3 33), (33, a_push 0 34), (34, a_istore 4 36), (36, a_iload 4 38), (38, a_iload 2 39), (39, a_cmp (fun x y => decide (y ≤ x)) 59 42), (42, a_aload 0 43), (43, a_callO 9 36 131 0 46), (46, a_aload 0 47), (47, a_iload 1 48), (48, a_iload 3 49), (49, a_callO 9 36 142 2 52), (52, a_istore 3 53), (53, a_iinc 4 1 56), (56, a_goto 36), (59, a_aload 0 60), (60, a_callO 9 36 129 0 63), (63, a_iload 3 64), (64, a_iret)]
set_option maxRecDepth 20000 in
theorem ol_M_nearest : okall B sp D cA (SPf B sp Ls xs adK adV) MT ⟨"WreckSkyModel", "nearest", "(II)I"⟩ prog_11_method_51_code 5 (Option.some Jvm.ClassFile.FieldType.int) (pl_M_nearest) := by
  unfold pl_M_nearest
  exact
    okc (ok_aload_n (k := 0) (by decide +kernel) rfl rfl) (
    okc (ok_iload_n (k := 1) (by decide +kernel) rfl rfl) (
    okc (ok_callV (SPf_ok _ _ _ _ _ _) (mi := 104) (n := 1) (idx := 117) rfl m_M_isWreck (by decide) cX9_ok w_1126 w_1128 w_22 (by decide +kernel) rfl) (
    okc (ok_if_eq (off := 13) (by decide +kernel) rfl rfl) (
    okc (ok_iload_n (k := 2) (by decide +kernel) rfl rfl) (
    okc (ok_iconst (n := 0) (by decide +kernel) rfl rfl) (
    okc (ok_bipush (n := 100) (by decide +kernel) (by decide +kernel) rfl) (
    okc (ok_callS (SPf_ok _ _ _ _ _ _) (mi := 97) (n := 3) (idx := 84) rfl m_M_in (by decide) w_1106 w_1107 (by decide +kernel) rfl) (
    okc (ok_if_ne (off := 6) (by decide +kernel) rfl rfl) (
    okc (ok_ldc (i := 100) w_1112 (by decide +kernel) rfl) (
    okc (ok_iret rfl (by decide +kernel)) (
    okc (ok_aload_n (k := 0) (by decide +kernel) rfl rfl) (
    okc (ok_callV (SPf_ok _ _ _ _ _ _) (mi := 128) (n := 0) (idx := 171) rfl m_M_thinks (by decide) cX9_ok w_1253 w_1255 w_39 (by decide +kernel) rfl) (
    okc (ok_aload_n (k := 0) (by decide +kernel) rfl rfl) (
    okc (ok_iload_n (k := 1) (by decide +kernel) rfl rfl) (
    okc (ok_ldc (i := 177) w_1265 (by decide +kernel) rfl) (
    okc (ok_callV (SPf_ok _ _ _ _ _ _) (mi := 142) (n := 2) (idx := 190) rfl m_M_nearer (by decide) cX9_ok w_1302 w_1304 w_44 (by decide +kernel) rfl) (
    okc (ok_istore_n (k := 3) (by decide +kernel) rfl rfl) (
    okc (ok_iconst (n := 0) (by decide +kernel) rfl rfl) (
    okc (ok_istore (by decide +kernel) rfl) (
    okc (ok_iload (by decide +kernel) rfl) (
    okc (ok_iload_n (k := 2) (by decide +kernel) rfl rfl) (
    okc (ok_cmp_ge (off := 20) (by decide +kernel) rfl rfl) (
    okc (ok_aload_n (k := 0) (by decide +kernel) rfl rfl) (
    okc (ok_callV (SPf_ok _ _ _ _ _ _) (mi := 131) (n := 0) (idx := 162) rfl m_M_hour (by decide) cX9_ok w_1222 w_1224 w_34 (by decide +kernel) rfl) (
    okc (ok_aload_n (k := 0) (by decide +kernel) rfl rfl) (
    okc (ok_iload_n (k := 1) (by decide +kernel) rfl rfl) (
    okc (ok_iload_n (k := 3) (by decide +kernel) rfl rfl) (
    okc (ok_callV (SPf_ok _ _ _ _ _ _) (mi := 142) (n := 2) (idx := 190) rfl m_M_nearer (by decide) cX9_ok w_1302 w_1304 w_44 (by decide +kernel) rfl) (
    okc (ok_istore_n (k := 3) (by decide +kernel) rfl rfl) (
    okc (ok_iinc (n := 1) (by decide +kernel) rfl rfl) (
    okc (ok_goto (off := -20) (by decide +kernel) rfl) (
    okc (ok_aload_n (k := 0) (by decide +kernel) rfl rfl) (
    okc (ok_callV (SPf_ok _ _ _ _ _ _) (mi := 129) (n := 0) (idx := 174) rfl m_M_putsBack (by decide) cX9_ok w_1257 w_1259 w_40 (by decide +kernel) rfl) (
    okc (ok_iload_n (k := 3) (by decide +kernel) rfl rfl) (
    okc (ok_iret rfl (by decide +kernel)) ( okn))))))))))))))))))))))))))))))))))))
def pl_W_seen : List (Nat × mA) := [(0, a_iload 1 1), (1, a_call 143 1 4), (4, a_if (fun x => decide (x = 0)) 16 7), (7, a_iload 2 8), (8, a_push 0 9), (9, a_push 1 10), (10, a_call 94 3 13), (13, a_if (fun x => decide (x ≠ 0)) 19 16), (16, a_push (-1000000001) 18), (18, a_iret), (19, a_aload 0 20), (20, a_getR 8 10 5 23), (23, a_iload 1 24), (24, a_aald 6 25), (25, a_callO 2 3 144 0 28), (28, a_if (fun x => decide (x = 0)) 34 31), (31, a_push (-1000000011) 33), (33, a_iret), (34, a_aload 0 35), (35, a_getR 8 10 2 38), (38, a_aload 0 39), (39, a_getR 8 10 0 42), (42, a_aload 0 43), (43, a_getR 8 10 5 46), (46, a_iload 1 47), (47, a_aald 6 48), (48, a_callO 0 5 145 2 51), (51, a_aload 0 52), (52, a_getR 8 10 2 55), (55, a_iload 2 56), (56, a_callO 0 5 137 1 59), (59, a_iret)]
set_option maxRecDepth 20000 in
theorem ol_W_seen : okall B sp D cA (SPf B sp Ls xs adK adV) MT ⟨"WreckSky", "seen", "(II)I"⟩ prog_1_method_22_code 3 (Option.some Jvm.ClassFile.FieldType.int) (pl_W_seen) := by
  unfold pl_W_seen
  exact
    okc (ok_iload_n (k := 1) (by decide +kernel) rfl rfl) (
    okc (ok_callS (SPf_ok _ _ _ _ _ _) (mi := 143) (n := 1) (idx := 217) rfl m_W_isSheet (by decide) w_630 w_631 (by decide +kernel) rfl) (
    okc (ok_if_eq (off := 12) (by decide +kernel) rfl rfl) (
    okc (ok_iload_n (k := 2) (by decide +kernel) rfl rfl) (
    okc (ok_iconst (n := 0) (by decide +kernel) rfl rfl) (
    okc (ok_iconst (n := 1) (by decide +kernel) rfl rfl) (
    okc (ok_callS (SPf_ok _ _ _ _ _ _) (mi := 94) (n := 3) (idx := 72) rfl m_W_within (by decide) w_351 w_352 (by decide +kernel) rfl) (
    okc (ok_if_ne (off := 6) (by decide +kernel) rfl rfl) (
    okc (ok_ldc (i := 79) w_357 (by decide +kernel) rfl) (
    okc (ok_iret rfl (by decide +kernel)) (
    okc (ok_aload_n (k := 0) (by decide +kernel) rfl rfl) (
    okc (ok_getR (k := 5) (idx := 44) cX8_ok (by decide) (by decide +kernel) w_318 (by decide +kernel) rfl) (
    okc (ok_iload_n (k := 1) (by decide +kernel) rfl rfl) (
    okc (ok_aald (C := "WreckSky$Sheet") (by decide) (fun _ => rfl) (by decide +kernel) rfl) (
    okc (ok_callV (SPf_ok _ _ _ _ _ _) (mi := 144) (n := 0) (idx := 220) rfl m_H_isMissing (by decide) cX2_ok w_633 w_634 w_635 (by decide +kernel) rfl) (
    okc (ok_if_eq (off := 6) (by decide +kernel) rfl rfl) (
    okc (ok_ldc (i := 224) w_637 (by decide +kernel) rfl) (
    okc (ok_iret rfl (by decide +kernel)) (
    okc (ok_aload_n (k := 0) (by decide +kernel) rfl rfl) (
    okc (ok_getR (k := 2) (idx := 22) cX8_ok (by decide) (by decide +kernel) w_315 (by decide +kernel) rfl) (
    okc (ok_aload_n (k := 0) (by decide +kernel) rfl rfl) (
    okc (ok_getR (k := 0) (idx := 10) cX8_ok (by decide) (by decide +kernel) w_313 (by decide +kernel) rfl) (
    okc (ok_aload_n (k := 0) (by decide +kernel) rfl rfl) (
    okc (ok_getR (k := 5) (idx := 44) cX8_ok (by decide) (by decide +kernel) w_318 (by decide +kernel) rfl) (
    okc (ok_iload_n (k := 1) (by decide +kernel) rfl rfl) (
    okc (ok_aald (C := "WreckSky$Sheet") (by decide) (fun _ => rfl) (by decide +kernel) rfl) (
    okc (ok_callV (SPf_ok _ _ _ _ _ _) (mi := 145) (n := 2) (idx := 225) rfl m_F_chooseSeen (by decide) cX0_ok w_638 w_639 w_640 (by decide +kernel) rfl) (
    okc (ok_aload_n (k := 0) (by decide +kernel) rfl rfl) (
    okc (ok_getR (k := 2) (idx := 22) cX8_ok (by decide) (by decide +kernel) w_315 (by decide +kernel) rfl) (
    okc (ok_iload_n (k := 2) (by decide +kernel) rfl rfl) (
    okc (ok_callV (SPf_ok _ _ _ _ _ _) (mi := 137) (n := 1) (idx := 203) rfl m_F_toldOf (by decide) cX0_ok w_583 w_584 w_585 (by decide +kernel) rfl) (
    okc (ok_iret rfl (by decide +kernel)) ( okn))))))))))))))))))))))))))))))))
def pl_M_seen_1 : List (Nat × mA) := [(0, a_iload 1 1), (1, a_call 146 1 4), (4, a_if (fun x => decide (x = 0)) 16 7), (7, a_iload 2 8), (8, a_push 0 9), (9, a_push 1 10), (10, a_call 97 3 13), (13, a_if (fun x => decide (x ≠ 0)) 19 16), (16, a_push (-1000000001) 18), (18, a_iret), (19, a_aload 0 20), (20, a_getR 9 36 26 23), (23, a_iload 1 24), (24, a_ald 0 25), (25, a_if (fun x => decide (0 ≤ x)) 31 28), (28, a_push (-1000000011) 30), (30, a_iret), (31, a_aload 0 32), (32, a_callO 9 36 128 0 35), (35, a_aload 0 36), (36, a_getR 9 36 0 39), (39, a_push 1 40), (40, a_ald 0 41), (41, a_istore 3 42), (42, a_push 0 43), (43, a_istore 4 45), (45, a_iload 4 47), (47, a_iload 3 48), (48, a_cmp (fun x y => decide (y ≤ x)) 65 51), (51, a_aload 0 52), (52, a_getR 9 36 7 55), (55, a_iload 4 57), (57, a_push 0 58), (58, a_ast 0 (fun x => x) 59), (59, a_iinc 4 1 62), (62, a_goto 45), (65, a_push 0 66), (66, a_istore 4 68), (68, a_iload 4 70), (70, a_aload 0 71), (71, a_getR 9 36 27 74), (74, a_iload 1 75), (75, a_ald 0 76), (76, a_cmp (fun x y => decide (y ≤ x)) 154 79), (79, a_aload 0 80), (80, a_getR 9 36 28 83), (83, a_push 24 85), (85, a_iload 1 86), (86, a_bin (fun x y => x * y) 87), (87, a_iload 4 89), (89, a_bin (fun x y => x + y) 90), (90, a_ald 0 91), (91, a_istore 5 93), (93, a_push 0 94), (94, a_istore 6 96), (96, a_iload 6 98), (98, a_iload 3 99), (99, a_cmp (fun x y => decide (y ≤ x)) 144 102), (102, a_aload 0 103), (103, a_getR 9 36 7 106)]
set_option maxRecDepth 20000 in
theorem ol_M_seen_1 : okall B sp D cA (SPf B sp Ls xs adK adV) MT ⟨"WreckSkyModel", "seen", "(II)I"⟩ prog_11_method_52_code 7 (Option.some Jvm.ClassFile.FieldType.int) (pl_M_seen_1) := by
  unfold pl_M_seen_1
  exact
    okc (ok_iload_n (k := 1) (by decide +kernel) rfl rfl) (
    okc (ok_callS (SPf_ok _ _ _ _ _ _) (mi := 146) (n := 1) (idx := 193) rfl m_M_isSheet (by decide) w_1313 w_1314 (by decide +kernel) rfl) (
    okc (ok_if_eq (off := 12) (by decide +kernel) rfl rfl) (
    okc (ok_iload_n (k := 2) (by decide +kernel) rfl rfl) (
    okc (ok_iconst (n := 0) (by decide +kernel) rfl rfl) (
    okc (ok_iconst (n := 1) (by decide +kernel) rfl rfl) (
    okc (ok_callS (SPf_ok _ _ _ _ _ _) (mi := 97) (n := 3) (idx := 84) rfl m_M_in (by decide) w_1106 w_1107 (by decide +kernel) rfl) (
    okc (ok_if_ne (off := 6) (by decide +kernel) rfl rfl) (
    okc (ok_ldc (i := 100) w_1112 (by decide +kernel) rfl) (
    okc (ok_iret rfl (by decide +kernel)) (
    okc (ok_aload_n (k := 0) (by decide +kernel) rfl rfl) (
    okc (ok_getR (k := 26) (idx := 57) cX9_ok (by decide) (by decide +kernel) w_1017 (by decide +kernel) rfl) (
    okc (ok_iload_n (k := 1) (by decide +kernel) rfl rfl) (
    okc (ok_iald (by decide +kernel) rfl) (
    okc (ok_if_ge (off := 6) (by decide +kernel) rfl rfl) (
    okc (ok_ldc (i := 196) w_1316 (by decide +kernel) rfl) (
    okc (ok_iret rfl (by decide +kernel)) (
    okc (ok_aload_n (k := 0) (by decide +kernel) rfl rfl) (
    okc (ok_callV (SPf_ok _ _ _ _ _ _) (mi := 128) (n := 0) (idx := 171) rfl m_M_thinks (by decide) cX9_ok w_1253 w_1255 w_39 (by decide +kernel) rfl) (
    okc (ok_aload_n (k := 0) (by decide +kernel) rfl rfl) (
    okc (ok_getR (k := 0) (idx := 9) cX9_ok (by decide) (by decide +kernel) w_991 (by decide +kernel) rfl) (
    okc (ok_iconst (n := 1) (by decide +kernel) rfl rfl) (
    okc (ok_iald (by decide +kernel) rfl) (
    okc (ok_istore_n (k := 3) (by decide +kernel) rfl rfl) (
    okc (ok_iconst (n := 0) (by decide +kernel) rfl rfl) (
    okc (ok_istore (by decide +kernel) rfl) (
    okc (ok_iload (by decide +kernel) rfl) (
    okc (ok_iload_n (k := 3) (by decide +kernel) rfl rfl) (
    okc (ok_cmp_ge (off := 17) (by decide +kernel) rfl rfl) (
    okc (ok_aload_n (k := 0) (by decide +kernel) rfl rfl) (
    okc (ok_getR (k := 7) (idx := 28) cX9_ok (by decide) (by decide +kernel) w_998 (by decide +kernel) rfl) (
    okc (ok_iload (by decide +kernel) rfl) (
    okc (ok_iconst (n := 0) (by decide +kernel) rfl rfl) (
    okc (ok_iast (by decide +kernel) rfl) (
    okc (ok_iinc (n := 1) (by decide +kernel) rfl rfl) (
    okc (ok_goto (off := -17) (by decide +kernel) rfl) (
    okc (ok_iconst (n := 0) (by decide +kernel) rfl rfl) (
    okc (ok_istore (by decide +kernel) rfl) (
    okc (ok_iload (by decide +kernel) rfl) (
    okc (ok_aload_n (k := 0) (by decide +kernel) rfl rfl) (
    okc (ok_getR (k := 27) (idx := 60) cX9_ok (by decide) (by decide +kernel) w_1018 (by decide +kernel) rfl) (
    okc (ok_iload_n (k := 1) (by decide +kernel) rfl rfl) (
    okc (ok_iald (by decide +kernel) rfl) (
    okc (ok_cmp_ge (off := 78) (by decide +kernel) rfl rfl) (
    okc (ok_aload_n (k := 0) (by decide +kernel) rfl rfl) (
    okc (ok_getR (k := 28) (idx := 63) cX9_ok (by decide) (by decide +kernel) w_1019 (by decide +kernel) rfl) (
    okc (ok_bipush (n := 24) (by decide +kernel) (by decide +kernel) rfl) (
    okc (ok_iload_n (k := 1) (by decide +kernel) rfl rfl) (
    okc (ok_imul (by decide +kernel) rfl) (
    okc (ok_iload (by decide +kernel) rfl) (
    okc (ok_iadd (by decide +kernel) rfl) (
    okc (ok_iald (by decide +kernel) rfl) (
    okc (ok_istore (by decide +kernel) rfl) (
    okc (ok_iconst (n := 0) (by decide +kernel) rfl rfl) (
    okc (ok_istore (by decide +kernel) rfl) (
    okc (ok_iload (by decide +kernel) rfl) (
    okc (ok_iload_n (k := 3) (by decide +kernel) rfl rfl) (
    okc (ok_cmp_ge (off := 45) (by decide +kernel) rfl rfl) (
    okc (ok_aload_n (k := 0) (by decide +kernel) rfl rfl) (
    okc (ok_getR (k := 7) (idx := 28) cX9_ok (by decide) (by decide +kernel) w_998 (by decide +kernel) rfl) ( okn))))))))))))))))))))))))))))))))))))))))))))))))))))))))))))
end PR

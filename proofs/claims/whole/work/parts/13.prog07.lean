section PR
variable {B : Nat} {sp : Nat → Value} {D : va_G} {cA : Nat → ClassId} {Ls : Nat} {xs : Nat → Int32} {adK adV : Nat → Nat}
def pl_M_isOf : List (Nat × mA) := [(0, a_iload 0 1), (1, a_sw (t_sw 1 [32, 40, 48, 57] 65)), (32, a_iload 1 33), (33, a_push 0 34), (34, a_push 7 36), (36, a_call 97 3 39), (39, a_zret), (40, a_iload 1 41), (41, a_push 0 42), (42, a_push 29 44), (44, a_call 97 3 47), (47, a_zret), (48, a_iload 1 49), (49, a_push (-9) 51), (51, a_push 9 53), (53, a_call 97 3 56), (56, a_zret), (57, a_iload 1 58), (58, a_push 1 59), (59, a_push 99 61), (61, a_call 97 3 64), (64, a_zret), (65, a_iload 1 66), (66, a_push 0 67), (67, a_push 1 68), (68, a_call 97 3 71), (71, a_zret)]
set_option maxRecDepth 20000 in
theorem ol_M_isOf : okall B sp D cA (SPf B sp Ls xs adK adV) MT ⟨"WreckSkyModel", "isOf", "(II)Z"⟩ prog_11_method_12_code 2 (Option.some Jvm.ClassFile.FieldType.boolean) (pl_M_isOf) := by
  unfold pl_M_isOf
  exact
    okc (ok_iload_n (k := 0) (by decide +kernel) rfl rfl) (
    okc (ok_tab (dflt := 64) (lo := 1) (hi := 4) (offs := #[31, 39, 47, 56]) (len := 31) (by decide +kernel) rfl rfl rfl) (
    okc (ok_iload_n (k := 1) (by decide +kernel) rfl rfl) (
    okc (ok_iconst (n := 0) (by decide +kernel) rfl rfl) (
    okc (ok_bipush (n := 7) (by decide +kernel) (by decide +kernel) rfl) (
    okc (ok_callS (SPf_ok _ _ _ _ _ _) (mi := 97) (n := 3) (idx := 84) rfl m_M_in (by decide) w_1106 w_1107 (by decide +kernel) rfl) (
    okc (ok_zret rfl (by decide +kernel)) (
    okc (ok_iload_n (k := 1) (by decide +kernel) rfl rfl) (
    okc (ok_iconst (n := 0) (by decide +kernel) rfl rfl) (
    okc (ok_bipush (n := 29) (by decide +kernel) (by decide +kernel) rfl) (
    okc (ok_callS (SPf_ok _ _ _ _ _ _) (mi := 97) (n := 3) (idx := 84) rfl m_M_in (by decide) w_1106 w_1107 (by decide +kernel) rfl) (
    okc (ok_zret rfl (by decide +kernel)) (
    okc (ok_iload_n (k := 1) (by decide +kernel) rfl rfl) (
    okc (ok_bipush (n := -9) (by decide +kernel) (by decide +kernel) rfl) (
    okc (ok_bipush (n := 9) (by decide +kernel) (by decide +kernel) rfl) (
    okc (ok_callS (SPf_ok _ _ _ _ _ _) (mi := 97) (n := 3) (idx := 84) rfl m_M_in (by decide) w_1106 w_1107 (by decide +kernel) rfl) (
    okc (ok_zret rfl (by decide +kernel)) (
    okc (ok_iload_n (k := 1) (by decide +kernel) rfl rfl) (
    okc (ok_iconst (n := 1) (by decide +kernel) rfl rfl) (
    okc (ok_bipush (n := 99) (by decide +kernel) (by decide +kernel) rfl) (
    okc (ok_callS (SPf_ok _ _ _ _ _ _) (mi := 97) (n := 3) (idx := 84) rfl m_M_in (by decide) w_1106 w_1107 (by decide +kernel) rfl) (
    okc (ok_zret rfl (by decide +kernel)) (
    okc (ok_iload_n (k := 1) (by decide +kernel) rfl rfl) (
    okc (ok_iconst (n := 0) (by decide +kernel) rfl rfl) (
    okc (ok_iconst (n := 1) (by decide +kernel) rfl rfl) (
    okc (ok_callS (SPf_ok _ _ _ _ _ _) (mi := 97) (n := 3) (idx := 84) rfl m_M_in (by decide) w_1106 w_1107 (by decide +kernel) rfl) (
    okc (ok_zret rfl (by decide +kernel)) ( okn)))))))))))))))))))))))))))
def pl_M_comes : List (Nat × mA) := [(0, a_aload 0 1), (1, a_getR 9 36 0 4), (4, a_push 1 5), (5, a_ald 0 6), (6, a_istore 6 8), (8, a_aload 0 9), (9, a_getR 9 36 0 12), (12, a_push 1 13), (13, a_dup2 14), (14, a_ald 0 15), (15, a_push 1 16), (16, a_bin (fun x y => x + y) 17), (17, a_ast 0 (fun x => x) 18), (18, a_aload 0 19), (19, a_iload 6 21), (21, a_push 0 22), (22, a_iload 1 23), (23, a_callO 9 36 114 3 26), (26, a_aload 0 27), (27, a_iload 6 29), (29, a_push 1 30), (30, a_iload 2 31), (31, a_callO 9 36 114 3 34), (34, a_aload 0 35), (35, a_iload 6 37), (37, a_push 2 38), (38, a_iload 3 39), (39, a_callO 9 36 114 3 42), (42, a_aload 0 43), (43, a_iload 6 45), (45, a_push 3 46), (46, a_iload 4 48), (48, a_callO 9 36 114 3 51), (51, a_aload 0 52), (52, a_iload 6 54), (54, a_push 4 55), (55, a_iload 5 57), (57, a_callO 9 36 114 3 60), (60, a_aload 0 61), (61, a_iload 6 63), (63, a_push 5 64), (64, a_push 1 65), (65, a_callO 9 36 114 3 68), (68, a_iload 6 70), (70, a_iret)]
set_option maxRecDepth 20000 in
theorem ol_M_comes : okall B sp D cA (SPf B sp Ls xs adK adV) MT ⟨"WreckSkyModel", "comes", "(IIIII)I"⟩ prog_11_method_11_code 7 (Option.some Jvm.ClassFile.FieldType.int) (pl_M_comes) := by
  unfold pl_M_comes
  exact
    okc (ok_aload_n (k := 0) (by decide +kernel) rfl rfl) (
    okc (ok_getR (k := 0) (idx := 9) cX9_ok (by decide) (by decide +kernel) w_991 (by decide +kernel) rfl) (
    okc (ok_iconst (n := 1) (by decide +kernel) rfl rfl) (
    okc (ok_iald (by decide +kernel) rfl) (
    okc (ok_istore (by decide +kernel) rfl) (
    okc (ok_aload_n (k := 0) (by decide +kernel) rfl rfl) (
    okc (ok_getR (k := 0) (idx := 9) cX9_ok (by decide) (by decide +kernel) w_991 (by decide +kernel) rfl) (
    okc (ok_iconst (n := 1) (by decide +kernel) rfl rfl) (
    okc (ok_dup2 (by decide +kernel) rfl) (
    okc (ok_iald (by decide +kernel) rfl) (
    okc (ok_iconst (n := 1) (by decide +kernel) rfl rfl) (
    okc (ok_iadd (by decide +kernel) rfl) (
    okc (ok_iast (by decide +kernel) rfl) (
    okc (ok_aload_n (k := 0) (by decide +kernel) rfl rfl) (
    okc (ok_iload (by decide +kernel) rfl) (
    okc (ok_iconst (n := 0) (by decide +kernel) rfl rfl) (
    okc (ok_iload_n (k := 1) (by decide +kernel) rfl rfl) (
    okc (ok_callV (SPf_ok _ _ _ _ _ _) (mi := 114) (n := 3) (idx := 92) rfl m_M_put (by decide) cX9_ok w_1118 w_1120 w_21 (by decide +kernel) rfl) (
    okc (ok_aload_n (k := 0) (by decide +kernel) rfl rfl) (
    okc (ok_iload (by decide +kernel) rfl) (
    okc (ok_iconst (n := 1) (by decide +kernel) rfl rfl) (
    okc (ok_iload_n (k := 2) (by decide +kernel) rfl rfl) (
    okc (ok_callV (SPf_ok _ _ _ _ _ _) (mi := 114) (n := 3) (idx := 92) rfl m_M_put (by decide) cX9_ok w_1118 w_1120 w_21 (by decide +kernel) rfl) (
    okc (ok_aload_n (k := 0) (by decide +kernel) rfl rfl) (
    okc (ok_iload (by decide +kernel) rfl) (
    okc (ok_iconst (n := 2) (by decide +kernel) rfl rfl) (
    okc (ok_iload_n (k := 3) (by decide +kernel) rfl rfl) (
    okc (ok_callV (SPf_ok _ _ _ _ _ _) (mi := 114) (n := 3) (idx := 92) rfl m_M_put (by decide) cX9_ok w_1118 w_1120 w_21 (by decide +kernel) rfl) (
    okc (ok_aload_n (k := 0) (by decide +kernel) rfl rfl) (
    okc (ok_iload (by decide +kernel) rfl) (
    okc (ok_iconst (n := 3) (by decide +kernel) rfl rfl) (
    okc (ok_iload (by decide +kernel) rfl) (
    okc (ok_callV (SPf_ok _ _ _ _ _ _) (mi := 114) (n := 3) (idx := 92) rfl m_M_put (by decide) cX9_ok w_1118 w_1120 w_21 (by decide +kernel) rfl) (
    okc (ok_aload_n (k := 0) (by decide +kernel) rfl rfl) (
    okc (ok_iload (by decide +kernel) rfl) (
    okc (ok_iconst (n := 4) (by decide +kernel) rfl rfl) (
    okc (ok_iload (by decide +kernel) rfl) (
    okc (ok_callV (SPf_ok _ _ _ _ _ _) (mi := 114) (n := 3) (idx := 92) rfl m_M_put (by decide) cX9_ok w_1118 w_1120 w_21 (by decide +kernel) rfl) (
    okc (ok_aload_n (k := 0) (by decide +kernel) rfl rfl) (
    okc (ok_iload (by decide +kernel) rfl) (
    okc (ok_iconst (n := 5) (by decide +kernel) rfl rfl) (
    okc (ok_iconst (n := 1) (by decide +kernel) rfl rfl) (
    okc (ok_callV (SPf_ok _ _ _ _ _ _) (mi := 114) (n := 3) (idx := 92) rfl m_M_put (by decide) cX9_ok w_1118 w_1120 w_21 (by decide +kernel) rfl) (
    okc (ok_iload (by decide +kernel) rfl) (
    okc (ok_iret rfl (by decide +kernel)) ( okn)))))))))))))))))))))))))))))))))))))))))))))
def pl_S_hasWreck : List (Nat × mA) := [(0, a_iload 1 1), (1, a_push 0 2), (2, a_aload 0 3), (3, a_getI 3 11 3 6), (6, a_push 1 7), (7, a_bin (fun x y => x - y) 8), (8, a_call 94 3 11), (11, a_zret)]
set_option maxRecDepth 20000 in
theorem ol_S_hasWreck : okall B sp D cA (SPf B sp Ls xs adK adV) MT ⟨"WreckSky$Sky", "hasWreck", "(I)Z"⟩ prog_5_method_3_code 2 (Option.some Jvm.ClassFile.FieldType.boolean) (pl_S_hasWreck) := by
  unfold pl_S_hasWreck
  exact
    okc (ok_iload_n (k := 1) (by decide +kernel) rfl rfl) (
    okc (ok_iconst (n := 0) (by decide +kernel) rfl rfl) (
    okc (ok_aload_n (k := 0) (by decide +kernel) rfl rfl) (
    okc (ok_getI (k := 3) (idx := 27) cX3_ok (by decide) (by decide +kernel) w_141 (by decide +kernel) rfl) (
    okc (ok_iconst (n := 1) (by decide +kernel) rfl rfl) (
    okc (ok_isub (by decide +kernel) rfl) (
    okc (ok_callN (SPf_ok _ _ _ _ _ _) (mi := 94) (n := 3) (idx := 57) rfl m_W_within (by decide) (fun _ h => h.2.2.2.2.2.2.1) w_352 (by decide +kernel) rfl) (
    okc (ok_zret rfl (by decide +kernel)) ( okn))))))))
def pl_S_hardOf : List (Nat × mA) := [(0, a_aload 0 1), (1, a_push 0 2), (2, a_callO 3 11 149 1 5), (5, a_istore 2 6), (6, a_iload 2 7), (7, a_if (fun x => decide (0 ≤ x)) 17 10), (10, a_aload 1 11), (11, a_getI 7 6 4 14), (14, a_goto 42), (17, a_aload 0 18), (18, a_getR 3 11 1 21), (21, a_iload 2 22), (22, a_aald 5 23), (23, a_aload 1 24), (24, a_getI 7 6 4 27), (27, a_aload 1 28), (28, a_getI 7 6 1 31), (31, a_aload 1 32), (32, a_getI 7 6 3 35), (35, a_aload 0 36), (36, a_getR 3 11 2 39), (39, a_callO 6 3 150 4 42), (42, a_istore 3 43), (43, a_aload 1 44), (44, a_iload 3 45), (45, a_push 0 46), (46, a_push 999 49), (49, a_call 163 3 52), (52, a_callO 7 6 174 1 55), (55, a_iret)]
set_option maxRecDepth 20000 in
theorem ol_S_hardOf : okall B sp D cA (SPf B sp Ls xs adK adV) MT ⟨"WreckSky$Sky", "hardOf", "(LWreckSky$Wreck;)I"⟩ prog_5_method_7_code 4 (Option.some Jvm.ClassFile.FieldType.int) (pl_S_hardOf) := by
  unfold pl_S_hardOf
  exact
    okc (ok_aload_n (k := 0) (by decide +kernel) rfl rfl) (
    okc (ok_iconst (n := 0) (by decide +kernel) rfl rfl) (
    okc (ok_callV (SPf_ok _ _ _ _ _ _) (mi := 149) (n := 1) (idx := 83) rfl m_S_textFor (by decide) cX3_ok w_376 w_377 w_378 (by decide +kernel) rfl) (
    okc (ok_istore_n (k := 2) (by decide +kernel) rfl rfl) (
    okc (ok_iload_n (k := 2) (by decide +kernel) rfl rfl) (
    okc (ok_if_ge (off := 10) (by decide +kernel) rfl rfl) (
    okc (ok_aload_n (k := 1) (by decide +kernel) rfl rfl) (
    okc (ok_getI (k := 4) (idx := 73) cX7_ok (by decide) (by decide +kernel) w_115 (by decide +kernel) rfl) (
    okc (ok_goto (off := 28) (by decide +kernel) rfl) (
    okc (ok_aload_n (k := 0) (by decide +kernel) rfl rfl) (
    okc (ok_getR (k := 1) (idx := 19) cX3_ok (by decide) (by decide +kernel) w_137 (by decide +kernel) rfl) (
    okc (ok_iload_n (k := 2) (by decide +kernel) rfl rfl) (
    okc (ok_aald (C := "WreckSky$Text") (by decide) (fun _ => rfl) (by decide +kernel) rfl) (
    okc (ok_aload_n (k := 1) (by decide +kernel) rfl rfl) (
    okc (ok_getI (k := 4) (idx := 73) cX7_ok (by decide) (by decide +kernel) w_115 (by decide +kernel) rfl) (
    okc (ok_aload_n (k := 1) (by decide +kernel) rfl rfl) (
    okc (ok_getI (k := 1) (idx := 64) cX7_ok (by decide) (by decide +kernel) w_103 (by decide +kernel) rfl) (
    okc (ok_aload_n (k := 1) (by decide +kernel) rfl rfl) (
    okc (ok_getI (k := 3) (idx := 70) cX7_ok (by decide) (by decide +kernel) w_111 (by decide +kernel) rfl) (
    okc (ok_aload_n (k := 0) (by decide +kernel) rfl rfl) (
    okc (ok_getR (k := 2) (idx := 23) cX3_ok (by decide) (by decide +kernel) w_139 (by decide +kernel) rfl) (
    okc (ok_callV (SPf_ok _ _ _ _ _ _) (mi := 150) (n := 4) (idx := 87) rfl m_X_valueOf (by decide) cX6_ok w_380 w_381 w_382 (by decide +kernel) rfl) (
    okc (ok_istore_n (k := 3) (by decide +kernel) rfl rfl) (
    okc (ok_aload_n (k := 1) (by decide +kernel) rfl rfl) (
    okc (ok_iload_n (k := 3) (by decide +kernel) rfl rfl) (
    okc (ok_iconst (n := 0) (by decide +kernel) rfl rfl) (
    okc (ok_sipush (n := 999) (by decide +kernel) (by decide +kernel) rfl) (
    okc (ok_callN (SPf_ok _ _ _ _ _ _) (mi := 163) (n := 3) (idx := 91) rfl m_W_held (by decide) (fun _ h => h.2.2.2.2.2.2.2.1) w_391 (by decide +kernel) rfl) (
    okc (ok_callV (SPf_ok _ _ _ _ _ _) (mi := 174) (n := 1) (idx := 95) rfl m_K_hardFrom (by decide) cX7_ok w_399 w_400 w_401 (by decide +kernel) rfl) (
    okc (ok_iret rfl (by decide +kernel)) ( okn))))))))))))))))))))))))))))))
def pl_K_goesAt : List (Nat × mA) := [(0, a_aload 0 1), (1, a_getI 7 6 0 4), (4, a_sw (t_sw 2 [51, 36, 58, 66] 82)), (36, a_iload 1 37), (37, a_push 2 38), (38, a_div (fun x y => x - x / y * y) 39), (39, a_if (fun x => decide (x ≠ 0)) 49 42), (42, a_aload 0 43), (43, a_getI 7 6 3 46), (46, a_goto 50), (49, a_push 0 50), (50, a_iret), (51, a_aload 0 52), (52, a_getI 7 6 3 55), (55, a_push 1 56), (56, a_bin (fun x y => x + y) 57), (57, a_iret), (58, a_aload 0 59), (59, a_getI 7 6 3 62), (62, a_push 1 63), (63, a_bin (fun x y => x + y) 64), (64, a_un (fun x => -x) 65), (65, a_iret), (66, a_aload 0 67), (67, a_getI 7 6 3 70), (70, a_if (fun x => decide (x ≠ 0)) 77 73), (73, a_push 1 74), (74, a_goto 81), (77, a_aload 0 78), (78, a_getI 7 6 3 81), (81, a_iret), (82, a_aload 0 83), (83, a_getI 7 6 3 86), (86, a_iret)]
set_option maxRecDepth 20000 in
theorem ol_K_goesAt : okall B sp D cA (SPf B sp Ls xs adK adV) MT ⟨"WreckSky$Wreck", "goesAt", "(I)I"⟩ prog_9_method_5_code 2 (Option.some Jvm.ClassFile.FieldType.int) (pl_K_goesAt) := by
  unfold pl_K_goesAt
  exact
    okc (ok_aload_n (k := 0) (by decide +kernel) rfl rfl) (
    okc (ok_getI (k := 0) (idx := 9) cX7_ok (by decide) (by decide +kernel) w_98 (by decide +kernel) rfl) (
    okc (ok_tab (dflt := 78) (lo := 2) (hi := 5) (offs := #[47, 32, 54, 62]) (len := 32) (by decide +kernel) rfl rfl rfl) (
    okc (ok_iload_n (k := 1) (by decide +kernel) rfl rfl) (
    okc (ok_iconst (n := 2) (by decide +kernel) rfl rfl) (
    okc (ok_irem (by decide +kernel) rfl) (
    okc (ok_if_ne (off := 10) (by decide +kernel) rfl rfl) (
    okc (ok_aload_n (k := 0) (by decide +kernel) rfl rfl) (
    okc (ok_getI (k := 3) (idx := 21) cX7_ok (by decide) (by decide +kernel) w_109 (by decide +kernel) rfl) (
    okc (ok_goto (off := 4) (by decide +kernel) rfl) (
    okc (ok_iconst (n := 0) (by decide +kernel) rfl rfl) (
    okc (ok_iret rfl (by decide +kernel)) (
    okc (ok_aload_n (k := 0) (by decide +kernel) rfl rfl) (
    okc (ok_getI (k := 3) (idx := 21) cX7_ok (by decide) (by decide +kernel) w_109 (by decide +kernel) rfl) (
    okc (ok_iconst (n := 1) (by decide +kernel) rfl rfl) (
    okc (ok_iadd (by decide +kernel) rfl) (
    okc (ok_iret rfl (by decide +kernel)) (
    okc (ok_aload_n (k := 0) (by decide +kernel) rfl rfl) (
    okc (ok_getI (k := 3) (idx := 21) cX7_ok (by decide) (by decide +kernel) w_109 (by decide +kernel) rfl) (
    okc (ok_iconst (n := 1) (by decide +kernel) rfl rfl) (
    okc (ok_iadd (by decide +kernel) rfl) (
    okc (ok_ineg (by decide +kernel) rfl) (
    okc (ok_iret rfl (by decide +kernel)) (
    okc (ok_aload_n (k := 0) (by decide +kernel) rfl rfl) (
    okc (ok_getI (k := 3) (idx := 21) cX7_ok (by decide) (by decide +kernel) w_109 (by decide +kernel) rfl) (
    okc (ok_if_ne (off := 7) (by decide +kernel) rfl rfl) (
    okc (ok_iconst (n := 1) (by decide +kernel) rfl rfl) (
    okc (ok_goto (off := 7) (by decide +kernel) rfl) (
    okc (ok_aload_n (k := 0) (by decide +kernel) rfl rfl) (
    okc (ok_getI (k := 3) (idx := 21) cX7_ok (by decide) (by decide +kernel) w_109 (by decide +kernel) rfl) (
    okc (ok_iret rfl (by decide +kernel)) (
    okc (ok_aload_n (k := 0) (by decide +kernel) rfl rfl) (
    okc (ok_getI (k := 3) (idx := 21) cX7_ok (by decide) (by decide +kernel) w_109 (by decide +kernel) rfl) (
    okc (ok_iret rfl (by decide +kernel)) ( okn))))))))))))))))))))))))))))))))))
def pl_K_worth : List (Nat × mA) := [(0, a_aload 0 1), (1, a_getI 7 6 0 4), (4, a_sw (t_sw 1 [40, 58, 48, 66, 76] 78)), (40, a_aload 0 41), (41, a_getI 7 6 4 44), (44, a_push 9 46), (46, a_bin (fun x y => x + y) 47), (47, a_iret), (48, a_push 2 49), (49, a_aload 0 50), (50, a_getI 7 6 4 53), (53, a_push 9 55), (55, a_bin (fun x y => x + y) 56), (56, a_bin (fun x y => x * y) 57), (57, a_iret), (58, a_push 99 60), (60, a_aload 0 61), (61, a_getI 7 6 4 64), (64, a_bin (fun x y => x - y) 65), (65, a_iret), (66, a_push 99 68), (68, a_aload 0 69), (69, a_getI 7 6 4 72), (72, a_bin (fun x y => x - y) 73), (73, a_push 5 74), (74, a_bin (fun x y => x - y) 75), (75, a_iret), (76, a_push 2 77), (77, a_iret), (78, a_aload 0 79), (79, a_getI 7 6 4 82), (82, a_iret)]
set_option maxRecDepth 20000 in
theorem ol_K_worth : okall B sp D cA (SPf B sp Ls xs adK adV) MT ⟨"WreckSky$Wreck", "worth", "()I"⟩ prog_9_method_6_code 1 (Option.some Jvm.ClassFile.FieldType.int) (pl_K_worth) := by
  unfold pl_K_worth
  exact
    okc (ok_aload_n (k := 0) (by decide +kernel) rfl rfl) (
    okc (ok_getI (k := 0) (idx := 9) cX7_ok (by decide) (by decide +kernel) w_98 (by decide +kernel) rfl) (
    okc (ok_tab (dflt := 74) (lo := 1) (hi := 5) (offs := #[36, 54, 44, 62, 72]) (len := 36) (by decide +kernel) rfl rfl rfl) (
    okc (ok_aload_n (k := 0) (by decide +kernel) rfl rfl) (
    okc (ok_getI (k := 4) (idx := 24) cX7_ok (by decide) (by decide +kernel) w_113 (by decide +kernel) rfl) (
    okc (ok_bipush (n := 9) (by decide +kernel) (by decide +kernel) rfl) (
    okc (ok_iadd (by decide +kernel) rfl) (
    okc (ok_iret rfl (by decide +kernel)) (
    okc (ok_iconst (n := 2) (by decide +kernel) rfl rfl) (
    okc (ok_aload_n (k := 0) (by decide +kernel) rfl rfl) (
    okc (ok_getI (k := 4) (idx := 24) cX7_ok (by decide) (by decide +kernel) w_113 (by decide +kernel) rfl) (
    okc (ok_bipush (n := 9) (by decide +kernel) (by decide +kernel) rfl) (
    okc (ok_iadd (by decide +kernel) rfl) (
    okc (ok_imul (by decide +kernel) rfl) (
    okc (ok_iret rfl (by decide +kernel)) (
    okc (ok_bipush (n := 99) (by decide +kernel) (by decide +kernel) rfl) (
    okc (ok_aload_n (k := 0) (by decide +kernel) rfl rfl) (
    okc (ok_getI (k := 4) (idx := 24) cX7_ok (by decide) (by decide +kernel) w_113 (by decide +kernel) rfl) (
    okc (ok_isub (by decide +kernel) rfl) (
    okc (ok_iret rfl (by decide +kernel)) (
    okc (ok_bipush (n := 99) (by decide +kernel) (by decide +kernel) rfl) (
    okc (ok_aload_n (k := 0) (by decide +kernel) rfl rfl) (
    okc (ok_getI (k := 4) (idx := 24) cX7_ok (by decide) (by decide +kernel) w_113 (by decide +kernel) rfl) (
    okc (ok_isub (by decide +kernel) rfl) (
    okc (ok_iconst (n := 5) (by decide +kernel) rfl rfl) (
    okc (ok_isub (by decide +kernel) rfl) (
    okc (ok_iret rfl (by decide +kernel)) (
    okc (ok_iconst (n := 2) (by decide +kernel) rfl rfl) (
    okc (ok_iret rfl (by decide +kernel)) (
    okc (ok_aload_n (k := 0) (by decide +kernel) rfl rfl) (
    okc (ok_getI (k := 4) (idx := 24) cX7_ok (by decide) (by decide +kernel) w_113 (by decide +kernel) rfl) (
    okc (ok_iret rfl (by decide +kernel)) ( okn))))))))))))))))))))))))))))))))
def pl_M_isWreck : List (Nat × mA) := [(0, a_iload 1 1), (1, a_push 0 2), (2, a_aload 0 3), (3, a_getR 9 36 0 6), (6, a_push 1 7), (7, a_ald 0 8), (8, a_push 1 9), (9, a_bin (fun x y => x - y) 10), (10, a_call 97 3 13), (13, a_zret)]
set_option maxRecDepth 20000 in
theorem ol_M_isWreck : okall B sp D cA (SPf B sp Ls xs adK adV) MT ⟨"WreckSkyModel", "isWreck", "(I)Z"⟩ prog_11_method_6_code 2 (Option.some Jvm.ClassFile.FieldType.boolean) (pl_M_isWreck) := by
  unfold pl_M_isWreck
  exact
    okc (ok_iload_n (k := 1) (by decide +kernel) rfl rfl) (
    okc (ok_iconst (n := 0) (by decide +kernel) rfl rfl) (
    okc (ok_aload_n (k := 0) (by decide +kernel) rfl rfl) (
    okc (ok_getR (k := 0) (idx := 9) cX9_ok (by decide) (by decide +kernel) w_991 (by decide +kernel) rfl) (
    okc (ok_iconst (n := 1) (by decide +kernel) rfl rfl) (
    okc (ok_iald (by decide +kernel) rfl) (
    okc (ok_iconst (n := 1) (by decide +kernel) rfl rfl) (
    okc (ok_isub (by decide +kernel) rfl) (
    okc (ok_callS (SPf_ok _ _ _ _ _ _) (mi := 97) (n := 3) (idx := 84) rfl m_M_in (by decide) w_1106 w_1107 (by decide +kernel) rfl) (
    okc (ok_zret rfl (by decide +kernel)) ( okn))))))))))
def pl_M_of : List (Nat × mA) := [(0, a_aload 0 1), (1, a_getR 9 36 0 4), (4, a_push 8 6), (6, a_push 6 8), (8, a_iload 1 9), (9, a_bin (fun x y => x * y) 10), (10, a_bin (fun x y => x + y) 11), (11, a_iload 2 12), (12, a_bin (fun x y => x + y) 13), (13, a_ald 0 14), (14, a_iret)]
set_option maxRecDepth 20000 in
theorem ol_M_of : okall B sp D cA (SPf B sp Ls xs adK adV) MT ⟨"WreckSkyModel", "of", "(II)I"⟩ prog_11_method_7_code 3 (Option.some Jvm.ClassFile.FieldType.int) (pl_M_of) := by
  unfold pl_M_of
  exact
    okc (ok_aload_n (k := 0) (by decide +kernel) rfl rfl) (
    okc (ok_getR (k := 0) (idx := 9) cX9_ok (by decide) (by decide +kernel) w_991 (by decide +kernel) rfl) (
    okc (ok_bipush (n := 8) (by decide +kernel) (by decide +kernel) rfl) (
    okc (ok_bipush (n := 6) (by decide +kernel) (by decide +kernel) rfl) (
    okc (ok_iload_n (k := 1) (by decide +kernel) rfl rfl) (
    okc (ok_imul (by decide +kernel) rfl) (
    okc (ok_iadd (by decide +kernel) rfl) (
    okc (ok_iload_n (k := 2) (by decide +kernel) rfl rfl) (
    okc (ok_iadd (by decide +kernel) rfl) (
    okc (ok_iald (by decide +kernel) rfl) (
    okc (ok_iret rfl (by decide +kernel)) ( okn)))))))))))
def pl_M_hardOf_1 : List (Nat × mA) := [(0, a_aload 0 1), (1, a_push 0 2), (2, a_callO 9 36 151 1 5), (5, a_istore 2 6), (6, a_aload 0 7), (7, a_getR 9 36 25 10), (10, a_push 0 11), (11, a_aload 0 12), (12, a_iload 1 13), (13, a_push 4 14), (14, a_callO 9 36 105 2 17), (17, a_ast 0 (fun x => x) 18), (18, a_aload 0 19), (19, a_getR 9 36 25 22), (22, a_push 1 23), (23, a_aload 0 24), (24, a_iload 1 25), (25, a_push 1 26), (26, a_callO 9 36 105 2 29), (29, a_ast 0 (fun x => x) 30), (30, a_aload 0 31), (31, a_getR 9 36 25 34), (34, a_push 2 35), (35, a_aload 0 36), (36, a_iload 1 37), (37, a_push 3 38), (38, a_callO 9 36 105 2 41), (41, a_ast 0 (fun x => x) 42), (42, a_iload 2 43), (43, a_if (fun x => decide (0 ≤ x)) 55 46), (46, a_aload 0 47), (47, a_iload 1 48), (48, a_push 4 49), (49, a_callO 9 36 105 2 52), (52, a_goto 67), (55, a_aload 0 56), (56, a_iload 2 57), (57, a_callO 9 36 152 1 60), (60, a_push 0 61), (61, a_push 999 64), (64, a_call 120 3 67), (67, a_istore 3 68), (68, a_aload 0 69), (69, a_iload 1 70), (70, a_push 0 71), (71, a_callO 9 36 105 2 74), (74, a_sw (t_sw 1 [108, 113, 128, 135, 137] 141)), (108, a_iload 3 109), (109, a_push 10 111), (111, a_bin (fun x y => x + y) 112), (112, a_iret), (113, a_iload 3 114), (114, a_push 9 116), (116, a_cmp (fun x y => decide (y ≤ x)) 123 119), (119, a_push 0 120), (120, a_goto 127), (123, a_iload 3 124), (124, a_push 9 126), (126, a_bin (fun x y => x - y) 127), (127, a_iret)]
set_option maxRecDepth 20000 in
theorem ol_M_hardOf_1 : okall B sp D cA (SPf B sp Ls xs adK adV) MT ⟨"WreckSkyModel", "hardOf", "(I)I"⟩ prog_11_method_14_code 4 (Option.some Jvm.ClassFile.FieldType.int) (pl_M_hardOf_1) := by
  unfold pl_M_hardOf_1
  exact
    okc (ok_aload_n (k := 0) (by decide +kernel) rfl rfl) (
    okc (ok_iconst (n := 0) (by decide +kernel) rfl rfl) (
    okc (ok_callV (SPf_ok _ _ _ _ _ _) (mi := 151) (n := 1) (idx := 106) rfl m_M_counts (by decide) cX9_ok w_1138 w_1140 w_25 (by decide +kernel) rfl) (
    okc (ok_istore_n (k := 2) (by decide +kernel) rfl rfl) (
    okc (ok_aload_n (k := 0) (by decide +kernel) rfl rfl) (
    okc (ok_getR (k := 25) (idx := 54) cX9_ok (by decide) (by decide +kernel) w_1016 (by decide +kernel) rfl) (
    okc (ok_iconst (n := 0) (by decide +kernel) rfl rfl) (
    okc (ok_aload_n (k := 0) (by decide +kernel) rfl rfl) (
    okc (ok_iload_n (k := 1) (by decide +kernel) rfl rfl) (
    okc (ok_iconst (n := 4) (by decide +kernel) rfl rfl) (
    okc (ok_callV (SPf_ok _ _ _ _ _ _) (mi := 105) (n := 2) (idx := 88) rfl m_M_of (by decide) cX9_ok w_1130 w_1132 w_23 (by decide +kernel) rfl) (
    okc (ok_iast (by decide +kernel) rfl) (
    okc (ok_aload_n (k := 0) (by decide +kernel) rfl rfl) (
    okc (ok_getR (k := 25) (idx := 54) cX9_ok (by decide) (by decide +kernel) w_1016 (by decide +kernel) rfl) (
    okc (ok_iconst (n := 1) (by decide +kernel) rfl rfl) (
    okc (ok_aload_n (k := 0) (by decide +kernel) rfl rfl) (
    okc (ok_iload_n (k := 1) (by decide +kernel) rfl rfl) (
    okc (ok_iconst (n := 1) (by decide +kernel) rfl rfl) (
    okc (ok_callV (SPf_ok _ _ _ _ _ _) (mi := 105) (n := 2) (idx := 88) rfl m_M_of (by decide) cX9_ok w_1130 w_1132 w_23 (by decide +kernel) rfl) (
    okc (ok_iast (by decide +kernel) rfl) (
    okc (ok_aload_n (k := 0) (by decide +kernel) rfl rfl) (
    okc (ok_getR (k := 25) (idx := 54) cX9_ok (by decide) (by decide +kernel) w_1016 (by decide +kernel) rfl) (
    okc (ok_iconst (n := 2) (by decide +kernel) rfl rfl) (
    okc (ok_aload_n (k := 0) (by decide +kernel) rfl rfl) (
    okc (ok_iload_n (k := 1) (by decide +kernel) rfl rfl) (
    okc (ok_iconst (n := 3) (by decide +kernel) rfl rfl) (
    okc (ok_callV (SPf_ok _ _ _ _ _ _) (mi := 105) (n := 2) (idx := 88) rfl m_M_of (by decide) cX9_ok w_1130 w_1132 w_23 (by decide +kernel) rfl) (
    okc (ok_iast (by decide +kernel) rfl) (
    okc (ok_iload_n (k := 2) (by decide +kernel) rfl rfl) (
    okc (ok_if_ge (off := 12) (by decide +kernel) rfl rfl) (
    okc (ok_aload_n (k := 0) (by decide +kernel) rfl rfl) (
    okc (ok_iload_n (k := 1) (by decide +kernel) rfl rfl) (
    okc (ok_iconst (n := 4) (by decide +kernel) rfl rfl) (
    okc (ok_callV (SPf_ok _ _ _ _ _ _) (mi := 105) (n := 2) (idx := 88) rfl m_M_of (by decide) cX9_ok w_1130 w_1132 w_23 (by decide +kernel) rfl) (
    okc (ok_goto (off := 15) (by decide +kernel) rfl) (
    okc (ok_aload_n (k := 0) (by decide +kernel) rfl rfl) (
    okc (ok_iload_n (k := 2) (by decide +kernel) rfl rfl) (
    okc (ok_callV (SPf_ok _ _ _ _ _ _) (mi := 152) (n := 1) (idx := 110) rfl m_M_worksOut (by decide) cX9_ok w_1142 w_1144 w_26 (by decide +kernel) rfl) (
    okc (ok_iconst (n := 0) (by decide +kernel) rfl rfl) (
    okc (ok_sipush (n := 999) (by decide +kernel) (by decide +kernel) rfl) (
    okc (ok_callS (SPf_ok _ _ _ _ _ _) (mi := 120) (n := 3) (idx := 113) rfl m_M_within (by decide) w_1149 w_1150 (by decide +kernel) rfl) (
    okc (ok_istore_n (k := 3) (by decide +kernel) rfl rfl) (
    okc (ok_aload_n (k := 0) (by decide +kernel) rfl rfl) (
    okc (ok_iload_n (k := 1) (by decide +kernel) rfl rfl) (
    okc (ok_iconst (n := 0) (by decide +kernel) rfl rfl) (
    okc (ok_callV (SPf_ok _ _ _ _ _ _) (mi := 105) (n := 2) (idx := 88) rfl m_M_of (by decide) cX9_ok w_1130 w_1132 w_23 (by decide +kernel) rfl) (
    okc (ok_tab (dflt := 67) (lo := 1) (hi := 5) (offs := #[34, 39, 54, 61, 63]) (len := 34) (by decide +kernel) rfl rfl rfl) (
    okc (ok_iload_n (k := 3) (by decide +kernel) rfl rfl) (
    okc (ok_bipush (n := 10) (by decide +kernel) (by decide +kernel) rfl) (
    okc (ok_iadd (by decide +kernel) rfl) (
    okc (ok_iret rfl (by decide +kernel)) (
    okc (ok_iload_n (k := 3) (by decide +kernel) rfl rfl) (
    okc (ok_bipush (n := 9) (by decide +kernel) (by decide +kernel) rfl) (
    okc (ok_cmp_ge (off := 7) (by decide +kernel) rfl rfl) (
    okc (ok_iconst (n := 0) (by decide +kernel) rfl rfl) (
    okc (ok_goto (off := 7) (by decide +kernel) rfl) (
    okc (ok_iload_n (k := 3) (by decide +kernel) rfl rfl) (
    okc (ok_bipush (n := 9) (by decide +kernel) (by decide +kernel) rfl) (
    okc (ok_isub (by decide +kernel) rfl) (
    okc (ok_iret rfl (by decide +kernel)) ( okn))))))))))))))))))))))))))))))))))))))))))))))))))))))))))))
def pl_M_hardOf_2 : List (Nat × mA) := [(128, a_iload 3 129), (129, a_push 10 131), (131, a_bin (fun x y => x + y) 132), (132, a_push 2 133), (133, a_div (fun x y => x / y) 134), (134, a_iret), (135, a_push 0 136), (136, a_iret), (137, a_push 2 138), (138, a_iload 3 139), (139, a_bin (fun x y => x * y) 140), (140, a_iret), (141, a_iload 3 142), (142, a_iret)]
set_option maxRecDepth 20000 in
theorem ol_M_hardOf_2 : okall B sp D cA (SPf B sp Ls xs adK adV) MT ⟨"WreckSkyModel", "hardOf", "(I)I"⟩ prog_11_method_14_code 4 (Option.some Jvm.ClassFile.FieldType.int) (pl_M_hardOf_2) := by
  unfold pl_M_hardOf_2
  exact
    okc (ok_iload_n (k := 3) (by decide +kernel) rfl rfl) (
    okc (ok_bipush (n := 10) (by decide +kernel) (by decide +kernel) rfl) (
    okc (ok_iadd (by decide +kernel) rfl) (
    okc (ok_iconst (n := 2) (by decide +kernel) rfl rfl) (
    okc (ok_idiv (by decide +kernel) rfl) (
    okc (ok_iret rfl (by decide +kernel)) (
    okc (ok_iconst (n := 0) (by decide +kernel) rfl rfl) (
    okc (ok_iret rfl (by decide +kernel)) (
    okc (ok_iconst (n := 2) (by decide +kernel) rfl rfl) (
    okc (ok_iload_n (k := 3) (by decide +kernel) rfl rfl) (
    okc (ok_imul (by decide +kernel) rfl) (
    okc (ok_iret rfl (by decide +kernel)) (
    okc (ok_iload_n (k := 3) (by decide +kernel) rfl rfl) (
    okc (ok_iret rfl (by decide +kernel)) ( okn))))))))))))))
def pl_M_hardOf : List (Nat × mA) := pl_M_hardOf_1 ++ (pl_M_hardOf_2)
theorem ol_M_hardOf : okall B sp D cA (SPf B sp Ls xs adK adV) MT ⟨"WreckSkyModel", "hardOf", "(I)I"⟩ prog_11_method_14_code 4 (Option.some Jvm.ClassFile.FieldType.int) (pl_M_hardOf) := oka ol_M_hardOf_1 (ol_M_hardOf_2)
def pl_M_goesOf : List (Nat × mA) := [(0, a_aload 0 1), (1, a_iload 1 2), (2, a_push 3 3), (3, a_callO 9 36 105 2 6), (6, a_istore 2 7), (7, a_aload 0 8), (8, a_iload 1 9), (9, a_push 0 10), (10, a_callO 9 36 105 2 13), (13, a_sw (t_sw 2 [44, 48, 66, 70] 80)), (44, a_iload 2 45), (45, a_push 1 46), (46, a_bin (fun x y => x + y) 47), (47, a_iret), (48, a_aload 0 49), (49, a_getR 9 36 0 52), (52, a_push 2 53), (53, a_ald 0 54), (54, a_push 2 55), (55, a_div (fun x y => x - x / y * y) 56), (56, a_push 1 57), (57, a_cmp (fun x y => decide (x ≠ y)) 64 60), (60, a_push 0 61), (61, a_goto 65), (64, a_iload 2 65), (65, a_iret), (66, a_push (-1) 67), (67, a_iload 2 68), (68, a_bin (fun x y => x - y) 69), (69, a_iret), (70, a_iload 2 71), (71, a_if (fun x => decide (x ≠ 0)) 78 74), (74, a_push 1 75), (75, a_goto 79), (78, a_iload 2 79), (79, a_iret), (80, a_iload 2 81), (81, a_iret)]
set_option maxRecDepth 20000 in
theorem ol_M_goesOf : okall B sp D cA (SPf B sp Ls xs adK adV) MT ⟨"WreckSkyModel", "goesOf", "(I)I"⟩ prog_11_method_15_code 3 (Option.some Jvm.ClassFile.FieldType.int) (pl_M_goesOf) := by
  unfold pl_M_goesOf
  exact
    okc (ok_aload_n (k := 0) (by decide +kernel) rfl rfl) (
    okc (ok_iload_n (k := 1) (by decide +kernel) rfl rfl) (
    okc (ok_iconst (n := 3) (by decide +kernel) rfl rfl) (
    okc (ok_callV (SPf_ok _ _ _ _ _ _) (mi := 105) (n := 2) (idx := 88) rfl m_M_of (by decide) cX9_ok w_1130 w_1132 w_23 (by decide +kernel) rfl) (
    okc (ok_istore_n (k := 2) (by decide +kernel) rfl rfl) (
    okc (ok_aload_n (k := 0) (by decide +kernel) rfl rfl) (
    okc (ok_iload_n (k := 1) (by decide +kernel) rfl rfl) (
    okc (ok_iconst (n := 0) (by decide +kernel) rfl rfl) (
    okc (ok_callV (SPf_ok _ _ _ _ _ _) (mi := 105) (n := 2) (idx := 88) rfl m_M_of (by decide) cX9_ok w_1130 w_1132 w_23 (by decide +kernel) rfl) (
    okc (ok_tab (dflt := 67) (lo := 2) (hi := 5) (offs := #[31, 35, 53, 57]) (len := 31) (by decide +kernel) rfl rfl rfl) (
    okc (ok_iload_n (k := 2) (by decide +kernel) rfl rfl) (
    okc (ok_iconst (n := 1) (by decide +kernel) rfl rfl) (
    okc (ok_iadd (by decide +kernel) rfl) (
    okc (ok_iret rfl (by decide +kernel)) (
    okc (ok_aload_n (k := 0) (by decide +kernel) rfl rfl) (
    okc (ok_getR (k := 0) (idx := 9) cX9_ok (by decide) (by decide +kernel) w_991 (by decide +kernel) rfl) (
    okc (ok_iconst (n := 2) (by decide +kernel) rfl rfl) (
    okc (ok_iald (by decide +kernel) rfl) (
    okc (ok_iconst (n := 2) (by decide +kernel) rfl rfl) (
    okc (ok_irem (by decide +kernel) rfl) (
    okc (ok_iconst (n := 1) (by decide +kernel) rfl rfl) (
    okc (ok_cmp_ne (off := 7) (by decide +kernel) rfl rfl) (
    okc (ok_iconst (n := 0) (by decide +kernel) rfl rfl) (
    okc (ok_goto (off := 4) (by decide +kernel) rfl) (
    okc (ok_iload_n (k := 2) (by decide +kernel) rfl rfl) (
    okc (ok_iret rfl (by decide +kernel)) (
    okc (ok_iconst (n := -1) (by decide +kernel) rfl rfl) (
    okc (ok_iload_n (k := 2) (by decide +kernel) rfl rfl) (
    okc (ok_isub (by decide +kernel) rfl) (
    okc (ok_iret rfl (by decide +kernel)) (
    okc (ok_iload_n (k := 2) (by decide +kernel) rfl rfl) (
    okc (ok_if_ne (off := 7) (by decide +kernel) rfl rfl) (
    okc (ok_iconst (n := 1) (by decide +kernel) rfl rfl) (
    okc (ok_goto (off := 4) (by decide +kernel) rfl) (
    okc (ok_iload_n (k := 2) (by decide +kernel) rfl rfl) (
    okc (ok_iret rfl (by decide +kernel)) (
    okc (ok_iload_n (k := 2) (by decide +kernel) rfl rfl) (
    okc (ok_iret rfl (by decide +kernel)) ( okn))))))))))))))))))))))))))))))))))))))
def pl_M_worthOf : List (Nat × mA) := [(0, a_aload 0 1), (1, a_iload 1 2), (2, a_push 4 3), (3, a_callO 9 36 105 2 6), (6, a_istore 2 7), (7, a_aload 0 8), (8, a_iload 1 9), (9, a_push 0 10), (10, a_callO 9 36 105 2 13), (13, a_sw (t_sw 1 [48, 53, 58, 65, 70] 72)), (48, a_iload 2 49), (49, a_push 9 51), (51, a_bin (fun x y => x + y) 52), (52, a_iret), (53, a_push 99 55), (55, a_iload 2 56), (56, a_bin (fun x y => x - y) 57), (57, a_iret), (58, a_push 2 59), (59, a_iload 2 60), (60, a_push 9 62), (62, a_bin (fun x y => x + y) 63), (63, a_bin (fun x y => x * y) 64), (64, a_iret), (65, a_push 94 67), (67, a_iload 2 68), (68, a_bin (fun x y => x - y) 69), (69, a_iret), (70, a_push 2 71), (71, a_iret), (72, a_iload 2 73), (73, a_iret)]
set_option maxRecDepth 20000 in
theorem ol_M_worthOf : okall B sp D cA (SPf B sp Ls xs adK adV) MT ⟨"WreckSkyModel", "worthOf", "(I)I"⟩ prog_11_method_16_code 3 (Option.some Jvm.ClassFile.FieldType.int) (pl_M_worthOf) := by
  unfold pl_M_worthOf
  exact
    okc (ok_aload_n (k := 0) (by decide +kernel) rfl rfl) (
    okc (ok_iload_n (k := 1) (by decide +kernel) rfl rfl) (
    okc (ok_iconst (n := 4) (by decide +kernel) rfl rfl) (
    okc (ok_callV (SPf_ok _ _ _ _ _ _) (mi := 105) (n := 2) (idx := 88) rfl m_M_of (by decide) cX9_ok w_1130 w_1132 w_23 (by decide +kernel) rfl) (
    okc (ok_istore_n (k := 2) (by decide +kernel) rfl rfl) (
    okc (ok_aload_n (k := 0) (by decide +kernel) rfl rfl) (
    okc (ok_iload_n (k := 1) (by decide +kernel) rfl rfl) (
    okc (ok_iconst (n := 0) (by decide +kernel) rfl rfl) (
    okc (ok_callV (SPf_ok _ _ _ _ _ _) (mi := 105) (n := 2) (idx := 88) rfl m_M_of (by decide) cX9_ok w_1130 w_1132 w_23 (by decide +kernel) rfl) (
    okc (ok_tab (dflt := 59) (lo := 1) (hi := 5) (offs := #[35, 40, 45, 52, 57]) (len := 35) (by decide +kernel) rfl rfl rfl) (
    okc (ok_iload_n (k := 2) (by decide +kernel) rfl rfl) (
    okc (ok_bipush (n := 9) (by decide +kernel) (by decide +kernel) rfl) (
    okc (ok_iadd (by decide +kernel) rfl) (
    okc (ok_iret rfl (by decide +kernel)) (
    okc (ok_bipush (n := 99) (by decide +kernel) (by decide +kernel) rfl) (
    okc (ok_iload_n (k := 2) (by decide +kernel) rfl rfl) (
    okc (ok_isub (by decide +kernel) rfl) (
    okc (ok_iret rfl (by decide +kernel)) (
    okc (ok_iconst (n := 2) (by decide +kernel) rfl rfl) (
    okc (ok_iload_n (k := 2) (by decide +kernel) rfl rfl) (
    okc (ok_bipush (n := 9) (by decide +kernel) (by decide +kernel) rfl) (
    okc (ok_iadd (by decide +kernel) rfl) (
    okc (ok_imul (by decide +kernel) rfl) (
    okc (ok_iret rfl (by decide +kernel)) (
    okc (ok_bipush (n := 94) (by decide +kernel) (by decide +kernel) rfl) (
    okc (ok_iload_n (k := 2) (by decide +kernel) rfl rfl) (
    okc (ok_isub (by decide +kernel) rfl) (
    okc (ok_iret rfl (by decide +kernel)) (
    okc (ok_iconst (n := 2) (by decide +kernel) rfl rfl) (
    okc (ok_iret rfl (by decide +kernel)) (
    okc (ok_iload_n (k := 2) (by decide +kernel) rfl rfl) (
    okc (ok_iret rfl (by decide +kernel)) ( okn))))))))))))))))))))))))))))))))
def pl_K_isOf : List (Nat × mA) := [(0, a_aload 0 1), (1, a_getI 7 6 0 4), (4, a_istore 2 5), (5, a_push 0 6), (6, a_istore 3 7), (7, a_iload 3 8), (8, a_push 6 10), (10, a_cmp (fun x y => decide (y ≤ x)) 36 13), (13, a_iload 2 14), (14, a_if (fun x => decide (x < 0)) 36 17), (17, a_iload 2 18), (18, a_iload 1 19), (19, a_cmp (fun x y => decide (x ≠ y)) 24 22), (22, a_push 1 23), (23, a_zret), (24, a_spec 1 27), (27, a_iload 2 28), (28, a_tld 29), (29, a_istore 2 30), (30, a_iinc 3 1 33), (33, a_goto 7), (36, a_push 0 37), (37, a_zret)]
set_option maxRecDepth 20000 in
theorem ol_K_isOf : okall B sp D cA (SPf B sp Ls xs adK adV) MT ⟨"WreckSky$Wreck", "isOf", "(I)Z"⟩ prog_9_method_3_code 4 (Option.some Jvm.ClassFile.FieldType.boolean) (pl_K_isOf) := by
  unfold pl_K_isOf
  exact
    okc (ok_aload_n (k := 0) (by decide +kernel) rfl rfl) (
    okc (ok_getI (k := 0) (idx := 9) cX7_ok (by decide) (by decide +kernel) w_98 (by decide +kernel) rfl) (
    okc (ok_istore_n (k := 2) (by decide +kernel) rfl rfl) (
    okc (ok_iconst (n := 0) (by decide +kernel) rfl rfl) (
    okc (ok_istore_n (k := 3) (by decide +kernel) rfl rfl) (
    okc (ok_iload_n (k := 3) (by decide +kernel) rfl rfl) (
    okc (ok_bipush (n := 6) (by decide +kernel) (by decide +kernel) rfl) (
    okc (ok_cmp_ge (off := 26) (by decide +kernel) rfl rfl) (
    okc (ok_iload_n (k := 2) (by decide +kernel) rfl rfl) (
    okc (ok_if_lt (off := 22) (by decide +kernel) rfl rfl) (
    okc (ok_iload_n (k := 2) (by decide +kernel) rfl rfl) (
    okc (ok_iload_n (k := 1) (by decide +kernel) rfl rfl) (
    okc (ok_cmp_ne (off := 5) (by decide +kernel) rfl rfl) (
    okc (ok_iconst (n := 1) (by decide +kernel) rfl rfl) (
    okc (ok_zret rfl (by decide +kernel)) (
    okc (ok_above (idx := 31) w_420 (by decide +kernel) rfl) (
    okc (ok_iload_n (k := 2) (by decide +kernel) rfl rfl) (
    okc (ok_tld (by decide +kernel) rfl) (
    okc (ok_istore_n (k := 2) (by decide +kernel) rfl rfl) (
    okc (ok_iinc (n := 1) (by decide +kernel) rfl rfl) (
    okc (ok_goto (off := -26) (by decide +kernel) rfl) (
    okc (ok_iconst (n := 0) (by decide +kernel) rfl rfl) (
    okc (ok_zret rfl (by decide +kernel)) ( okn)))))))))))))))))))))))
def pl_M_isUnder : List (Nat × mA) := [(0, a_iload 1 1), (1, a_if (fun x => decide (x = 0)) 29 4), (4, a_iload 0 5), (5, a_iload 1 6), (6, a_cmp (fun x y => decide (x = y)) 29 9), (9, a_iload 1 10), (10, a_push 1 11), (11, a_cmp (fun x y => decide (x ≠ y)) 19 14), (14, a_iload 0 15), (15, a_push 3 16), (16, a_cmp (fun x y => decide (x = y)) 29 19), (19, a_iload 1 20), (20, a_push 2 21), (21, a_cmp (fun x y => decide (x ≠ y)) 33 24), (24, a_iload 0 25), (25, a_push 4 26), (26, a_cmp (fun x y => decide (x ≠ y)) 33 29), (29, a_push 1 30), (30, a_goto 34), (33, a_push 0 34), (34, a_zret)]
set_option maxRecDepth 20000 in
theorem ol_M_isUnder : okall B sp D cA (SPf B sp Ls xs adK adV) MT ⟨"WreckSkyModel", "isUnder", "(II)Z"⟩ prog_11_method_18_code 2 (Option.some Jvm.ClassFile.FieldType.boolean) (pl_M_isUnder) := by
  unfold pl_M_isUnder
  exact
    okc (ok_iload_n (k := 1) (by decide +kernel) rfl rfl) (
    okc (ok_if_eq (off := 28) (by decide +kernel) rfl rfl) (
    okc (ok_iload_n (k := 0) (by decide +kernel) rfl rfl) (
    okc (ok_iload_n (k := 1) (by decide +kernel) rfl rfl) (
    okc (ok_cmp_eq (off := 23) (by decide +kernel) rfl rfl) (
    okc (ok_iload_n (k := 1) (by decide +kernel) rfl rfl) (
    okc (ok_iconst (n := 1) (by decide +kernel) rfl rfl) (
    okc (ok_cmp_ne (off := 8) (by decide +kernel) rfl rfl) (
    okc (ok_iload_n (k := 0) (by decide +kernel) rfl rfl) (
    okc (ok_iconst (n := 3) (by decide +kernel) rfl rfl) (
    okc (ok_cmp_eq (off := 13) (by decide +kernel) rfl rfl) (
    okc (ok_iload_n (k := 1) (by decide +kernel) rfl rfl) (
    okc (ok_iconst (n := 2) (by decide +kernel) rfl rfl) (
    okc (ok_cmp_ne (off := 12) (by decide +kernel) rfl rfl) (
    okc (ok_iload_n (k := 0) (by decide +kernel) rfl rfl) (
    okc (ok_iconst (n := 4) (by decide +kernel) rfl rfl) (
    okc (ok_cmp_ne (off := 7) (by decide +kernel) rfl rfl) (
    okc (ok_iconst (n := 1) (by decide +kernel) rfl rfl) (
    okc (ok_goto (off := 4) (by decide +kernel) rfl) (
    okc (ok_iconst (n := 0) (by decide +kernel) rfl rfl) (
    okc (ok_zret rfl (by decide +kernel)) ( okn)))))))))))))))))))))
def pl_M_becomes : List (Nat × mA) := [(0, a_aload 0 1), (1, a_getR 9 36 0 4), (4, a_iload 1 5), (5, a_ald 0 6), (6, a_istore 3 7), (7, a_aload 0 8), (8, a_getR 9 36 0 11), (11, a_iload 1 12), (12, a_iload 2 13), (13, a_ast 0 (fun x => x) 14), (14, a_iload 3 15), (15, a_iret)]
set_option maxRecDepth 20000 in
theorem ol_M_becomes : okall B sp D cA (SPf B sp Ls xs adK adV) MT ⟨"WreckSkyModel", "becomes", "(II)I"⟩ prog_11_method_10_code 4 (Option.some Jvm.ClassFile.FieldType.int) (pl_M_becomes) := by
  unfold pl_M_becomes
  exact
    okc (ok_aload_n (k := 0) (by decide +kernel) rfl rfl) (
    okc (ok_getR (k := 0) (idx := 9) cX9_ok (by decide) (by decide +kernel) w_991 (by decide +kernel) rfl) (
    okc (ok_iload_n (k := 1) (by decide +kernel) rfl rfl) (
    okc (ok_iald (by decide +kernel) rfl) (
    okc (ok_istore_n (k := 3) (by decide +kernel) rfl rfl) (
    okc (ok_aload_n (k := 0) (by decide +kernel) rfl rfl) (
    okc (ok_getR (k := 0) (idx := 9) cX9_ok (by decide) (by decide +kernel) w_991 (by decide +kernel) rfl) (
    okc (ok_iload_n (k := 1) (by decide +kernel) rfl rfl) (
    okc (ok_iload_n (k := 2) (by decide +kernel) rfl rfl) (
    okc (ok_iast (by decide +kernel) rfl) (
    okc (ok_iload_n (k := 3) (by decide +kernel) rfl rfl) (
    okc (ok_iret rfl (by decide +kernel)) ( okn))))))))))))
def pl_W_fits : List (Nat × mA) := [(0, a_iload 0 1), (1, a_sw (t_sw 1 [36, 44, 49, 58, 66] 73)), (36, a_iload 1 37), (37, a_push 0 38), (38, a_push 7 40), (40, a_call 94 3 43), (43, a_zret), (44, a_iload 1 45), (45, a_call 95 1 48), (48, a_zret), (49, a_iload 1 50), (50, a_push (-9) 52), (52, a_push 9 54), (54, a_call 94 3 57), (57, a_zret), (58, a_iload 1 59), (59, a_push 1 60), (60, a_push 99 62), (62, a_call 94 3 65), (65, a_zret), (66, a_iload 1 67), (67, a_push 0 68), (68, a_push 1 69), (69, a_call 94 3 72), (72, a_zret), (73, a_push 0 74), (74, a_zret)]
set_option maxRecDepth 20000 in
theorem ol_W_fits : okall B sp D cA (SPf B sp Ls xs adK adV) MT ⟨"WreckSky", "fits", "(II)Z"⟩ prog_1_method_51_code 2 (Option.some Jvm.ClassFile.FieldType.boolean) (pl_W_fits) := by
  unfold pl_W_fits
  exact
    okc (ok_iload_n (k := 0) (by decide +kernel) rfl rfl) (
    okc (ok_tab (dflt := 72) (lo := 1) (hi := 5) (offs := #[35, 43, 48, 57, 65]) (len := 35) (by decide +kernel) rfl rfl rfl) (
    okc (ok_iload_n (k := 1) (by decide +kernel) rfl rfl) (
    okc (ok_iconst (n := 0) (by decide +kernel) rfl rfl) (
    okc (ok_bipush (n := 7) (by decide +kernel) (by decide +kernel) rfl) (
    okc (ok_callS (SPf_ok _ _ _ _ _ _) (mi := 94) (n := 3) (idx := 72) rfl m_W_within (by decide) w_351 w_352 (by decide +kernel) rfl) (
    okc (ok_zret rfl (by decide +kernel)) (
    okc (ok_iload_n (k := 1) (by decide +kernel) rfl rfl) (
    okc (ok_callS (SPf_ok _ _ _ _ _ _) (mi := 95) (n := 1) (idx := 76) rfl m_W_isPlace (by decide) w_354 w_355 (by decide +kernel) rfl) (
    okc (ok_zret rfl (by decide +kernel)) (
    okc (ok_iload_n (k := 1) (by decide +kernel) rfl rfl) (
    okc (ok_bipush (n := -9) (by decide +kernel) (by decide +kernel) rfl) (
    okc (ok_bipush (n := 9) (by decide +kernel) (by decide +kernel) rfl) (
    okc (ok_callS (SPf_ok _ _ _ _ _ _) (mi := 94) (n := 3) (idx := 72) rfl m_W_within (by decide) w_351 w_352 (by decide +kernel) rfl) (
    okc (ok_zret rfl (by decide +kernel)) (
    okc (ok_iload_n (k := 1) (by decide +kernel) rfl rfl) (
    okc (ok_iconst (n := 1) (by decide +kernel) rfl rfl) (
    okc (ok_bipush (n := 99) (by decide +kernel) (by decide +kernel) rfl) (
    okc (ok_callS (SPf_ok _ _ _ _ _ _) (mi := 94) (n := 3) (idx := 72) rfl m_W_within (by decide) w_351 w_352 (by decide +kernel) rfl) (
    okc (ok_zret rfl (by decide +kernel)) (
    okc (ok_iload_n (k := 1) (by decide +kernel) rfl rfl) (
    okc (ok_iconst (n := 0) (by decide +kernel) rfl rfl) (
    okc (ok_iconst (n := 1) (by decide +kernel) rfl rfl) (
    okc (ok_callS (SPf_ok _ _ _ _ _ _) (mi := 94) (n := 3) (idx := 72) rfl m_W_within (by decide) w_351 w_352 (by decide +kernel) rfl) (
    okc (ok_zret rfl (by decide +kernel)) (
    okc (ok_iconst (n := 0) (by decide +kernel) rfl rfl) (
    okc (ok_zret rfl (by decide +kernel)) ( okn)))))))))))))))))))))))))))
def pl_M_isUp : List (Nat × mA) := [(0, a_aload 0 1), (1, a_iload 1 2), (2, a_push 5 3), (3, a_callO 9 36 105 2 6), (6, a_push 1 7), (7, a_cmp (fun x y => decide (x ≠ y)) 14 10), (10, a_push 1 11), (11, a_goto 15), (14, a_push 0 15), (15, a_zret)]
set_option maxRecDepth 20000 in
theorem ol_M_isUp : okall B sp D cA (SPf B sp Ls xs adK adV) MT ⟨"WreckSkyModel", "isUp", "(I)Z"⟩ prog_11_method_9_code 2 (Option.some Jvm.ClassFile.FieldType.boolean) (pl_M_isUp) := by
  unfold pl_M_isUp
  exact
    okc (ok_aload_n (k := 0) (by decide +kernel) rfl rfl) (
    okc (ok_iload_n (k := 1) (by decide +kernel) rfl rfl) (
    okc (ok_iconst (n := 5) (by decide +kernel) rfl rfl) (
    okc (ok_callV (SPf_ok _ _ _ _ _ _) (mi := 105) (n := 2) (idx := 88) rfl m_M_of (by decide) cX9_ok w_1130 w_1132 w_23 (by decide +kernel) rfl) (
    okc (ok_iconst (n := 1) (by decide +kernel) rfl rfl) (
    okc (ok_cmp_ne (off := 7) (by decide +kernel) rfl rfl) (
    okc (ok_iconst (n := 1) (by decide +kernel) rfl rfl) (
    okc (ok_goto (off := 4) (by decide +kernel) rfl) (
    okc (ok_iconst (n := 0) (by decide +kernel) rfl rfl) (
    okc (ok_zret rfl (by decide +kernel)) ( okn))))))))))
def pl_M_put : List (Nat × mA) := [(0, a_aload 0 1), (1, a_getR 9 36 0 4), (4, a_push 8 6), (6, a_push 6 8), (8, a_iload 1 9), (9, a_bin (fun x y => x * y) 10), (10, a_bin (fun x y => x + y) 11), (11, a_iload 2 12), (12, a_bin (fun x y => x + y) 13), (13, a_iload 3 14), (14, a_ast 0 (fun x => x) 15), (15, a_ret)]
set_option maxRecDepth 20000 in
theorem ol_M_put : okall B sp D cA (SPf B sp Ls xs adK adV) MT ⟨"WreckSkyModel", "put", "(III)V"⟩ prog_11_method_8_code 4 (Option.none : Option Jvm.ClassFile.FieldType) (pl_M_put) := by
  unfold pl_M_put
  exact
    okc (ok_aload_n (k := 0) (by decide +kernel) rfl rfl) (
    okc (ok_getR (k := 0) (idx := 9) cX9_ok (by decide) (by decide +kernel) w_991 (by decide +kernel) rfl) (
    okc (ok_bipush (n := 8) (by decide +kernel) (by decide +kernel) rfl) (
    okc (ok_bipush (n := 6) (by decide +kernel) (by decide +kernel) rfl) (
    okc (ok_iload_n (k := 1) (by decide +kernel) rfl rfl) (
    okc (ok_imul (by decide +kernel) rfl) (
    okc (ok_iadd (by decide +kernel) rfl) (
    okc (ok_iload_n (k := 2) (by decide +kernel) rfl rfl) (
    okc (ok_iadd (by decide +kernel) rfl) (
    okc (ok_iload_n (k := 3) (by decide +kernel) rfl rfl) (
    okc (ok_iast (by decide +kernel) rfl) (
    okc (ok_ret rfl (by decide +kernel)) ( okn))))))))))))
def pl_M_upAt : List (Nat × mA) := [(0, a_push 0 1), (1, a_istore 3 2), (2, a_push 0 3), (3, a_istore 4 5), (5, a_iload 4 7), (7, a_aload 0 8), (8, a_getR 9 36 0 11), (11, a_push 1 12), (12, a_ald 0 13), (13, a_cmp (fun x y => decide (y ≤ x)) 64 16), (16, a_iload 3 17), (17, a_aload 0 18), (18, a_iload 4 20), (20, a_callO 9 36 113 1 23), (23, a_if (fun x => decide (x = 0)) 55 26), (26, a_aload 0 27), (27, a_iload 4 29), (29, a_push 1 30), (30, a_callO 9 36 105 2 33), (33, a_iload 1 34), (34, a_cmp (fun x y => decide (x ≠ y)) 55 37), (37, a_aload 0 38), (38, a_iload 4 40), (40, a_push 2 41), (41, a_callO 9 36 105 2 44), (44, a_iload 2 45), (45, a_cmp (fun x y => decide (x ≠ y)) 55 48), (48, a_push 1 49), (49, a_iload 4 51), (51, a_bin (fun x y => x <<< (y &&& 31)) 52), (52, a_goto 56), (55, a_push 0 56), (56, a_bin (fun x y => x ||| y) 57), (57, a_istore 3 58), (58, a_iinc 4 1 61), (61, a_goto 5), (64, a_iload 3 65), (65, a_iret)]
set_option maxRecDepth 20000 in
theorem ol_M_upAt : okall B sp D cA (SPf B sp Ls xs adK adV) MT ⟨"WreckSkyModel", "upAt", "(II)I"⟩ prog_11_method_24_code 5 (Option.some Jvm.ClassFile.FieldType.int) (pl_M_upAt) := by
  unfold pl_M_upAt
  exact
    okc (ok_iconst (n := 0) (by decide +kernel) rfl rfl) (
    okc (ok_istore_n (k := 3) (by decide +kernel) rfl rfl) (
    okc (ok_iconst (n := 0) (by decide +kernel) rfl rfl) (
    okc (ok_istore (by decide +kernel) rfl) (
    okc (ok_iload (by decide +kernel) rfl) (
    okc (ok_aload_n (k := 0) (by decide +kernel) rfl rfl) (
    okc (ok_getR (k := 0) (idx := 9) cX9_ok (by decide) (by decide +kernel) w_991 (by decide +kernel) rfl) (
    okc (ok_iconst (n := 1) (by decide +kernel) rfl rfl) (
    okc (ok_iald (by decide +kernel) rfl) (
    okc (ok_cmp_ge (off := 51) (by decide +kernel) rfl rfl) (
    okc (ok_iload_n (k := 3) (by decide +kernel) rfl rfl) (
    okc (ok_aload_n (k := 0) (by decide +kernel) rfl rfl) (
    okc (ok_iload (by decide +kernel) rfl) (
    okc (ok_callV (SPf_ok _ _ _ _ _ _) (mi := 113) (n := 1) (idx := 137) rfl m_M_isUp (by decide) cX9_ok w_1184 w_1186 w_30 (by decide +kernel) rfl) (
    okc (ok_if_eq (off := 32) (by decide +kernel) rfl rfl) (
    okc (ok_aload_n (k := 0) (by decide +kernel) rfl rfl) (
    okc (ok_iload (by decide +kernel) rfl) (
    okc (ok_iconst (n := 1) (by decide +kernel) rfl rfl) (
    okc (ok_callV (SPf_ok _ _ _ _ _ _) (mi := 105) (n := 2) (idx := 88) rfl m_M_of (by decide) cX9_ok w_1130 w_1132 w_23 (by decide +kernel) rfl) (
    okc (ok_iload_n (k := 1) (by decide +kernel) rfl rfl) (
    okc (ok_cmp_ne (off := 21) (by decide +kernel) rfl rfl) (
    okc (ok_aload_n (k := 0) (by decide +kernel) rfl rfl) (
    okc (ok_iload (by decide +kernel) rfl) (
    okc (ok_iconst (n := 2) (by decide +kernel) rfl rfl) (
    okc (ok_callV (SPf_ok _ _ _ _ _ _) (mi := 105) (n := 2) (idx := 88) rfl m_M_of (by decide) cX9_ok w_1130 w_1132 w_23 (by decide +kernel) rfl) (
    okc (ok_iload_n (k := 2) (by decide +kernel) rfl rfl) (
    okc (ok_cmp_ne (off := 10) (by decide +kernel) rfl rfl) (
    okc (ok_iconst (n := 1) (by decide +kernel) rfl rfl) (
    okc (ok_iload (by decide +kernel) rfl) (
    okc (ok_ishl (by decide +kernel) rfl) (
    okc (ok_goto (off := 4) (by decide +kernel) rfl) (
    okc (ok_iconst (n := 0) (by decide +kernel) rfl rfl) (
    okc (ok_ior (by decide +kernel) rfl) (
    okc (ok_istore_n (k := 3) (by decide +kernel) rfl rfl) (
    okc (ok_iinc (n := 1) (by decide +kernel) rfl rfl) (
    okc (ok_goto (off := -56) (by decide +kernel) rfl) (
    okc (ok_iload_n (k := 3) (by decide +kernel) rfl rfl) (
    okc (ok_iret rfl (by decide +kernel)) ( okn))))))))))))))))))))))))))))))))))))))
def pl_JMath_min : List (Nat × mA) := [(0, a_iload 0 1), (1, a_iload 1 2), (2, a_cmp (fun x y => decide (y < x)) 9 5), (5, a_iload 0 6), (6, a_goto 10), (9, a_iload 1 10), (10, a_iret)]
set_option maxRecDepth 20000 in
theorem ol_JMath_min : okall B sp D cA (SPf B sp Ls xs adK adV) MT ⟨"java/lang/Math", "min", "(II)I"⟩ prog_15_method_69_code 2 (Option.some Jvm.ClassFile.FieldType.int) (pl_JMath_min) := by
  unfold pl_JMath_min
  exact
    okc (ok_iload_n (k := 0) (by decide +kernel) rfl rfl) (
    okc (ok_iload_n (k := 1) (by decide +kernel) rfl rfl) (
    okc (ok_cmp_gt (off := 7) (by decide +kernel) rfl rfl) (
    okc (ok_iload_n (k := 0) (by decide +kernel) rfl rfl) (
    okc (ok_goto (off := 4) (by decide +kernel) rfl) (
    okc (ok_iload_n (k := 1) (by decide +kernel) rfl rfl) (
    okc (ok_iret rfl (by decide +kernel)) ( okn)))))))
def pl_S_drawWreck : List (Nat × mA) := [(0, a_aload 0 1), (1, a_callO 3 11 175 0 4), (4, a_push 6 6), (6, a_div (fun x y => x - x / y * y) 7), (7, a_istore 1 8), (8, a_aload 0 9), (9, a_callO 3 11 175 0 12), (12, a_push 8 14), (14, a_div (fun x y => x - x / y * y) 15), (15, a_istore 2 16), (16, a_aload 0 17), (17, a_callO 3 11 175 0 20), (20, a_push 30 22), (22, a_div (fun x y => x - x / y * y) 23), (23, a_istore 3 24), (24, a_aload 0 25), (25, a_callO 3 11 175 0 28), (28, a_push 19 30), (30, a_div (fun x y => x - x / y * y) 31), (31, a_push 9 33), (33, a_bin (fun x y => x - y) 34), (34, a_istore 4 36), (36, a_push 1 37), (37, a_aload 0 38), (38, a_callO 3 11 175 0 41), (41, a_push 30 43), (43, a_div (fun x y => x - x / y * y) 44), (44, a_bin (fun x y => x + y) 45), (45, a_istore 5 47), (47, a_aload 0 48), (48, a_iload 1 49), (49, a_iload 2 50), (50, a_iload 3 51), (51, a_iload 4 53), (53, a_iload 5 55), (55, a_callO 3 11 96 5 58), (58, a_pop 59), (59, a_ret)]
set_option maxRecDepth 20000 in
theorem ol_S_drawWreck : okall B sp D cA (SPf B sp Ls xs adK adV) MT ⟨"WreckSky$Sky", "drawWreck", "()V"⟩ prog_5_method_9_code 6 (Option.none : Option Jvm.ClassFile.FieldType) (pl_S_drawWreck) := by
  unfold pl_S_drawWreck
  exact
    okc (ok_aload_n (k := 0) (by decide +kernel) rfl rfl) (
    okc (ok_callV (SPf_ok _ _ _ _ _ _) (mi := 175) (n := 0) (idx := 99) rfl m_S_draw (by decide) cX3_ok w_456 w_457 w_458 (by decide +kernel) rfl) (
    okc (ok_bipush (n := 6) (by decide +kernel) (by decide +kernel) rfl) (
    okc (ok_irem (by decide +kernel) rfl) (
    okc (ok_istore_n (k := 1) (by decide +kernel) rfl rfl) (
    okc (ok_aload_n (k := 0) (by decide +kernel) rfl rfl) (
    okc (ok_callV (SPf_ok _ _ _ _ _ _) (mi := 175) (n := 0) (idx := 99) rfl m_S_draw (by decide) cX3_ok w_456 w_457 w_458 (by decide +kernel) rfl) (
    okc (ok_bipush (n := 8) (by decide +kernel) (by decide +kernel) rfl) (
    okc (ok_irem (by decide +kernel) rfl) (
    okc (ok_istore_n (k := 2) (by decide +kernel) rfl rfl) (
    okc (ok_aload_n (k := 0) (by decide +kernel) rfl rfl) (
    okc (ok_callV (SPf_ok _ _ _ _ _ _) (mi := 175) (n := 0) (idx := 99) rfl m_S_draw (by decide) cX3_ok w_456 w_457 w_458 (by decide +kernel) rfl) (
    okc (ok_bipush (n := 30) (by decide +kernel) (by decide +kernel) rfl) (
    okc (ok_irem (by decide +kernel) rfl) (
    okc (ok_istore_n (k := 3) (by decide +kernel) rfl rfl) (
    okc (ok_aload_n (k := 0) (by decide +kernel) rfl rfl) (
    okc (ok_callV (SPf_ok _ _ _ _ _ _) (mi := 175) (n := 0) (idx := 99) rfl m_S_draw (by decide) cX3_ok w_456 w_457 w_458 (by decide +kernel) rfl) (
    okc (ok_bipush (n := 19) (by decide +kernel) (by decide +kernel) rfl) (
    okc (ok_irem (by decide +kernel) rfl) (
    okc (ok_bipush (n := 9) (by decide +kernel) (by decide +kernel) rfl) (
    okc (ok_isub (by decide +kernel) rfl) (
    okc (ok_istore (by decide +kernel) rfl) (
    okc (ok_iconst (n := 1) (by decide +kernel) rfl rfl) (
    okc (ok_aload_n (k := 0) (by decide +kernel) rfl rfl) (
    okc (ok_callV (SPf_ok _ _ _ _ _ _) (mi := 175) (n := 0) (idx := 99) rfl m_S_draw (by decide) cX3_ok w_456 w_457 w_458 (by decide +kernel) rfl) (
    okc (ok_bipush (n := 30) (by decide +kernel) (by decide +kernel) rfl) (
    okc (ok_irem (by decide +kernel) rfl) (
    okc (ok_iadd (by decide +kernel) rfl) (
    okc (ok_istore (by decide +kernel) rfl) (
    okc (ok_aload_n (k := 0) (by decide +kernel) rfl rfl) (
    okc (ok_iload_n (k := 1) (by decide +kernel) rfl rfl) (
    okc (ok_iload_n (k := 2) (by decide +kernel) rfl rfl) (
    okc (ok_iload_n (k := 3) (by decide +kernel) rfl rfl) (
    okc (ok_iload (by decide +kernel) rfl) (
    okc (ok_iload (by decide +kernel) rfl) (
    okc (ok_callV (SPf_ok _ _ _ _ _ _) (mi := 96) (n := 5) (idx := 103) rfl m_S_addWreck (by decide) cX3_ok w_461 w_359 w_360 (by decide +kernel) rfl) (
    okc (ok_pop (by decide +kernel) rfl) (
    okc (ok_ret rfl (by decide +kernel)) ( okn))))))))))))))))))))))))))))))))))))))
def pl_M_draw : List (Nat × mA) := [(0, a_aload 0 1), (1, a_getR 9 36 0 4), (4, a_push 0 5), (5, a_aload 0 6), (6, a_getR 9 36 0 9), (9, a_push 0 10), (10, a_ald 0 11), (11, a_push 1103515245 13), (13, a_bin (fun x y => x * y) 14), (14, a_push 12345 17), (17, a_bin (fun x y => x + y) 18), (18, a_ast 0 (fun x => x) 19), (19, a_aload 0 20), (20, a_getR 9 36 0 23), (23, a_push 0 24), (24, a_ald 0 25), (25, a_push 8 27), (27, a_bin (fun x y => (x.toUInt32 >>> (y.toUInt32 &&& Int32.toUInt32 31)).toInt32) 28), (28, a_iret)]
set_option maxRecDepth 20000 in
theorem ol_M_draw : okall B sp D cA (SPf B sp Ls xs adK adV) MT ⟨"WreckSkyModel", "draw", "()I"⟩ prog_11_method_26_code 1 (Option.some Jvm.ClassFile.FieldType.int) (pl_M_draw) := by
  unfold pl_M_draw
  exact
    okc (ok_aload_n (k := 0) (by decide +kernel) rfl rfl) (
    okc (ok_getR (k := 0) (idx := 9) cX9_ok (by decide) (by decide +kernel) w_991 (by decide +kernel) rfl) (
    okc (ok_iconst (n := 0) (by decide +kernel) rfl rfl) (
    okc (ok_aload_n (k := 0) (by decide +kernel) rfl rfl) (
    okc (ok_getR (k := 0) (idx := 9) cX9_ok (by decide) (by decide +kernel) w_991 (by decide +kernel) rfl) (
    okc (ok_iconst (n := 0) (by decide +kernel) rfl rfl) (
    okc (ok_iald (by decide +kernel) rfl) (
    okc (ok_ldc (i := 144) w_1209 (by decide +kernel) rfl) (
    okc (ok_imul (by decide +kernel) rfl) (
    okc (ok_sipush (n := 12345) (by decide +kernel) (by decide +kernel) rfl) (
    okc (ok_iadd (by decide +kernel) rfl) (
    okc (ok_iast (by decide +kernel) rfl) (
    okc (ok_aload_n (k := 0) (by decide +kernel) rfl rfl) (
    okc (ok_getR (k := 0) (idx := 9) cX9_ok (by decide) (by decide +kernel) w_991 (by decide +kernel) rfl) (
    okc (ok_iconst (n := 0) (by decide +kernel) rfl rfl) (
    okc (ok_iald (by decide +kernel) rfl) (
    okc (ok_bipush (n := 8) (by decide +kernel) (by decide +kernel) rfl) (
    okc (ok_iushr (by decide +kernel) rfl) (
    okc (ok_iret rfl (by decide +kernel)) ( okn)))))))))))))))))))
def pl_S_passHours : List (Nat × mA) := [(0, a_push 0 1), (1, a_istore 2 2), (2, a_iload 2 3), (3, a_iload 1 4), (4, a_cmp (fun x y => decide (y ≤ x)) 35 7), (7, a_aload 0 8), (8, a_callO 3 11 176 0 11), (11, a_aload 0 12), (12, a_callO 3 11 177 0 15), (15, a_aload 0 16), (16, a_callO 3 11 178 0 19), (19, a_aload 0 20), (20, a_dup 21), (21, a_getI 3 11 9 24), (24, a_push 1 25), (25, a_bin (fun x y => x + y) 26), (26, a_putI 3 11 9 29), (29, a_iinc 2 1 32), (32, a_goto 2), (35, a_ret)]
set_option maxRecDepth 20000 in
theorem ol_S_passHours : okall B sp D cA (SPf B sp Ls xs adK adV) MT ⟨"WreckSky$Sky", "passHours", "(I)V"⟩ prog_5_method_10_code 3 (Option.none : Option Jvm.ClassFile.FieldType) (pl_S_passHours) := by
  unfold pl_S_passHours
  exact
    okc (ok_iconst (n := 0) (by decide +kernel) rfl rfl) (
    okc (ok_istore_n (k := 2) (by decide +kernel) rfl rfl) (
    okc (ok_iload_n (k := 2) (by decide +kernel) rfl rfl) (
    okc (ok_iload_n (k := 1) (by decide +kernel) rfl rfl) (
    okc (ok_cmp_ge (off := 31) (by decide +kernel) rfl rfl) (
    okc (ok_aload_n (k := 0) (by decide +kernel) rfl rfl) (
    okc (ok_callV (SPf_ok _ _ _ _ _ _) (mi := 176) (n := 0) (idx := 107) rfl m_S_goAll (by decide) cX3_ok w_474 w_476 w_0 (by decide +kernel) rfl) (
    okc (ok_aload_n (k := 0) (by decide +kernel) rfl rfl) (
    okc (ok_callV (SPf_ok _ _ _ _ _ _) (mi := 177) (n := 0) (idx := 110) rfl m_S_meetAll (by decide) cX3_ok w_482 w_484 w_1 (by decide +kernel) rfl) (
    okc (ok_aload_n (k := 0) (by decide +kernel) rfl rfl) (
    okc (ok_callV (SPf_ok _ _ _ _ _ _) (mi := 178) (n := 0) (idx := 113) rfl m_S_sinkByLot (by decide) cX3_ok w_492 w_494 w_3 (by decide +kernel) rfl) (
    okc (ok_aload_n (k := 0) (by decide +kernel) rfl rfl) (
    okc (ok_dup (by decide +kernel) rfl) (
    okc (ok_getI (k := 9) (idx := 46) cX3_ok (by decide) (by decide +kernel) w_155 (by decide +kernel) rfl) (
    okc (ok_iconst (n := 1) (by decide +kernel) rfl rfl) (
    okc (ok_iadd (by decide +kernel) rfl) (
    okc (ok_putI (k := 9) (idx := 46) cX3_ok (by decide) rfl rfl w_155 (by decide +kernel) rfl) (
    okc (ok_iinc (n := 1) (by decide +kernel) rfl rfl) (
    okc (ok_goto (off := -30) (by decide +kernel) rfl) (
    okc (ok_ret rfl (by decide +kernel)) ( okn))))))))))))))))))))
def pl_M_within : List (Nat × mA) := [(0, a_iload 0 1), (1, a_iload 1 2), (2, a_cmp (fun x y => decide (y ≤ x)) 9 5), (5, a_iload 1 6), (6, a_goto 19), (9, a_iload 0 10), (10, a_iload 2 11), (11, a_cmp (fun x y => decide (x ≤ y)) 18 14), (14, a_iload 2 15), (15, a_goto 19), (18, a_iload 0 19), (19, a_iret)]
set_option maxRecDepth 20000 in
theorem ol_M_within : okall B sp D cA (SPf B sp Ls xs adK adV) MT ⟨"WreckSkyModel", "within", "(III)I"⟩ prog_11_method_3_code 3 (Option.some Jvm.ClassFile.FieldType.int) (pl_M_within) := by
  unfold pl_M_within
  exact
    okc (ok_iload_n (k := 0) (by decide +kernel) rfl rfl) (
    okc (ok_iload_n (k := 1) (by decide +kernel) rfl rfl) (
    okc (ok_cmp_ge (off := 7) (by decide +kernel) rfl rfl) (
    okc (ok_iload_n (k := 1) (by decide +kernel) rfl rfl) (
    okc (ok_goto (off := 13) (by decide +kernel) rfl) (
    okc (ok_iload_n (k := 0) (by decide +kernel) rfl rfl) (
    okc (ok_iload_n (k := 2) (by decide +kernel) rfl rfl) (
    okc (ok_cmp_le (off := 7) (by decide +kernel) rfl rfl) (
    okc (ok_iload_n (k := 2) (by decide +kernel) rfl rfl) (
    okc (ok_goto (off := 4) (by decide +kernel) rfl) (
    okc (ok_iload_n (k := 0) (by decide +kernel) rfl rfl) (
    okc (ok_iret rfl (by decide +kernel)) ( okn))))))))))))
def pl_M_goesOn : List (Nat × mA) := [(0, a_push 0 1), (1, a_istore 2 2), (2, a_iload 2 3), (3, a_iload 1 4), (4, a_cmp (fun x y => decide (y ≤ x)) 17 7), (7, a_aload 0 8), (8, a_callO 9 36 131 0 11), (11, a_iinc 2 1 14), (14, a_goto 2), (17, a_ret)]
set_option maxRecDepth 20000 in
theorem ol_M_goesOn : okall B sp D cA (SPf B sp Ls xs adK adV) MT ⟨"WreckSkyModel", "goesOn", "(I)V"⟩ prog_11_method_33_code 3 (Option.none : Option Jvm.ClassFile.FieldType) (pl_M_goesOn) := by
  unfold pl_M_goesOn
  exact
    okc (ok_iconst (n := 0) (by decide +kernel) rfl rfl) (
    okc (ok_istore_n (k := 2) (by decide +kernel) rfl rfl) (
    okc (ok_iload_n (k := 2) (by decide +kernel) rfl rfl) (
    okc (ok_iload_n (k := 1) (by decide +kernel) rfl rfl) (
    okc (ok_cmp_ge (off := 13) (by decide +kernel) rfl rfl) (
    okc (ok_aload_n (k := 0) (by decide +kernel) rfl rfl) (
    okc (ok_callV (SPf_ok _ _ _ _ _ _) (mi := 131) (n := 0) (idx := 162) rfl m_M_hour (by decide) cX9_ok w_1222 w_1224 w_34 (by decide +kernel) rfl) (
    okc (ok_iinc (n := 1) (by decide +kernel) rfl rfl) (
    okc (ok_goto (off := -12) (by decide +kernel) rfl) (
    okc (ok_ret rfl (by decide +kernel)) ( okn))))))))))
def pl_S_upSet : List (Nat × mA) := [(0, a_push 0 1), (1, a_istore 1 2), (2, a_push 0 3), (3, a_istore 2 4), (4, a_iload 2 5), (5, a_aload 0 6), (6, a_getI 3 11 3 9), (9, a_cmp (fun x y => decide (y ≤ x)) 36 12), (12, a_aload 0 13), (13, a_getR 3 11 0 16), (16, a_iload 2 17), (17, a_aald 4 18), (18, a_getI 7 6 5 21), (21, a_if (fun x => decide (x = 0)) 30 24), (24, a_iload 1 25), (25, a_push 1 26), (26, a_iload 2 27), (27, a_bin (fun x y => x <<< (y &&& 31)) 28), (28, a_bin (fun x y => x ||| y) 29), (29, a_istore 1 30), (30, a_iinc 2 1 33), (33, a_goto 4), (36, a_iload 1 37), (37, a_iret)]
set_option maxRecDepth 20000 in
theorem ol_S_upSet : okall B sp D cA (SPf B sp Ls xs adK adV) MT ⟨"WreckSky$Sky", "upSet", "()I"⟩ prog_5_method_15_code 3 (Option.some Jvm.ClassFile.FieldType.int) (pl_S_upSet) := by
  unfold pl_S_upSet
  exact
    okc (ok_iconst (n := 0) (by decide +kernel) rfl rfl) (
    okc (ok_istore_n (k := 1) (by decide +kernel) rfl rfl) (
    okc (ok_iconst (n := 0) (by decide +kernel) rfl rfl) (
    okc (ok_istore_n (k := 2) (by decide +kernel) rfl rfl) (
    okc (ok_iload_n (k := 2) (by decide +kernel) rfl rfl) (
    okc (ok_aload_n (k := 0) (by decide +kernel) rfl rfl) (
    okc (ok_getI (k := 3) (idx := 27) cX3_ok (by decide) (by decide +kernel) w_141 (by decide +kernel) rfl) (
    okc (ok_cmp_ge (off := 27) (by decide +kernel) rfl rfl) (
    okc (ok_aload_n (k := 0) (by decide +kernel) rfl rfl) (
    okc (ok_getR (k := 0) (idx := 11) cX3_ok (by decide) (by decide +kernel) w_134 (by decide +kernel) rfl) (
    okc (ok_iload_n (k := 2) (by decide +kernel) rfl rfl) (
    okc (ok_aald (C := "WreckSky$Wreck") (by decide) (fun _ => rfl) (by decide +kernel) rfl) (
    okc (ok_getI (k := 5) (idx := 76) cX7_ok (by decide) (by decide +kernel) w_118 (by decide +kernel) rfl) (
    okc (ok_if_eq (off := 9) (by decide +kernel) rfl rfl) (
    okc (ok_iload_n (k := 1) (by decide +kernel) rfl rfl) (
    okc (ok_iconst (n := 1) (by decide +kernel) rfl rfl) (
    okc (ok_iload_n (k := 2) (by decide +kernel) rfl rfl) (
    okc (ok_ishl (by decide +kernel) rfl) (
    okc (ok_ior (by decide +kernel) rfl) (
    okc (ok_istore_n (k := 1) (by decide +kernel) rfl rfl) (
    okc (ok_iinc (n := 1) (by decide +kernel) rfl rfl) (
    okc (ok_goto (off := -29) (by decide +kernel) rfl) (
    okc (ok_iload_n (k := 1) (by decide +kernel) rfl rfl) (
    okc (ok_iret rfl (by decide +kernel)) ( okn))))))))))))))))))))))))
def pl_S_upMass : List (Nat × mA) := [(0, a_push 0 1), (1, a_istore 1 2), (2, a_push 0 3), (3, a_istore 2 4), (4, a_iload 2 5), (5, a_aload 0 6), (6, a_getI 3 11 3 9), (9, a_cmp (fun x y => decide (y ≤ x)) 46 12), (12, a_iload 1 13), (13, a_aload 0 14), (14, a_getR 3 11 0 17), (17, a_iload 2 18), (18, a_aald 4 19), (19, a_getI 7 6 5 22), (22, a_if (fun x => decide (x = 0)) 37 25), (25, a_aload 0 26), (26, a_getR 3 11 0 29), (29, a_iload 2 30), (30, a_aald 4 31), (31, a_getI 7 6 4 34), (34, a_goto 38), (37, a_push 0 38), (38, a_bin (fun x y => x + y) 39), (39, a_istore 1 40), (40, a_iinc 2 1 43), (43, a_goto 4), (46, a_iload 1 47), (47, a_iret)]
set_option maxRecDepth 20000 in
theorem ol_S_upMass : okall B sp D cA (SPf B sp Ls xs adK adV) MT ⟨"WreckSky$Sky", "upMass", "()I"⟩ prog_5_method_16_code 3 (Option.some Jvm.ClassFile.FieldType.int) (pl_S_upMass) := by
  unfold pl_S_upMass
  exact
    okc (ok_iconst (n := 0) (by decide +kernel) rfl rfl) (
    okc (ok_istore_n (k := 1) (by decide +kernel) rfl rfl) (
    okc (ok_iconst (n := 0) (by decide +kernel) rfl rfl) (
    okc (ok_istore_n (k := 2) (by decide +kernel) rfl rfl) (
    okc (ok_iload_n (k := 2) (by decide +kernel) rfl rfl) (
    okc (ok_aload_n (k := 0) (by decide +kernel) rfl rfl) (
    okc (ok_getI (k := 3) (idx := 27) cX3_ok (by decide) (by decide +kernel) w_141 (by decide +kernel) rfl) (
    okc (ok_cmp_ge (off := 37) (by decide +kernel) rfl rfl) (
    okc (ok_iload_n (k := 1) (by decide +kernel) rfl rfl) (
    okc (ok_aload_n (k := 0) (by decide +kernel) rfl rfl) (
    okc (ok_getR (k := 0) (idx := 11) cX3_ok (by decide) (by decide +kernel) w_134 (by decide +kernel) rfl) (
    okc (ok_iload_n (k := 2) (by decide +kernel) rfl rfl) (
    okc (ok_aald (C := "WreckSky$Wreck") (by decide) (fun _ => rfl) (by decide +kernel) rfl) (
    okc (ok_getI (k := 5) (idx := 76) cX7_ok (by decide) (by decide +kernel) w_118 (by decide +kernel) rfl) (
    okc (ok_if_eq (off := 15) (by decide +kernel) rfl rfl) (
    okc (ok_aload_n (k := 0) (by decide +kernel) rfl rfl) (
    okc (ok_getR (k := 0) (idx := 11) cX3_ok (by decide) (by decide +kernel) w_134 (by decide +kernel) rfl) (
    okc (ok_iload_n (k := 2) (by decide +kernel) rfl rfl) (
    okc (ok_aald (C := "WreckSky$Wreck") (by decide) (fun _ => rfl) (by decide +kernel) rfl) (
    okc (ok_getI (k := 4) (idx := 73) cX7_ok (by decide) (by decide +kernel) w_115 (by decide +kernel) rfl) (
    okc (ok_goto (off := 4) (by decide +kernel) rfl) (
    okc (ok_iconst (n := 0) (by decide +kernel) rfl rfl) (
    okc (ok_iadd (by decide +kernel) rfl) (
    okc (ok_istore_n (k := 1) (by decide +kernel) rfl rfl) (
    okc (ok_iinc (n := 1) (by decide +kernel) rfl rfl) (
    okc (ok_goto (off := -39) (by decide +kernel) rfl) (
    okc (ok_iload_n (k := 1) (by decide +kernel) rfl rfl) (
    okc (ok_iret rfl (by decide +kernel)) ( okn))))))))))))))))))))))))))))
def pl_S_upHeights : List (Nat × mA) := [(0, a_push 0 1), (1, a_istore 1 2), (2, a_push 0 3), (3, a_istore 2 4), (4, a_iload 2 5), (5, a_aload 0 6), (6, a_getI 3 11 3 9), (9, a_cmp (fun x y => decide (y ≤ x)) 48 12), (12, a_iload 1 13), (13, a_aload 0 14), (14, a_getR 3 11 0 17), (17, a_iload 2 18), (18, a_aald 4 19), (19, a_getI 7 6 5 22), (22, a_if (fun x => decide (x = 0)) 39 25), (25, a_push 1 26), (26, a_aload 0 27), (27, a_getR 3 11 0 30), (30, a_iload 2 31), (31, a_aald 4 32), (32, a_getI 7 6 1 35), (35, a_bin (fun x y => x <<< (y &&& 31)) 36), (36, a_goto 40), (39, a_push 0 40), (40, a_bin (fun x y => x ||| y) 41), (41, a_istore 1 42), (42, a_iinc 2 1 45), (45, a_goto 4), (48, a_iload 1 49), (49, a_iret)]
set_option maxRecDepth 20000 in
theorem ol_S_upHeights : okall B sp D cA (SPf B sp Ls xs adK adV) MT ⟨"WreckSky$Sky", "upHeights", "()I"⟩ prog_5_method_17_code 3 (Option.some Jvm.ClassFile.FieldType.int) (pl_S_upHeights) := by
  unfold pl_S_upHeights
  exact
    okc (ok_iconst (n := 0) (by decide +kernel) rfl rfl) (
    okc (ok_istore_n (k := 1) (by decide +kernel) rfl rfl) (
    okc (ok_iconst (n := 0) (by decide +kernel) rfl rfl) (
    okc (ok_istore_n (k := 2) (by decide +kernel) rfl rfl) (
    okc (ok_iload_n (k := 2) (by decide +kernel) rfl rfl) (
    okc (ok_aload_n (k := 0) (by decide +kernel) rfl rfl) (
    okc (ok_getI (k := 3) (idx := 27) cX3_ok (by decide) (by decide +kernel) w_141 (by decide +kernel) rfl) (
    okc (ok_cmp_ge (off := 39) (by decide +kernel) rfl rfl) (
    okc (ok_iload_n (k := 1) (by decide +kernel) rfl rfl) (
    okc (ok_aload_n (k := 0) (by decide +kernel) rfl rfl) (
    okc (ok_getR (k := 0) (idx := 11) cX3_ok (by decide) (by decide +kernel) w_134 (by decide +kernel) rfl) (
    okc (ok_iload_n (k := 2) (by decide +kernel) rfl rfl) (
    okc (ok_aald (C := "WreckSky$Wreck") (by decide) (fun _ => rfl) (by decide +kernel) rfl) (
    okc (ok_getI (k := 5) (idx := 76) cX7_ok (by decide) (by decide +kernel) w_118 (by decide +kernel) rfl) (
    okc (ok_if_eq (off := 17) (by decide +kernel) rfl rfl) (
    okc (ok_iconst (n := 1) (by decide +kernel) rfl rfl) (
    okc (ok_aload_n (k := 0) (by decide +kernel) rfl rfl) (
    okc (ok_getR (k := 0) (idx := 11) cX3_ok (by decide) (by decide +kernel) w_134 (by decide +kernel) rfl) (
    okc (ok_iload_n (k := 2) (by decide +kernel) rfl rfl) (
    okc (ok_aald (C := "WreckSky$Wreck") (by decide) (fun _ => rfl) (by decide +kernel) rfl) (
    okc (ok_getI (k := 1) (idx := 64) cX7_ok (by decide) (by decide +kernel) w_103 (by decide +kernel) rfl) (
    okc (ok_ishl (by decide +kernel) rfl) (
    okc (ok_goto (off := 4) (by decide +kernel) rfl) (
    okc (ok_iconst (n := 0) (by decide +kernel) rfl rfl) (
    okc (ok_ior (by decide +kernel) rfl) (
    okc (ok_istore_n (k := 1) (by decide +kernel) rfl rfl) (
    okc (ok_iinc (n := 1) (by decide +kernel) rfl rfl) (
    okc (ok_goto (off := -41) (by decide +kernel) rfl) (
    okc (ok_iload_n (k := 1) (by decide +kernel) rfl rfl) (
    okc (ok_iret rfl (by decide +kernel)) ( okn))))))))))))))))))))))))))))))
end PR

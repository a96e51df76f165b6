section PR
variable {B : Nat} {sp : Nat → Value} {D : va_G} {cA : Nat → ClassId} {Ls : Nat} {xs : Nat → Int32} {adK adV : Nat → Nat}
def pl_W_told : List (Nat × mA) := [(0, a_aload 0 1), (1, a_getR 8 10 0 4), (4, a_iload 1 5), (5, a_callO 3 11 100 1 8), (8, a_if (fun x => decide (x ≠ 0)) 14 11), (11, a_push (-1000000001) 13), (13, a_iret), (14, a_aload 0 15), (15, a_getR 8 10 0 18), (18, a_getR 3 11 0 21), (21, a_iload 1 22), (22, a_aald 4 23), (23, a_astore 3 24), (24, a_iload 2 25), (25, a_sw (t_sw 0 [76, 81, 86, 91, 96, 101, 114, 123, 135] 140)), (76, a_aload 3 77), (77, a_getI 7 6 0 80), (80, a_iret), (81, a_aload 3 82), (82, a_getI 7 6 1 85), (85, a_iret), (86, a_aload 3 87), (87, a_getI 7 6 2 90), (90, a_iret), (91, a_aload 3 92), (92, a_getI 7 6 3 95), (95, a_iret), (96, a_aload 3 97), (97, a_getI 7 6 4 100), (100, a_iret), (101, a_aload 3 102), (102, a_getI 7 6 5 105), (105, a_if (fun x => decide (x = 0)) 112 108), (108, a_push 1 109), (109, a_goto 113), (112, a_push 0 113), (113, a_iret), (114, a_aload 0 115), (115, a_getR 8 10 0 118), (118, a_aload 3 119), (119, a_callO 3 11 101 1 122), (122, a_iret), (123, a_aload 3 124), (124, a_aload 0 125), (125, a_getR 8 10 0 128), (128, a_getI 3 11 9 131), (131, a_callO 7 6 102 1 134), (134, a_iret), (135, a_aload 3 136), (136, a_callO 7 6 103 0 139), (139, a_iret), (140, a_push (-1000000001) 142), (142, a_iret)]
set_option maxRecDepth 20000 in
theorem ol_W_told : okall B sp D cA (SPf B sp Ls xs adK adV) MT ⟨"WreckSky", "told", "(II)I"⟩ prog_1_method_3_code 4 (Option.some Jvm.ClassFile.FieldType.int) (pl_W_told) := by
  unfold pl_W_told
  exact
    okc (ok_aload_n (k := 0) (by decide +kernel) rfl rfl) (
    okc (ok_getR (k := 0) (idx := 10) cX8_ok (by decide) (by decide +kernel) w_313 (by decide +kernel) rfl) (
    okc (ok_iload_n (k := 1) (by decide +kernel) rfl rfl) (
    okc (ok_callV (SPf_ok _ _ _ _ _ _) (mi := 100) (n := 1) (idx := 88) rfl m_S_hasWreck (by decide) cX3_ok w_367 w_368 w_369 (by decide +kernel) rfl) (
    okc (ok_if_ne (off := 6) (by decide +kernel) rfl rfl) (
    okc (ok_ldc (i := 79) w_357 (by decide +kernel) rfl) (
    okc (ok_iret rfl (by decide +kernel)) (
    okc (ok_aload_n (k := 0) (by decide +kernel) rfl rfl) (
    okc (ok_getR (k := 0) (idx := 10) cX8_ok (by decide) (by decide +kernel) w_313 (by decide +kernel) rfl) (
    okc (ok_getR (k := 0) (idx := 91) cX3_ok (by decide) (by decide +kernel) w_135 (by decide +kernel) rfl) (
    okc (ok_iload_n (k := 1) (by decide +kernel) rfl rfl) (
    okc (ok_aald (C := "WreckSky$Wreck") (by decide) (fun _ => rfl) (by decide +kernel) rfl) (
    okc (ok_astore_n (k := 3) (by decide +kernel) rfl rfl) (
    okc (ok_iload_n (k := 2) (by decide +kernel) rfl rfl) (
    okc (ok_tab (dflt := 115) (lo := 0) (hi := 8) (offs := #[51, 56, 61, 66, 71, 76, 89, 98, 110]) (len := 51) (by decide +kernel) rfl rfl rfl) (
    okc (ok_aload_n (k := 3) (by decide +kernel) rfl rfl) (
    okc (ok_getI (k := 0) (idx := 95) cX7_ok (by decide) (by decide +kernel) w_99 (by decide +kernel) rfl) (
    okc (ok_iret rfl (by decide +kernel)) (
    okc (ok_aload_n (k := 3) (by decide +kernel) rfl rfl) (
    okc (ok_getI (k := 1) (idx := 100) cX7_ok (by decide) (by decide +kernel) w_102 (by decide +kernel) rfl) (
    okc (ok_iret rfl (by decide +kernel)) (
    okc (ok_aload_n (k := 3) (by decide +kernel) rfl rfl) (
    okc (ok_getI (k := 2) (idx := 103) cX7_ok (by decide) (by decide +kernel) w_106 (by decide +kernel) rfl) (
    okc (ok_iret rfl (by decide +kernel)) (
    okc (ok_aload_n (k := 3) (by decide +kernel) rfl rfl) (
    okc (ok_getI (k := 3) (idx := 106) cX7_ok (by decide) (by decide +kernel) w_110 (by decide +kernel) rfl) (
    okc (ok_iret rfl (by decide +kernel)) (
    okc (ok_aload_n (k := 3) (by decide +kernel) rfl rfl) (
    okc (ok_getI (k := 4) (idx := 109) cX7_ok (by decide) (by decide +kernel) w_114 (by decide +kernel) rfl) (
    okc (ok_iret rfl (by decide +kernel)) (
    okc (ok_aload_n (k := 3) (by decide +kernel) rfl rfl) (
    okc (ok_getI (k := 5) (idx := 112) cX7_ok (by decide) (by decide +kernel) w_117 (by decide +kernel) rfl) (
    okc (ok_if_eq (off := 7) (by decide +kernel) rfl rfl) (
    okc (ok_iconst (n := 1) (by decide +kernel) rfl rfl) (
    okc (ok_goto (off := 4) (by decide +kernel) rfl) (
    okc (ok_iconst (n := 0) (by decide +kernel) rfl rfl) (
    okc (ok_iret rfl (by decide +kernel)) (
    okc (ok_aload_n (k := 0) (by decide +kernel) rfl rfl) (
    okc (ok_getR (k := 0) (idx := 10) cX8_ok (by decide) (by decide +kernel) w_313 (by decide +kernel) rfl) (
    okc (ok_aload_n (k := 3) (by decide +kernel) rfl rfl) (
    okc (ok_callV (SPf_ok _ _ _ _ _ _) (mi := 101) (n := 1) (idx := 115) rfl m_S_hardOf (by decide) cX3_ok w_372 w_373 w_374 (by decide +kernel) rfl) (
    okc (ok_iret rfl (by decide +kernel)) (
    okc (ok_aload_n (k := 3) (by decide +kernel) rfl rfl) (
    okc (ok_aload_n (k := 0) (by decide +kernel) rfl rfl) (
    okc (ok_getR (k := 0) (idx := 10) cX8_ok (by decide) (by decide +kernel) w_313 (by decide +kernel) rfl) (
    okc (ok_getI (k := 9) (idx := 119) cX3_ok (by decide) (by decide +kernel) w_156 (by decide +kernel) rfl) (
    okc (ok_callV (SPf_ok _ _ _ _ _ _) (mi := 102) (n := 1) (idx := 122) rfl m_K_goesAt (by decide) cX7_ok w_404 w_405 w_406 (by decide +kernel) rfl) (
    okc (ok_iret rfl (by decide +kernel)) (
    okc (ok_aload_n (k := 3) (by decide +kernel) rfl rfl) (
    okc (ok_callV (SPf_ok _ _ _ _ _ _) (mi := 103) (n := 0) (idx := 126) rfl m_K_worth (by decide) cX7_ok w_408 w_409 w_410 (by decide +kernel) rfl) (
    okc (ok_iret rfl (by decide +kernel)) (
    okc (ok_ldc (i := 79) w_357 (by decide +kernel) rfl) (
    okc (ok_iret rfl (by decide +kernel)) ( okn)))))))))))))))))))))))))))))))))))))))))))))))))))))
def pl_M_told : List (Nat × mA) := [(0, a_aload 0 1), (1, a_iload 1 2), (2, a_callO 9 36 104 1 5), (5, a_if (fun x => decide (x ≠ 0)) 11 8), (8, a_push (-1000000001) 10), (10, a_iret), (11, a_iload 2 12), (12, a_sw (t_sw 0 [64, 64, 64, 64, 64, 64, 71, 77, 83] 89)), (64, a_aload 0 65), (65, a_iload 1 66), (66, a_iload 2 67), (67, a_callO 9 36 105 2 70), (70, a_iret), (71, a_aload 0 72), (72, a_iload 1 73), (73, a_callO 9 36 106 1 76), (76, a_iret), (77, a_aload 0 78), (78, a_iload 1 79), (79, a_callO 9 36 107 1 82), (82, a_iret), (83, a_aload 0 84), (84, a_iload 1 85), (85, a_callO 9 36 108 1 88), (88, a_iret), (89, a_push (-1000000001) 91), (91, a_iret)]
set_option maxRecDepth 20000 in
theorem ol_M_told : okall B sp D cA (SPf B sp Ls xs adK adV) MT ⟨"WreckSkyModel", "told", "(II)I"⟩ prog_11_method_17_code 3 (Option.some Jvm.ClassFile.FieldType.int) (pl_M_told) := by
  unfold pl_M_told
  exact
    okc (ok_aload_n (k := 0) (by decide +kernel) rfl rfl) (
    okc (ok_iload_n (k := 1) (by decide +kernel) rfl rfl) (
    okc (ok_callV (SPf_ok _ _ _ _ _ _) (mi := 104) (n := 1) (idx := 117) rfl m_M_isWreck (by decide) cX9_ok w_1126 w_1128 w_22 (by decide +kernel) rfl) (
    okc (ok_if_ne (off := 6) (by decide +kernel) rfl rfl) (
    okc (ok_ldc (i := 100) w_1112 (by decide +kernel) rfl) (
    okc (ok_iret rfl (by decide +kernel)) (
    okc (ok_iload_n (k := 2) (by decide +kernel) rfl rfl) (
    okc (ok_tab (dflt := 77) (lo := 0) (hi := 8) (offs := #[52, 52, 52, 52, 52, 52, 59, 65, 71]) (len := 52) (by decide +kernel) rfl rfl rfl) (
    okc (ok_aload_n (k := 0) (by decide +kernel) rfl rfl) (
    okc (ok_iload_n (k := 1) (by decide +kernel) rfl rfl) (
    okc (ok_iload_n (k := 2) (by decide +kernel) rfl rfl) (
    okc (ok_callV (SPf_ok _ _ _ _ _ _) (mi := 105) (n := 2) (idx := 88) rfl m_M_of (by decide) cX9_ok w_1130 w_1132 w_23 (by decide +kernel) rfl) (
    okc (ok_iret rfl (by decide +kernel)) (
    okc (ok_aload_n (k := 0) (by decide +kernel) rfl rfl) (
    okc (ok_iload_n (k := 1) (by decide +kernel) rfl rfl) (
    okc (ok_callV (SPf_ok _ _ _ _ _ _) (mi := 106) (n := 1) (idx := 121) rfl m_M_hardOf (by decide) cX9_ok w_1134 w_1136 w_24 (by decide +kernel) rfl) (
    okc (ok_iret rfl (by decide +kernel)) (
    okc (ok_aload_n (k := 0) (by decide +kernel) rfl rfl) (
    okc (ok_iload_n (k := 1) (by decide +kernel) rfl rfl) (
    okc (ok_callV (SPf_ok _ _ _ _ _ _) (mi := 107) (n := 1) (idx := 124) rfl m_M_goesOf (by decide) cX9_ok w_1152 w_1154 w_27 (by decide +kernel) rfl) (
    okc (ok_iret rfl (by decide +kernel)) (
    okc (ok_aload_n (k := 0) (by decide +kernel) rfl rfl) (
    okc (ok_iload_n (k := 1) (by decide +kernel) rfl rfl) (
    okc (ok_callV (SPf_ok _ _ _ _ _ _) (mi := 108) (n := 1) (idx := 127) rfl m_M_worthOf (by decide) cX9_ok w_1156 w_1158 w_28 (by decide +kernel) rfl) (
    okc (ok_iret rfl (by decide +kernel)) (
    okc (ok_ldc (i := 100) w_1112 (by decide +kernel) rfl) (
    okc (ok_iret rfl (by decide +kernel)) ( okn)))))))))))))))))))))))))))
def pl_W_as : List (Nat × mA) := [(0, a_aload 0 1), (1, a_getR 8 10 0 4), (4, a_iload 1 5), (5, a_callO 3 11 100 1 8), (8, a_if (fun x => decide (x = 0)) 18 11), (11, a_iload 2 12), (12, a_call 93 1 15), (15, a_if (fun x => decide (x ≠ 0)) 21 18), (18, a_push (-1000000001) 20), (20, a_iret), (21, a_aload 0 22), (22, a_getR 8 10 0 25), (25, a_getR 3 11 0 28), (28, a_iload 1 29), (29, a_aald 4 30), (30, a_astore 3 31), (31, a_aload 3 32), (32, a_iload 2 33), (33, a_callO 7 6 109 1 36), (36, a_if (fun x => decide (x = 0)) 46 39), (39, a_aload 3 40), (40, a_getI 7 6 4 43), (43, a_goto 48), (46, a_push (-1000000012) 48), (48, a_iret)]
set_option maxRecDepth 20000 in
theorem ol_W_as : okall B sp D cA (SPf B sp Ls xs adK adV) MT ⟨"WreckSky", "as", "(II)I"⟩ prog_1_method_4_code 4 (Option.some Jvm.ClassFile.FieldType.int) (pl_W_as) := by
  unfold pl_W_as
  exact
    okc (ok_aload_n (k := 0) (by decide +kernel) rfl rfl) (
    okc (ok_getR (k := 0) (idx := 10) cX8_ok (by decide) (by decide +kernel) w_313 (by decide +kernel) rfl) (
    okc (ok_iload_n (k := 1) (by decide +kernel) rfl rfl) (
    okc (ok_callV (SPf_ok _ _ _ _ _ _) (mi := 100) (n := 1) (idx := 88) rfl m_S_hasWreck (by decide) cX3_ok w_367 w_368 w_369 (by decide +kernel) rfl) (
    okc (ok_if_eq (off := 10) (by decide +kernel) rfl rfl) (
    okc (ok_iload_n (k := 2) (by decide +kernel) rfl rfl) (
    okc (ok_callS (SPf_ok _ _ _ _ _ _) (mi := 93) (n := 1) (idx := 68) rfl m_W_isKind (by decide) w_348 w_349 (by decide +kernel) rfl) (
    okc (ok_if_ne (off := 6) (by decide +kernel) rfl rfl) (
    okc (ok_ldc (i := 79) w_357 (by decide +kernel) rfl) (
    okc (ok_iret rfl (by decide +kernel)) (
    okc (ok_aload_n (k := 0) (by decide +kernel) rfl rfl) (
    okc (ok_getR (k := 0) (idx := 10) cX8_ok (by decide) (by decide +kernel) w_313 (by decide +kernel) rfl) (
    okc (ok_getR (k := 0) (idx := 91) cX3_ok (by decide) (by decide +kernel) w_135 (by decide +kernel) rfl) (
    okc (ok_iload_n (k := 1) (by decide +kernel) rfl rfl) (
    okc (ok_aald (C := "WreckSky$Wreck") (by decide) (fun _ => rfl) (by decide +kernel) rfl) (
    okc (ok_astore_n (k := 3) (by decide +kernel) rfl rfl) (
    okc (ok_aload_n (k := 3) (by decide +kernel) rfl rfl) (
    okc (ok_iload_n (k := 2) (by decide +kernel) rfl rfl) (
    okc (ok_callV (SPf_ok _ _ _ _ _ _) (mi := 109) (n := 1) (idx := 130) rfl m_K_isOf (by decide) cX7_ok w_416 w_417 w_418 (by decide +kernel) rfl) (
    okc (ok_if_eq (off := 10) (by decide +kernel) rfl rfl) (
    okc (ok_aload_n (k := 3) (by decide +kernel) rfl rfl) (
    okc (ok_getI (k := 4) (idx := 109) cX7_ok (by decide) (by decide +kernel) w_114 (by decide +kernel) rfl) (
    okc (ok_goto (off := 5) (by decide +kernel) rfl) (
    okc (ok_ldc (i := 133) w_422 (by decide +kernel) rfl) (
    okc (ok_iret rfl (by decide +kernel)) ( okn)))))))))))))))))))))))))
def pl_M_as : List (Nat × mA) := [(0, a_aload 0 1), (1, a_iload 1 2), (2, a_callO 9 36 104 1 5), (5, a_if (fun x => decide (x = 0)) 17 8), (8, a_iload 2 9), (9, a_push 0 10), (10, a_push 5 11), (11, a_call 97 3 14), (14, a_if (fun x => decide (x ≠ 0)) 20 17), (17, a_push (-1000000001) 19), (19, a_iret), (20, a_aload 0 21), (21, a_iload 1 22), (22, a_push 0 23), (23, a_callO 9 36 105 2 26), (26, a_iload 2 27), (27, a_call 110 2 30), (30, a_if (fun x => decide (x = 0)) 42 33), (33, a_aload 0 34), (34, a_iload 1 35), (35, a_push 4 36), (36, a_callO 9 36 105 2 39), (39, a_goto 44), (42, a_push (-1000000012) 44), (44, a_iret)]
set_option maxRecDepth 20000 in
theorem ol_M_as : okall B sp D cA (SPf B sp Ls xs adK adV) MT ⟨"WreckSkyModel", "as", "(II)I"⟩ prog_11_method_19_code 3 (Option.some Jvm.ClassFile.FieldType.int) (pl_M_as) := by
  unfold pl_M_as
  exact
    okc (ok_aload_n (k := 0) (by decide +kernel) rfl rfl) (
    okc (ok_iload_n (k := 1) (by decide +kernel) rfl rfl) (
    okc (ok_callV (SPf_ok _ _ _ _ _ _) (mi := 104) (n := 1) (idx := 117) rfl m_M_isWreck (by decide) cX9_ok w_1126 w_1128 w_22 (by decide +kernel) rfl) (
    okc (ok_if_eq (off := 12) (by decide +kernel) rfl rfl) (
    okc (ok_iload_n (k := 2) (by decide +kernel) rfl rfl) (
    okc (ok_iconst (n := 0) (by decide +kernel) rfl rfl) (
    okc (ok_iconst (n := 5) (by decide +kernel) rfl rfl) (
    okc (ok_callS (SPf_ok _ _ _ _ _ _) (mi := 97) (n := 3) (idx := 84) rfl m_M_in (by decide) w_1106 w_1107 (by decide +kernel) rfl) (
    okc (ok_if_ne (off := 6) (by decide +kernel) rfl rfl) (
    okc (ok_ldc (i := 100) w_1112 (by decide +kernel) rfl) (
    okc (ok_iret rfl (by decide +kernel)) (
    okc (ok_aload_n (k := 0) (by decide +kernel) rfl rfl) (
    okc (ok_iload_n (k := 1) (by decide +kernel) rfl rfl) (
    okc (ok_iconst (n := 0) (by decide +kernel) rfl rfl) (
    okc (ok_callV (SPf_ok _ _ _ _ _ _) (mi := 105) (n := 2) (idx := 88) rfl m_M_of (by decide) cX9_ok w_1130 w_1132 w_23 (by decide +kernel) rfl) (
    okc (ok_iload_n (k := 2) (by decide +kernel) rfl rfl) (
    okc (ok_callS (SPf_ok _ _ _ _ _ _) (mi := 110) (n := 2) (idx := 130) rfl m_M_isUnder (by decide) w_1164 w_1165 (by decide +kernel) rfl) (
    okc (ok_if_eq (off := 12) (by decide +kernel) rfl rfl) (
    okc (ok_aload_n (k := 0) (by decide +kernel) rfl rfl) (
    okc (ok_iload_n (k := 1) (by decide +kernel) rfl rfl) (
    okc (ok_iconst (n := 4) (by decide +kernel) rfl rfl) (
    okc (ok_callV (SPf_ok _ _ _ _ _ _) (mi := 105) (n := 2) (idx := 88) rfl m_M_of (by decide) cX9_ok w_1130 w_1132 w_23 (by decide +kernel) rfl) (
    okc (ok_goto (off := 5) (by decide +kernel) rfl) (
    okc (ok_ldc (i := 133) w_1167 (by decide +kernel) rfl) (
    okc (ok_iret rfl (by decide +kernel)) ( okn)))))))))))))))))))))))))
def pl_W_turns : List (Nat × mA) := [(0, a_aload 0 1), (1, a_getR 8 10 0 4), (4, a_iload 1 5), (5, a_callO 3 11 100 1 8), (8, a_if (fun x => decide (x = 0)) 18 11), (11, a_iload 2 12), (12, a_call 93 1 15), (15, a_if (fun x => decide (x ≠ 0)) 21 18), (18, a_push (-1000000001) 20), (20, a_iret), (21, a_aload 0 22), (22, a_getR 8 10 0 25), (25, a_getR 3 11 0 28), (28, a_iload 1 29), (29, a_aald 4 30), (30, a_astore 3 31), (31, a_aload 3 32), (32, a_getI 7 6 0 35), (35, a_istore 4 37), (37, a_aload 3 38), (38, a_iload 2 39), (39, a_putI 7 6 0 42), (42, a_iload 4 44), (44, a_iret)]
set_option maxRecDepth 20000 in
theorem ol_W_turns : okall B sp D cA (SPf B sp Ls xs adK adV) MT ⟨"WreckSky", "turns", "(II)I"⟩ prog_1_method_5_code 5 (Option.some Jvm.ClassFile.FieldType.int) (pl_W_turns) := by
  unfold pl_W_turns
  exact
    okc (ok_aload_n (k := 0) (by decide +kernel) rfl rfl) (
    okc (ok_getR (k := 0) (idx := 10) cX8_ok (by decide) (by decide +kernel) w_313 (by decide +kernel) rfl) (
    okc (ok_iload_n (k := 1) (by decide +kernel) rfl rfl) (
    okc (ok_callV (SPf_ok _ _ _ _ _ _) (mi := 100) (n := 1) (idx := 88) rfl m_S_hasWreck (by decide) cX3_ok w_367 w_368 w_369 (by decide +kernel) rfl) (
    okc (ok_if_eq (off := 10) (by decide +kernel) rfl rfl) (
    okc (ok_iload_n (k := 2) (by decide +kernel) rfl rfl) (
    okc (ok_callS (SPf_ok _ _ _ _ _ _) (mi := 93) (n := 1) (idx := 68) rfl m_W_isKind (by decide) w_348 w_349 (by decide +kernel) rfl) (
    okc (ok_if_ne (off := 6) (by decide +kernel) rfl rfl) (
    okc (ok_ldc (i := 79) w_357 (by decide +kernel) rfl) (
    okc (ok_iret rfl (by decide +kernel)) (
    okc (ok_aload_n (k := 0) (by decide +kernel) rfl rfl) (
    okc (ok_getR (k := 0) (idx := 10) cX8_ok (by decide) (by decide +kernel) w_313 (by decide +kernel) rfl) (
    okc (ok_getR (k := 0) (idx := 91) cX3_ok (by decide) (by decide +kernel) w_135 (by decide +kernel) rfl) (
    okc (ok_iload_n (k := 1) (by decide +kernel) rfl rfl) (
    okc (ok_aald (C := "WreckSky$Wreck") (by decide) (fun _ => rfl) (by decide +kernel) rfl) (
    okc (ok_astore_n (k := 3) (by decide +kernel) rfl rfl) (
    okc (ok_aload_n (k := 3) (by decide +kernel) rfl rfl) (
    okc (ok_getI (k := 0) (idx := 95) cX7_ok (by decide) (by decide +kernel) w_99 (by decide +kernel) rfl) (
    okc (ok_istore (by decide +kernel) rfl) (
    okc (ok_aload_n (k := 3) (by decide +kernel) rfl rfl) (
    okc (ok_iload_n (k := 2) (by decide +kernel) rfl rfl) (
    okc (ok_putI (k := 0) (idx := 95) cX7_ok (by decide) rfl rfl w_99 (by decide +kernel) rfl) (
    okc (ok_iload (by decide +kernel) rfl) (
    okc (ok_iret rfl (by decide +kernel)) ( okn))))))))))))))))))))))))
def pl_M_turns : List (Nat × mA) := [(0, a_aload 0 1), (1, a_iload 1 2), (2, a_callO 9 36 104 1 5), (5, a_if (fun x => decide (x = 0)) 32 8), (8, a_iload 2 9), (9, a_push 0 10), (10, a_push 5 11), (11, a_call 97 3 14), (14, a_if (fun x => decide (x = 0)) 32 17), (17, a_aload 0 18), (18, a_push 8 20), (20, a_push 6 22), (22, a_iload 1 23), (23, a_bin (fun x y => x * y) 24), (24, a_bin (fun x y => x + y) 25), (25, a_iload 2 26), (26, a_callO 9 36 111 2 29), (29, a_goto 34), (32, a_push (-1000000001) 34), (34, a_iret)]
set_option maxRecDepth 20000 in
theorem ol_M_turns : okall B sp D cA (SPf B sp Ls xs adK adV) MT ⟨"WreckSkyModel", "turns", "(II)I"⟩ prog_11_method_20_code 3 (Option.some Jvm.ClassFile.FieldType.int) (pl_M_turns) := by
  unfold pl_M_turns
  exact
    okc (ok_aload_n (k := 0) (by decide +kernel) rfl rfl) (
    okc (ok_iload_n (k := 1) (by decide +kernel) rfl rfl) (
    okc (ok_callV (SPf_ok _ _ _ _ _ _) (mi := 104) (n := 1) (idx := 117) rfl m_M_isWreck (by decide) cX9_ok w_1126 w_1128 w_22 (by decide +kernel) rfl) (
    okc (ok_if_eq (off := 27) (by decide +kernel) rfl rfl) (
    okc (ok_iload_n (k := 2) (by decide +kernel) rfl rfl) (
    okc (ok_iconst (n := 0) (by decide +kernel) rfl rfl) (
    okc (ok_iconst (n := 5) (by decide +kernel) rfl rfl) (
    okc (ok_callS (SPf_ok _ _ _ _ _ _) (mi := 97) (n := 3) (idx := 84) rfl m_M_in (by decide) w_1106 w_1107 (by decide +kernel) rfl) (
    okc (ok_if_eq (off := 18) (by decide +kernel) rfl rfl) (
    okc (ok_aload_n (k := 0) (by decide +kernel) rfl rfl) (
    okc (ok_bipush (n := 8) (by decide +kernel) (by decide +kernel) rfl) (
    okc (ok_bipush (n := 6) (by decide +kernel) (by decide +kernel) rfl) (
    okc (ok_iload_n (k := 1) (by decide +kernel) rfl rfl) (
    okc (ok_imul (by decide +kernel) rfl) (
    okc (ok_iadd (by decide +kernel) rfl) (
    okc (ok_iload_n (k := 2) (by decide +kernel) rfl rfl) (
    okc (ok_callV (SPf_ok _ _ _ _ _ _) (mi := 111) (n := 2) (idx := 134) rfl m_M_becomes (by decide) cX9_ok w_1172 w_1174 w_29 (by decide +kernel) rfl) (
    okc (ok_goto (off := 5) (by decide +kernel) rfl) (
    okc (ok_ldc (i := 100) w_1112 (by decide +kernel) rfl) (
    okc (ok_iret rfl (by decide +kernel)) ( okn))))))))))))))))))))
def pl_W_set : List (Nat × mA) := [(0, a_aload 0 1), (1, a_getR 8 10 0 4), (4, a_iload 1 5), (5, a_callO 3 11 100 1 8), (8, a_if (fun x => decide (x = 0)) 19 11), (11, a_iload 2 12), (12, a_iload 3 13), (13, a_call 112 2 16), (16, a_if (fun x => decide (x ≠ 0)) 22 19), (19, a_push (-1000000001) 21), (21, a_iret), (22, a_aload 0 23), (23, a_iload 1 24), (24, a_iload 2 25), (25, a_callO 8 10 5 2 28), (28, a_istore 4 30), (30, a_aload 0 31), (31, a_getR 8 10 0 34), (34, a_getR 3 11 0 37), (37, a_iload 1 38), (38, a_aald 4 39), (39, a_astore 5 41), (41, a_iload 2 42), (42, a_sw (t_sw 1 [72, 81, 90, 99] 108)), (72, a_aload 5 74), (74, a_iload 3 75), (75, a_putI 7 6 1 78), (78, a_goto 123), (81, a_aload 5 83), (83, a_iload 3 84), (84, a_putI 7 6 2 87), (87, a_goto 123), (90, a_aload 5 92), (92, a_iload 3 93), (93, a_putI 7 6 3 96), (96, a_goto 123), (99, a_aload 5 101), (101, a_iload 3 102), (102, a_putI 7 6 4 105), (105, a_goto 123), (108, a_aload 5 110), (110, a_iload 3 111), (111, a_push 1 112), (112, a_cmp (fun x y => decide (x ≠ y)) 119 115), (115, a_push 1 116), (116, a_goto 120), (119, a_push 0 120), (120, a_putZ 7 6 5 123), (123, a_iload 4 125), (125, a_iret)]
set_option maxRecDepth 20000 in
theorem ol_W_set : okall B sp D cA (SPf B sp Ls xs adK adV) MT ⟨"WreckSky", "set", "(III)I"⟩ prog_1_method_6_code 6 (Option.some Jvm.ClassFile.FieldType.int) (pl_W_set) := by
  unfold pl_W_set
  exact
    okc (ok_aload_n (k := 0) (by decide +kernel) rfl rfl) (
    okc (ok_getR (k := 0) (idx := 10) cX8_ok (by decide) (by decide +kernel) w_313 (by decide +kernel) rfl) (
    okc (ok_iload_n (k := 1) (by decide +kernel) rfl rfl) (
    okc (ok_callV (SPf_ok _ _ _ _ _ _) (mi := 100) (n := 1) (idx := 88) rfl m_S_hasWreck (by decide) cX3_ok w_367 w_368 w_369 (by decide +kernel) rfl) (
    okc (ok_if_eq (off := 11) (by decide +kernel) rfl rfl) (
    okc (ok_iload_n (k := 2) (by decide +kernel) rfl rfl) (
    okc (ok_iload_n (k := 3) (by decide +kernel) rfl rfl) (
    okc (ok_callS (SPf_ok _ _ _ _ _ _) (mi := 112) (n := 2) (idx := 134) rfl m_W_fits (by decide) w_431 w_432 (by decide +kernel) rfl) (
    okc (ok_if_ne (off := 6) (by decide +kernel) rfl rfl) (
    okc (ok_ldc (i := 79) w_357 (by decide +kernel) rfl) (
    okc (ok_iret rfl (by decide +kernel)) (
    okc (ok_aload_n (k := 0) (by decide +kernel) rfl rfl) (
    okc (ok_iload_n (k := 1) (by decide +kernel) rfl rfl) (
    okc (ok_iload_n (k := 2) (by decide +kernel) rfl rfl) (
    okc (ok_callV (SPf_ok _ _ _ _ _ _) (mi := 5) (n := 2) (idx := 138) rfl m_W_told (by decide) cX8_ok w_434 w_364 w_365 (by decide +kernel) rfl) (
    okc (ok_istore (by decide +kernel) rfl) (
    okc (ok_aload_n (k := 0) (by decide +kernel) rfl rfl) (
    okc (ok_getR (k := 0) (idx := 10) cX8_ok (by decide) (by decide +kernel) w_313 (by decide +kernel) rfl) (
    okc (ok_getR (k := 0) (idx := 91) cX3_ok (by decide) (by decide +kernel) w_135 (by decide +kernel) rfl) (
    okc (ok_iload_n (k := 1) (by decide +kernel) rfl rfl) (
    okc (ok_aald (C := "WreckSky$Wreck") (by decide) (fun _ => rfl) (by decide +kernel) rfl) (
    okc (ok_astore (by decide +kernel) rfl) (
    okc (ok_iload_n (k := 2) (by decide +kernel) rfl rfl) (
    okc (ok_tab (dflt := 66) (lo := 1) (hi := 4) (offs := #[30, 39, 48, 57]) (len := 30) (by decide +kernel) rfl rfl rfl) (
    okc (ok_aload (by decide +kernel) rfl) (
    okc (ok_iload_n (k := 3) (by decide +kernel) rfl rfl) (
    okc (ok_putI (k := 1) (idx := 100) cX7_ok (by decide) rfl rfl w_102 (by decide +kernel) rfl) (
    okc (ok_goto (off := 45) (by decide +kernel) rfl) (
    okc (ok_aload (by decide +kernel) rfl) (
    okc (ok_iload_n (k := 3) (by decide +kernel) rfl rfl) (
    okc (ok_putI (k := 2) (idx := 103) cX7_ok (by decide) rfl rfl w_106 (by decide +kernel) rfl) (
    okc (ok_goto (off := 36) (by decide +kernel) rfl) (
    okc (ok_aload (by decide +kernel) rfl) (
    okc (ok_iload_n (k := 3) (by decide +kernel) rfl rfl) (
    okc (ok_putI (k := 3) (idx := 106) cX7_ok (by decide) rfl rfl w_110 (by decide +kernel) rfl) (
    okc (ok_goto (off := 27) (by decide +kernel) rfl) (
    okc (ok_aload (by decide +kernel) rfl) (
    okc (ok_iload_n (k := 3) (by decide +kernel) rfl rfl) (
    okc (ok_putI (k := 4) (idx := 109) cX7_ok (by decide) rfl rfl w_114 (by decide +kernel) rfl) (
    okc (ok_goto (off := 18) (by decide +kernel) rfl) (
    okc (ok_aload (by decide +kernel) rfl) (
    okc (ok_iload_n (k := 3) (by decide +kernel) rfl rfl) (
    okc (ok_iconst (n := 1) (by decide +kernel) rfl rfl) (
    okc (ok_cmp_ne (off := 7) (by decide +kernel) rfl rfl) (
    okc (ok_iconst (n := 1) (by decide +kernel) rfl rfl) (
    okc (ok_goto (off := 4) (by decide +kernel) rfl) (
    okc (ok_iconst (n := 0) (by decide +kernel) rfl rfl) (
    okc (ok_putZ (k := 5) (idx := 112) cX7_ok (by decide) rfl rfl w_117 (by decide +kernel) rfl) (
    okc (ok_iload (by decide +kernel) rfl) (
    okc (ok_iret rfl (by decide +kernel)) ( okn))))))))))))))))))))))))))))))))))))))))))))))))))
def pl_M_set : List (Nat × mA) := [(0, a_aload 0 1), (1, a_iload 1 2), (2, a_callO 9 36 104 1 5), (5, a_if (fun x => decide (x = 0)) 42 8), (8, a_iload 2 9), (9, a_push 1 10), (10, a_push 5 11), (11, a_call 97 3 14), (14, a_if (fun x => decide (x = 0)) 42 17), (17, a_iload 2 18), (18, a_iload 3 19), (19, a_call 98 2 22), (22, a_if (fun x => decide (x = 0)) 42 25), (25, a_aload 0 26), (26, a_push 8 28), (28, a_push 6 30), (30, a_iload 1 31), (31, a_bin (fun x y => x * y) 32), (32, a_bin (fun x y => x + y) 33), (33, a_iload 2 34), (34, a_bin (fun x y => x + y) 35), (35, a_iload 3 36), (36, a_callO 9 36 111 2 39), (39, a_goto 44), (42, a_push (-1000000001) 44), (44, a_iret)]
set_option maxRecDepth 20000 in
theorem ol_M_set : okall B sp D cA (SPf B sp Ls xs adK adV) MT ⟨"WreckSkyModel", "set", "(III)I"⟩ prog_11_method_21_code 4 (Option.some Jvm.ClassFile.FieldType.int) (pl_M_set) := by
  unfold pl_M_set
  exact
    okc (ok_aload_n (k := 0) (by decide +kernel) rfl rfl) (
    okc (ok_iload_n (k := 1) (by decide +kernel) rfl rfl) (
    okc (ok_callV (SPf_ok _ _ _ _ _ _) (mi := 104) (n := 1) (idx := 117) rfl m_M_isWreck (by decide) cX9_ok w_1126 w_1128 w_22 (by decide +kernel) rfl) (
    okc (ok_if_eq (off := 37) (by decide +kernel) rfl rfl) (
    okc (ok_iload_n (k := 2) (by decide +kernel) rfl rfl) (
    okc (ok_iconst (n := 1) (by decide +kernel) rfl rfl) (
    okc (ok_iconst (n := 5) (by decide +kernel) rfl rfl) (
    okc (ok_callS (SPf_ok _ _ _ _ _ _) (mi := 97) (n := 3) (idx := 84) rfl m_M_in (by decide) w_1106 w_1107 (by decide +kernel) rfl) (
    okc (ok_if_eq (off := 28) (by decide +kernel) rfl rfl) (
    okc (ok_iload_n (k := 2) (by decide +kernel) rfl rfl) (
    okc (ok_iload_n (k := 3) (by decide +kernel) rfl rfl) (
    okc (ok_callS (SPf_ok _ _ _ _ _ _) (mi := 98) (n := 2) (idx := 96) rfl m_M_isOf (by decide) w_1109 w_1110 (by decide +kernel) rfl) (
    okc (ok_if_eq (off := 20) (by decide +kernel) rfl rfl) (
    okc (ok_aload_n (k := 0) (by decide +kernel) rfl rfl) (
    okc (ok_bipush (n := 8) (by decide +kernel) (by decide +kernel) rfl) (
    okc (ok_bipush (n := 6) (by decide +kernel) (by decide +kernel) rfl) (
    okc (ok_iload_n (k := 1) (by decide +kernel) rfl rfl) (
    okc (ok_imul (by decide +kernel) rfl) (
    okc (ok_iadd (by decide +kernel) rfl) (
    okc (ok_iload_n (k := 2) (by decide +kernel) rfl rfl) (
    okc (ok_iadd (by decide +kernel) rfl) (
    okc (ok_iload_n (k := 3) (by decide +kernel) rfl rfl) (
    okc (ok_callV (SPf_ok _ _ _ _ _ _) (mi := 111) (n := 2) (idx := 134) rfl m_M_becomes (by decide) cX9_ok w_1172 w_1174 w_29 (by decide +kernel) rfl) (
    okc (ok_goto (off := 5) (by decide +kernel) rfl) (
    okc (ok_ldc (i := 100) w_1112 (by decide +kernel) rfl) (
    okc (ok_iret rfl (by decide +kernel)) ( okn))))))))))))))))))))))))))
def pl_W_sweep : List (Nat × mA) := [(0, a_aload 0 1), (1, a_getR 8 10 0 4), (4, a_iload 1 5), (5, a_callO 3 11 100 1 8), (8, a_if (fun x => decide (x ≠ 0)) 14 11), (11, a_push (-1000000001) 13), (13, a_iret), (14, a_aload 0 15), (15, a_getR 8 10 0 18), (18, a_getR 3 11 0 21), (21, a_iload 1 22), (22, a_aald 4 23), (23, a_astore 2 24), (24, a_aload 2 25), (25, a_getI 7 6 5 28), (28, a_if (fun x => decide (x ≠ 0)) 34 31), (31, a_push (-1000000002) 33), (33, a_iret), (34, a_aload 2 35), (35, a_push 0 36), (36, a_putZ 7 6 5 39), (39, a_aload 0 40), (40, a_getR 8 10 0 43), (43, a_dup 44), (44, a_getI 3 11 8 47), (47, a_push 1 48), (48, a_bin (fun x y => x + y) 49), (49, a_putI 3 11 8 52), (52, a_aload 2 53), (53, a_getI 7 6 4 56), (56, a_iret)]
set_option maxRecDepth 20000 in
theorem ol_W_sweep : okall B sp D cA (SPf B sp Ls xs adK adV) MT ⟨"WreckSky", "sweep", "(I)I"⟩ prog_1_method_7_code 3 (Option.some Jvm.ClassFile.FieldType.int) (pl_W_sweep) := by
  unfold pl_W_sweep
  exact
    okc (ok_aload_n (k := 0) (by decide +kernel) rfl rfl) (
    okc (ok_getR (k := 0) (idx := 10) cX8_ok (by decide) (by decide +kernel) w_313 (by decide +kernel) rfl) (
    okc (ok_iload_n (k := 1) (by decide +kernel) rfl rfl) (
    okc (ok_callV (SPf_ok _ _ _ _ _ _) (mi := 100) (n := 1) (idx := 88) rfl m_S_hasWreck (by decide) cX3_ok w_367 w_368 w_369 (by decide +kernel) rfl) (
    okc (ok_if_ne (off := 6) (by decide +kernel) rfl rfl) (
    okc (ok_ldc (i := 79) w_357 (by decide +kernel) rfl) (
    okc (ok_iret rfl (by decide +kernel)) (
    okc (ok_aload_n (k := 0) (by decide +kernel) rfl rfl) (
    okc (ok_getR (k := 0) (idx := 10) cX8_ok (by decide) (by decide +kernel) w_313 (by decide +kernel) rfl) (
    okc (ok_getR (k := 0) (idx := 91) cX3_ok (by decide) (by decide +kernel) w_135 (by decide +kernel) rfl) (
    okc (ok_iload_n (k := 1) (by decide +kernel) rfl rfl) (
    okc (ok_aald (C := "WreckSky$Wreck") (by decide) (fun _ => rfl) (by decide +kernel) rfl) (
    okc (ok_astore_n (k := 2) (by decide +kernel) rfl rfl) (
    okc (ok_aload_n (k := 2) (by decide +kernel) rfl rfl) (
    okc (ok_getI (k := 5) (idx := 112) cX7_ok (by decide) (by decide +kernel) w_117 (by decide +kernel) rfl) (
    okc (ok_if_ne (off := 6) (by decide +kernel) rfl rfl) (
    okc (ok_ldc (i := 142) w_439 (by decide +kernel) rfl) (
    okc (ok_iret rfl (by decide +kernel)) (
    okc (ok_aload_n (k := 2) (by decide +kernel) rfl rfl) (
    okc (ok_iconst (n := 0) (by decide +kernel) rfl rfl) (
    okc (ok_putZ (k := 5) (idx := 112) cX7_ok (by decide) rfl rfl w_117 (by decide +kernel) rfl) (
    okc (ok_aload_n (k := 0) (by decide +kernel) rfl rfl) (
    okc (ok_getR (k := 0) (idx := 10) cX8_ok (by decide) (by decide +kernel) w_313 (by decide +kernel) rfl) (
    okc (ok_dup (by decide +kernel) rfl) (
    okc (ok_getI (k := 8) (idx := 143) cX3_ok (by decide) (by decide +kernel) w_154 (by decide +kernel) rfl) (
    okc (ok_iconst (n := 1) (by decide +kernel) rfl rfl) (
    okc (ok_iadd (by decide +kernel) rfl) (
    okc (ok_putI (k := 8) (idx := 143) cX3_ok (by decide) rfl rfl w_154 (by decide +kernel) rfl) (
    okc (ok_aload_n (k := 2) (by decide +kernel) rfl rfl) (
    okc (ok_getI (k := 4) (idx := 109) cX7_ok (by decide) (by decide +kernel) w_114 (by decide +kernel) rfl) (
    okc (ok_iret rfl (by decide +kernel)) ( okn)))))))))))))))))))))))))))))))
def pl_M_sweep : List (Nat × mA) := [(0, a_aload 0 1), (1, a_iload 1 2), (2, a_callO 9 36 104 1 5), (5, a_if (fun x => decide (x ≠ 0)) 11 8), (8, a_push (-1000000001) 10), (10, a_iret), (11, a_aload 0 12), (12, a_iload 1 13), (13, a_callO 9 36 113 1 16), (16, a_if (fun x => decide (x ≠ 0)) 22 19), (19, a_push (-1000000002) 21), (21, a_iret), (22, a_aload 0 23), (23, a_iload 1 24), (24, a_push 5 25), (25, a_push 0 26), (26, a_callO 9 36 114 3 29), (29, a_aload 0 30), (30, a_getR 9 36 0 33), (33, a_push 6 35), (35, a_dup2 36), (36, a_ald 0 37), (37, a_push 1 38), (38, a_bin (fun x y => x + y) 39), (39, a_ast 0 (fun x => x) 40), (40, a_aload 0 41), (41, a_iload 1 42), (42, a_push 4 43), (43, a_callO 9 36 105 2 46), (46, a_iret)]
set_option maxRecDepth 20000 in
theorem ol_M_sweep : okall B sp D cA (SPf B sp Ls xs adK adV) MT ⟨"WreckSkyModel", "sweep", "(I)I"⟩ prog_11_method_22_code 2 (Option.some Jvm.ClassFile.FieldType.int) (pl_M_sweep) := by
  unfold pl_M_sweep
  exact
    okc (ok_aload_n (k := 0) (by decide +kernel) rfl rfl) (
    okc (ok_iload_n (k := 1) (by decide +kernel) rfl rfl) (
    okc (ok_callV (SPf_ok _ _ _ _ _ _) (mi := 104) (n := 1) (idx := 117) rfl m_M_isWreck (by decide) cX9_ok w_1126 w_1128 w_22 (by decide +kernel) rfl) (
    okc (ok_if_ne (off := 6) (by decide +kernel) rfl rfl) (
    okc (ok_ldc (i := 100) w_1112 (by decide +kernel) rfl) (
    okc (ok_iret rfl (by decide +kernel)) (
    okc (ok_aload_n (k := 0) (by decide +kernel) rfl rfl) (
    okc (ok_iload_n (k := 1) (by decide +kernel) rfl rfl) (
    okc (ok_callV (SPf_ok _ _ _ _ _ _) (mi := 113) (n := 1) (idx := 137) rfl m_M_isUp (by decide) cX9_ok w_1184 w_1186 w_30 (by decide +kernel) rfl) (
    okc (ok_if_ne (off := 6) (by decide +kernel) rfl rfl) (
    okc (ok_ldc (i := 140) w_1188 (by decide +kernel) rfl) (
    okc (ok_iret rfl (by decide +kernel)) (
    okc (ok_aload_n (k := 0) (by decide +kernel) rfl rfl) (
    okc (ok_iload_n (k := 1) (by decide +kernel) rfl rfl) (
    okc (ok_iconst (n := 5) (by decide +kernel) rfl rfl) (
    okc (ok_iconst (n := 0) (by decide +kernel) rfl rfl) (
    okc (ok_callV (SPf_ok _ _ _ _ _ _) (mi := 114) (n := 3) (idx := 92) rfl m_M_put (by decide) cX9_ok w_1118 w_1120 w_21 (by decide +kernel) rfl) (
    okc (ok_aload_n (k := 0) (by decide +kernel) rfl rfl) (
    okc (ok_getR (k := 0) (idx := 9) cX9_ok (by decide) (by decide +kernel) w_991 (by decide +kernel) rfl) (
    okc (ok_bipush (n := 6) (by decide +kernel) (by decide +kernel) rfl) (
    okc (ok_dup2 (by decide +kernel) rfl) (
    okc (ok_iald (by decide +kernel) rfl) (
    okc (ok_iconst (n := 1) (by decide +kernel) rfl rfl) (
    okc (ok_iadd (by decide +kernel) rfl) (
    okc (ok_iast (by decide +kernel) rfl) (
    okc (ok_aload_n (k := 0) (by decide +kernel) rfl rfl) (
    okc (ok_iload_n (k := 1) (by decide +kernel) rfl rfl) (
    okc (ok_iconst (n := 4) (by decide +kernel) rfl rfl) (
    okc (ok_callV (SPf_ok _ _ _ _ _ _) (mi := 105) (n := 2) (idx := 88) rfl m_M_of (by decide) cX9_ok w_1130 w_1132 w_23 (by decide +kernel) rfl) (
    okc (ok_iret rfl (by decide +kernel)) ( okn))))))))))))))))))))))))))))))
def pl_W_drag : List (Nat × mA) := [(0, a_iload 1 1), (1, a_push 0 2), (2, a_push 100 4), (4, a_call 94 3 7), (7, a_if (fun x => decide (x ≠ 0)) 13 10), (10, a_push (-1000000001) 12), (12, a_iret), (13, a_aload 0 14), (14, a_getR 8 10 0 17), (17, a_getI 3 11 5 20), (20, a_istore 2 21), (21, a_aload 0 22), (22, a_getR 8 10 0 25), (25, a_iload 1 26), (26, a_putI 3 11 5 29), (29, a_iload 2 30), (30, a_iret)]
set_option maxRecDepth 20000 in
theorem ol_W_drag : okall B sp D cA (SPf B sp Ls xs adK adV) MT ⟨"WreckSky", "drag", "(I)I"⟩ prog_1_method_8_code 3 (Option.some Jvm.ClassFile.FieldType.int) (pl_W_drag) := by
  unfold pl_W_drag
  exact
    okc (ok_iload_n (k := 1) (by decide +kernel) rfl rfl) (
    okc (ok_iconst (n := 0) (by decide +kernel) rfl rfl) (
    okc (ok_bipush (n := 100) (by decide +kernel) (by decide +kernel) rfl) (
    okc (ok_callS (SPf_ok _ _ _ _ _ _) (mi := 94) (n := 3) (idx := 72) rfl m_W_within (by decide) w_351 w_352 (by decide +kernel) rfl) (
    okc (ok_if_ne (off := 6) (by decide +kernel) rfl rfl) (
    okc (ok_ldc (i := 79) w_357 (by decide +kernel) rfl) (
    okc (ok_iret rfl (by decide +kernel)) (
    okc (ok_aload_n (k := 0) (by decide +kernel) rfl rfl) (
    okc (ok_getR (k := 0) (idx := 10) cX8_ok (by decide) (by decide +kernel) w_313 (by decide +kernel) rfl) (
    okc (ok_getI (k := 5) (idx := 146) cX3_ok (by decide) (by decide +kernel) w_147 (by decide +kernel) rfl) (
    okc (ok_istore_n (k := 2) (by decide +kernel) rfl rfl) (
    okc (ok_aload_n (k := 0) (by decide +kernel) rfl rfl) (
    okc (ok_getR (k := 0) (idx := 10) cX8_ok (by decide) (by decide +kernel) w_313 (by decide +kernel) rfl) (
    okc (ok_iload_n (k := 1) (by decide +kernel) rfl rfl) (
    okc (ok_putI (k := 5) (idx := 146) cX3_ok (by decide) rfl rfl w_147 (by decide +kernel) rfl) (
    okc (ok_iload_n (k := 2) (by decide +kernel) rfl rfl) (
    okc (ok_iret rfl (by decide +kernel)) ( okn)))))))))))))))))
def pl_M_drag : List (Nat × mA) := [(0, a_iload 1 1), (1, a_push 0 2), (2, a_push 100 4), (4, a_call 97 3 7), (7, a_if (fun x => decide (x = 0)) 19 10), (10, a_aload 0 11), (11, a_push 3 12), (12, a_iload 1 13), (13, a_callO 9 36 111 2 16), (16, a_goto 21), (19, a_push (-1000000001) 21), (21, a_iret)]
set_option maxRecDepth 20000 in
theorem ol_M_drag : okall B sp D cA (SPf B sp Ls xs adK adV) MT ⟨"WreckSkyModel", "drag", "(I)I"⟩ prog_11_method_23_code 2 (Option.some Jvm.ClassFile.FieldType.int) (pl_M_drag) := by
  unfold pl_M_drag
  exact
    okc (ok_iload_n (k := 1) (by decide +kernel) rfl rfl) (
    okc (ok_iconst (n := 0) (by decide +kernel) rfl rfl) (
    okc (ok_bipush (n := 100) (by decide +kernel) (by decide +kernel) rfl) (
    okc (ok_callS (SPf_ok _ _ _ _ _ _) (mi := 97) (n := 3) (idx := 84) rfl m_M_in (by decide) w_1106 w_1107 (by decide +kernel) rfl) (
    okc (ok_if_eq (off := 12) (by decide +kernel) rfl rfl) (
    okc (ok_aload_n (k := 0) (by decide +kernel) rfl rfl) (
    okc (ok_iconst (n := 3) (by decide +kernel) rfl rfl) (
    okc (ok_iload_n (k := 1) (by decide +kernel) rfl rfl) (
    okc (ok_callV (SPf_ok _ _ _ _ _ _) (mi := 111) (n := 2) (idx := 134) rfl m_M_becomes (by decide) cX9_ok w_1172 w_1174 w_29 (by decide +kernel) rfl) (
    okc (ok_goto (off := 5) (by decide +kernel) rfl) (
    okc (ok_ldc (i := 100) w_1112 (by decide +kernel) rfl) (
    okc (ok_iret rfl (by decide +kernel)) ( okn))))))))))))
def pl_W_at : List (Nat × mA) := [(0, a_iload 1 1), (1, a_push 0 2), (2, a_push 7 4), (4, a_call 94 3 7), (7, a_if (fun x => decide (x = 0)) 17 10), (10, a_iload 2 11), (11, a_call 95 1 14), (14, a_if (fun x => decide (x ≠ 0)) 20 17), (17, a_push (-1000000001) 19), (19, a_iret), (20, a_push 0 21), (21, a_istore 3 22), (22, a_push 0 23), (23, a_istore 4 25), (25, a_iload 4 27), (27, a_aload 0 28), (28, a_getR 8 10 0 31), (31, a_getI 3 11 3 34), (34, a_cmp (fun x y => decide (y ≤ x)) 88 37), (37, a_aload 0 38), (38, a_getR 8 10 0 41), (41, a_getR 3 11 0 44), (44, a_iload 4 46), (46, a_aald 4 47), (47, a_astore 5 49), (49, a_aload 5 51), (51, a_getI 7 6 5 54), (54, a_if (fun x => decide (x = 0)) 82 57), (57, a_aload 5 59), (59, a_getI 7 6 1 62), (62, a_iload 1 63), (63, a_cmp (fun x y => decide (x ≠ y)) 82 66), (66, a_aload 5 68), (68, a_getI 7 6 2 71), (71, a_iload 2 72), (72, a_cmp (fun x y => decide (x ≠ y)) 82 75), (75, a_iload 3 76), (76, a_push 1 77), (77, a_iload 4 79), (79, a_bin (fun x y => x <<< (y &&& 31)) 80), (80, a_bin (fun x y => x ||| y) 81), (81, a_istore 3 82), (82, a_iinc 4 1 85), (85, a_goto 25), (88, a_iload 3 89), (89, a_iret)]
set_option maxRecDepth 20000 in
theorem ol_W_at : okall B sp D cA (SPf B sp Ls xs adK adV) MT ⟨"WreckSky", "at", "(II)I"⟩ prog_1_method_9_code 6 (Option.some Jvm.ClassFile.FieldType.int) (pl_W_at) := by
  unfold pl_W_at
  exact
    okc (ok_iload_n (k := 1) (by decide +kernel) rfl rfl) (
    okc (ok_iconst (n := 0) (by decide +kernel) rfl rfl) (
    okc (ok_bipush (n := 7) (by decide +kernel) (by decide +kernel) rfl) (
    okc (ok_callS (SPf_ok _ _ _ _ _ _) (mi := 94) (n := 3) (idx := 72) rfl m_W_within (by decide) w_351 w_352 (by decide +kernel) rfl) (
    okc (ok_if_eq (off := 10) (by decide +kernel) rfl rfl) (
    okc (ok_iload_n (k := 2) (by decide +kernel) rfl rfl) (
    okc (ok_callS (SPf_ok _ _ _ _ _ _) (mi := 95) (n := 1) (idx := 76) rfl m_W_isPlace (by decide) w_354 w_355 (by decide +kernel) rfl) (
    okc (ok_if_ne (off := 6) (by decide +kernel) rfl rfl) (
    okc (ok_ldc (i := 79) w_357 (by decide +kernel) rfl) (
    okc (ok_iret rfl (by decide +kernel)) (
    okc (ok_iconst (n := 0) (by decide +kernel) rfl rfl) (
    okc (ok_istore_n (k := 3) (by decide +kernel) rfl rfl) (
    okc (ok_iconst (n := 0) (by decide +kernel) rfl rfl) (
    okc (ok_istore (by decide +kernel) rfl) (
    okc (ok_iload (by decide +kernel) rfl) (
    okc (ok_aload_n (k := 0) (by decide +kernel) rfl rfl) (
    okc (ok_getR (k := 0) (idx := 10) cX8_ok (by decide) (by decide +kernel) w_313 (by decide +kernel) rfl) (
    okc (ok_getI (k := 3) (idx := 84) cX3_ok (by decide) (by decide +kernel) w_142 (by decide +kernel) rfl) (
    okc (ok_cmp_ge (off := 54) (by decide +kernel) rfl rfl) (
    okc (ok_aload_n (k := 0) (by decide +kernel) rfl rfl) (
    okc (ok_getR (k := 0) (idx := 10) cX8_ok (by decide) (by decide +kernel) w_313 (by decide +kernel) rfl) (
    okc (ok_getR (k := 0) (idx := 91) cX3_ok (by decide) (by decide +kernel) w_135 (by decide +kernel) rfl) (
    okc (ok_iload (by decide +kernel) rfl) (
    okc (ok_aald (C := "WreckSky$Wreck") (by decide) (fun _ => rfl) (by decide +kernel) rfl) (
    okc (ok_astore (by decide +kernel) rfl) (
    okc (ok_aload (by decide +kernel) rfl) (
    okc (ok_getI (k := 5) (idx := 112) cX7_ok (by decide) (by decide +kernel) w_117 (by decide +kernel) rfl) (
    okc (ok_if_eq (off := 28) (by decide +kernel) rfl rfl) (
    okc (ok_aload (by decide +kernel) rfl) (
    okc (ok_getI (k := 1) (idx := 100) cX7_ok (by decide) (by decide +kernel) w_102 (by decide +kernel) rfl) (
    okc (ok_iload_n (k := 1) (by decide +kernel) rfl rfl) (
    okc (ok_cmp_ne (off := 19) (by decide +kernel) rfl rfl) (
    okc (ok_aload (by decide +kernel) rfl) (
    okc (ok_getI (k := 2) (idx := 103) cX7_ok (by decide) (by decide +kernel) w_106 (by decide +kernel) rfl) (
    okc (ok_iload_n (k := 2) (by decide +kernel) rfl rfl) (
    okc (ok_cmp_ne (off := 10) (by decide +kernel) rfl rfl) (
    okc (ok_iload_n (k := 3) (by decide +kernel) rfl rfl) (
    okc (ok_iconst (n := 1) (by decide +kernel) rfl rfl) (
    okc (ok_iload (by decide +kernel) rfl) (
    okc (ok_ishl (by decide +kernel) rfl) (
    okc (ok_ior (by decide +kernel) rfl) (
    okc (ok_istore_n (k := 3) (by decide +kernel) rfl rfl) (
    okc (ok_iinc (n := 1) (by decide +kernel) rfl rfl) (
    okc (ok_goto (off := -60) (by decide +kernel) rfl) (
    okc (ok_iload_n (k := 3) (by decide +kernel) rfl rfl) (
    okc (ok_iret rfl (by decide +kernel)) ( okn))))))))))))))))))))))))))))))))))))))))))))))
def pl_M_at : List (Nat × mA) := [(0, a_push 1 1), (1, a_iload 1 2), (2, a_call 98 2 5), (5, a_if (fun x => decide (x = 0)) 25 8), (8, a_push 2 9), (9, a_iload 2 10), (10, a_call 98 2 13), (13, a_if (fun x => decide (x = 0)) 25 16), (16, a_aload 0 17), (17, a_iload 1 18), (18, a_iload 2 19), (19, a_callO 9 36 115 2 22), (22, a_goto 27), (25, a_push (-1000000001) 27), (27, a_iret)]
set_option maxRecDepth 20000 in
theorem ol_M_at : okall B sp D cA (SPf B sp Ls xs adK adV) MT ⟨"WreckSkyModel", "at", "(II)I"⟩ prog_11_method_25_code 3 (Option.some Jvm.ClassFile.FieldType.int) (pl_M_at) := by
  unfold pl_M_at
  exact
    okc (ok_iconst (n := 1) (by decide +kernel) rfl rfl) (
    okc (ok_iload_n (k := 1) (by decide +kernel) rfl rfl) (
    okc (ok_callS (SPf_ok _ _ _ _ _ _) (mi := 98) (n := 2) (idx := 96) rfl m_M_isOf (by decide) w_1109 w_1110 (by decide +kernel) rfl) (
    okc (ok_if_eq (off := 20) (by decide +kernel) rfl rfl) (
    okc (ok_iconst (n := 2) (by decide +kernel) rfl rfl) (
    okc (ok_iload_n (k := 2) (by decide +kernel) rfl rfl) (
    okc (ok_callS (SPf_ok _ _ _ _ _ _) (mi := 98) (n := 2) (idx := 96) rfl m_M_isOf (by decide) w_1109 w_1110 (by decide +kernel) rfl) (
    okc (ok_if_eq (off := 12) (by decide +kernel) rfl rfl) (
    okc (ok_aload_n (k := 0) (by decide +kernel) rfl rfl) (
    okc (ok_iload_n (k := 1) (by decide +kernel) rfl rfl) (
    okc (ok_iload_n (k := 2) (by decide +kernel) rfl rfl) (
    okc (ok_callV (SPf_ok _ _ _ _ _ _) (mi := 115) (n := 2) (idx := 141) rfl m_M_upAt (by decide) cX9_ok w_1197 w_1199 w_31 (by decide +kernel) rfl) (
    okc (ok_goto (off := 5) (by decide +kernel) rfl) (
    okc (ok_ldc (i := 100) w_1112 (by decide +kernel) rfl) (
    okc (ok_iret rfl (by decide +kernel)) ( okn)))))))))))))))
def pl_W_deal : List (Nat × mA) := [(0, a_iload 1 1), (1, a_push 1 2), (2, a_push 14 4), (4, a_call 94 3 7), (7, a_if (fun x => decide (x ≠ 0)) 13 10), (10, a_push (-1000000001) 12), (12, a_iret), (13, a_iload 1 14), (14, a_push 14 16), (16, a_aload 0 17), (17, a_getR 8 10 0 20), (20, a_getI 3 11 3 23), (23, a_bin (fun x y => x - y) 24), (24, a_call 116 2 27), (27, a_istore 2 28), (28, a_push 0 29), (29, a_istore 3 30), (30, a_iload 3 31), (31, a_iload 2 32), (32, a_cmp (fun x y => decide (y ≤ x)) 48 35), (35, a_aload 0 36), (36, a_getR 8 10 0 39), (39, a_callO 3 11 117 0 42), (42, a_iinc 3 1 45), (45, a_goto 30), (48, a_iload 2 49), (49, a_iret)]
set_option maxRecDepth 20000 in
theorem ol_W_deal : okall B sp D cA (SPf B sp Ls xs adK adV) MT ⟨"WreckSky", "deal", "(I)I"⟩ prog_1_method_10_code 4 (Option.some Jvm.ClassFile.FieldType.int) (pl_W_deal) := by
  unfold pl_W_deal
  exact
    okc (ok_iload_n (k := 1) (by decide +kernel) rfl rfl) (
    okc (ok_iconst (n := 1) (by decide +kernel) rfl rfl) (
    okc (ok_bipush (n := 14) (by decide +kernel) (by decide +kernel) rfl) (
    okc (ok_callS (SPf_ok _ _ _ _ _ _) (mi := 94) (n := 3) (idx := 72) rfl m_W_within (by decide) w_351 w_352 (by decide +kernel) rfl) (
    okc (ok_if_ne (off := 6) (by decide +kernel) rfl rfl) (
    okc (ok_ldc (i := 79) w_357 (by decide +kernel) rfl) (
    okc (ok_iret rfl (by decide +kernel)) (
    okc (ok_iload_n (k := 1) (by decide +kernel) rfl rfl) (
    okc (ok_bipush (n := 14) (by decide +kernel) (by decide +kernel) rfl) (
    okc (ok_aload_n (k := 0) (by decide +kernel) rfl rfl) (
    okc (ok_getR (k := 0) (idx := 10) cX8_ok (by decide) (by decide +kernel) w_313 (by decide +kernel) rfl) (
    okc (ok_getI (k := 3) (idx := 84) cX3_ok (by decide) (by decide +kernel) w_142 (by decide +kernel) rfl) (
    okc (ok_isub (by decide +kernel) rfl) (
    okc (ok_callS (SPf_ok _ _ _ _ _ _) (mi := 116) (n := 2) (idx := 149) rfl m_JMath_min (by decide) w_393 w_394 (by decide +kernel) rfl) (
    okc (ok_istore_n (k := 2) (by decide +kernel) rfl rfl) (
    okc (ok_iconst (n := 0) (by decide +kernel) rfl rfl) (
    okc (ok_istore_n (k := 3) (by decide +kernel) rfl rfl) (
    okc (ok_iload_n (k := 3) (by decide +kernel) rfl rfl) (
    okc (ok_iload_n (k := 2) (by decide +kernel) rfl rfl) (
    okc (ok_cmp_ge (off := 16) (by decide +kernel) rfl rfl) (
    okc (ok_aload_n (k := 0) (by decide +kernel) rfl rfl) (
    okc (ok_getR (k := 0) (idx := 10) cX8_ok (by decide) (by decide +kernel) w_313 (by decide +kernel) rfl) (
    okc (ok_callV (SPf_ok _ _ _ _ _ _) (mi := 117) (n := 0) (idx := 154) rfl m_S_drawWreck (by decide) cX3_ok w_452 w_453 w_454 (by decide +kernel) rfl) (
    okc (ok_iinc (n := 1) (by decide +kernel) rfl rfl) (
    okc (ok_goto (off := -15) (by decide +kernel) rfl) (
    okc (ok_iload_n (k := 2) (by decide +kernel) rfl rfl) (
    okc (ok_iret rfl (by decide +kernel)) ( okn)))))))))))))))))))))))))))
def pl_M_deal : List (Nat × mA) := [(0, a_iload 1 1), (1, a_push 1 2), (2, a_push 14 4), (4, a_call 97 3 7), (7, a_if (fun x => decide (x ≠ 0)) 13 10), (10, a_push (-1000000001) 12), (12, a_iret), (13, a_push 0 14), (14, a_istore 2 15), (15, a_iload 2 16), (16, a_iload 1 17), (17, a_cmp (fun x y => decide (y ≤ x)) 97 20), (20, a_aload 0 21), (21, a_getR 9 36 0 24), (24, a_push 1 25), (25, a_ald 0 26), (26, a_push 14 28), (28, a_cmp (fun x y => decide (y ≤ x)) 97 31), (31, a_aload 0 32), (32, a_callO 9 36 118 0 35), (35, a_push 6 37), (37, a_div (fun x y => x - x / y * y) 38), (38, a_istore 3 39), (39, a_aload 0 40), (40, a_callO 9 36 118 0 43), (43, a_push 8 45), (45, a_div (fun x y => x - x / y * y) 46), (46, a_istore 4 48), (48, a_aload 0 49), (49, a_callO 9 36 118 0 52), (52, a_push 30 54), (54, a_div (fun x y => x - x / y * y) 55), (55, a_istore 5 57), (57, a_aload 0 58), (58, a_callO 9 36 118 0 61), (61, a_push 19 63), (63, a_div (fun x y => x - x / y * y) 64), (64, a_push 9 66), (66, a_bin (fun x y => x - y) 67), (67, a_istore 6 69), (69, a_aload 0 70), (70, a_iload 3 71), (71, a_iload 4 73), (73, a_iload 5 75), (75, a_iload 6 77), (77, a_push 1 78), (78, a_aload 0 79), (79, a_callO 9 36 118 0 82), (82, a_push 30 84), (84, a_div (fun x y => x - x / y * y) 85), (85, a_bin (fun x y => x + y) 86), (86, a_callO 9 36 99 5 89), (89, a_istore 7 91), (91, a_iinc 2 1 94), (94, a_goto 15), (97, a_iload 2 98), (98, a_iret)]
set_option maxRecDepth 20000 in
theorem ol_M_deal : okall B sp D cA (SPf B sp Ls xs adK adV) MT ⟨"WreckSkyModel", "deal", "(I)I"⟩ prog_11_method_27_code 8 (Option.some Jvm.ClassFile.FieldType.int) (pl_M_deal) := by
  unfold pl_M_deal
  exact
    okc (ok_iload_n (k := 1) (by decide +kernel) rfl rfl) (
    okc (ok_iconst (n := 1) (by decide +kernel) rfl rfl) (
    okc (ok_bipush (n := 14) (by decide +kernel) (by decide +kernel) rfl) (
    okc (ok_callS (SPf_ok _ _ _ _ _ _) (mi := 97) (n := 3) (idx := 84) rfl m_M_in (by decide) w_1106 w_1107 (by decide +kernel) rfl) (
    okc (ok_if_ne (off := 6) (by decide +kernel) rfl rfl) (
    okc (ok_ldc (i := 100) w_1112 (by decide +kernel) rfl) (
    okc (ok_iret rfl (by decide +kernel)) (
    okc (ok_iconst (n := 0) (by decide +kernel) rfl rfl) (
    okc (ok_istore_n (k := 2) (by decide +kernel) rfl rfl) (
    okc (ok_iload_n (k := 2) (by decide +kernel) rfl rfl) (
    okc (ok_iload_n (k := 1) (by decide +kernel) rfl rfl) (
    okc (ok_cmp_ge (off := 80) (by decide +kernel) rfl rfl) (
    okc (ok_aload_n (k := 0) (by decide +kernel) rfl rfl) (
    okc (ok_getR (k := 0) (idx := 9) cX9_ok (by decide) (by decide +kernel) w_991 (by decide +kernel) rfl) (
    okc (ok_iconst (n := 1) (by decide +kernel) rfl rfl) (
    okc (ok_iald (by decide +kernel) rfl) (
    okc (ok_bipush (n := 14) (by decide +kernel) (by decide +kernel) rfl) (
    okc (ok_cmp_ge (off := 69) (by decide +kernel) rfl rfl) (
    okc (ok_aload_n (k := 0) (by decide +kernel) rfl rfl) (
    okc (ok_callV (SPf_ok _ _ _ _ _ _) (mi := 118) (n := 0) (idx := 145) rfl m_M_draw (by decide) cX9_ok w_1205 w_1207 w_32 (by decide +kernel) rfl) (
    okc (ok_bipush (n := 6) (by decide +kernel) (by decide +kernel) rfl) (
    okc (ok_irem (by decide +kernel) rfl) (
    okc (ok_istore_n (k := 3) (by decide +kernel) rfl rfl) (
    okc (ok_aload_n (k := 0) (by decide +kernel) rfl rfl) (
    okc (ok_callV (SPf_ok _ _ _ _ _ _) (mi := 118) (n := 0) (idx := 145) rfl m_M_draw (by decide) cX9_ok w_1205 w_1207 w_32 (by decide +kernel) rfl) (
    okc (ok_bipush (n := 8) (by decide +kernel) (by decide +kernel) rfl) (
    okc (ok_irem (by decide +kernel) rfl) (
    okc (ok_istore (by decide +kernel) rfl) (
    okc (ok_aload_n (k := 0) (by decide +kernel) rfl rfl) (
    okc (ok_callV (SPf_ok _ _ _ _ _ _) (mi := 118) (n := 0) (idx := 145) rfl m_M_draw (by decide) cX9_ok w_1205 w_1207 w_32 (by decide +kernel) rfl) (
    okc (ok_bipush (n := 30) (by decide +kernel) (by decide +kernel) rfl) (
    okc (ok_irem (by decide +kernel) rfl) (
    okc (ok_istore (by decide +kernel) rfl) (
    okc (ok_aload_n (k := 0) (by decide +kernel) rfl rfl) (
    okc (ok_callV (SPf_ok _ _ _ _ _ _) (mi := 118) (n := 0) (idx := 145) rfl m_M_draw (by decide) cX9_ok w_1205 w_1207 w_32 (by decide +kernel) rfl) (
    okc (ok_bipush (n := 19) (by decide +kernel) (by decide +kernel) rfl) (
    okc (ok_irem (by decide +kernel) rfl) (
    okc (ok_bipush (n := 9) (by decide +kernel) (by decide +kernel) rfl) (
    okc (ok_isub (by decide +kernel) rfl) (
    okc (ok_istore (by decide +kernel) rfl) (
    okc (ok_aload_n (k := 0) (by decide +kernel) rfl rfl) (
    okc (ok_iload_n (k := 3) (by decide +kernel) rfl rfl) (
    okc (ok_iload (by decide +kernel) rfl) (
    okc (ok_iload (by decide +kernel) rfl) (
    okc (ok_iload (by decide +kernel) rfl) (
    okc (ok_iconst (n := 1) (by decide +kernel) rfl rfl) (
    okc (ok_aload_n (k := 0) (by decide +kernel) rfl rfl) (
    okc (ok_callV (SPf_ok _ _ _ _ _ _) (mi := 118) (n := 0) (idx := 145) rfl m_M_draw (by decide) cX9_ok w_1205 w_1207 w_32 (by decide +kernel) rfl) (
    okc (ok_bipush (n := 30) (by decide +kernel) (by decide +kernel) rfl) (
    okc (ok_irem (by decide +kernel) rfl) (
    okc (ok_iadd (by decide +kernel) rfl) (
    okc (ok_callV (SPf_ok _ _ _ _ _ _) (mi := 99) (n := 5) (idx := 102) rfl m_M_comes (by decide) cX9_ok w_1114 w_1116 w_20 (by decide +kernel) rfl) (
    okc (ok_istore (by decide +kernel) rfl) (
    okc (ok_iinc (n := 1) (by decide +kernel) rfl rfl) (
    okc (ok_goto (off := -79) (by decide +kernel) rfl) (
    okc (ok_iload_n (k := 2) (by decide +kernel) rfl rfl) (
    okc (ok_iret rfl (by decide +kernel)) ( okn)))))))))))))))))))))))))))))))))))))))))))))))))))))))))
def pl_W_seed : List (Nat × mA) := [(0, a_aload 0 1), (1, a_getR 8 10 0 4), (4, a_getI 3 11 10 7), (7, a_istore 2 8), (8, a_aload 0 9), (9, a_getR 8 10 0 12), (12, a_iload 1 13), (13, a_putI 3 11 10 16), (16, a_iload 2 17), (17, a_iret)]
set_option maxRecDepth 20000 in
theorem ol_W_seed : okall B sp D cA (SPf B sp Ls xs adK adV) MT ⟨"WreckSky", "seed", "(I)I"⟩ prog_1_method_11_code 3 (Option.some Jvm.ClassFile.FieldType.int) (pl_W_seed) := by
  unfold pl_W_seed
  exact
    okc (ok_aload_n (k := 0) (by decide +kernel) rfl rfl) (
    okc (ok_getR (k := 0) (idx := 10) cX8_ok (by decide) (by decide +kernel) w_313 (by decide +kernel) rfl) (
    okc (ok_getI (k := 10) (idx := 157) cX3_ok (by decide) (by decide +kernel) w_158 (by decide +kernel) rfl) (
    okc (ok_istore_n (k := 2) (by decide +kernel) rfl rfl) (
    okc (ok_aload_n (k := 0) (by decide +kernel) rfl rfl) (
    okc (ok_getR (k := 0) (idx := 10) cX8_ok (by decide) (by decide +kernel) w_313 (by decide +kernel) rfl) (
    okc (ok_iload_n (k := 1) (by decide +kernel) rfl rfl) (
    okc (ok_putI (k := 10) (idx := 157) cX3_ok (by decide) rfl rfl w_158 (by decide +kernel) rfl) (
    okc (ok_iload_n (k := 2) (by decide +kernel) rfl rfl) (
    okc (ok_iret rfl (by decide +kernel)) ( okn))))))))))
def pl_M_seed : List (Nat × mA) := [(0, a_aload 0 1), (1, a_push 0 2), (2, a_iload 1 3), (3, a_callO 9 36 111 2 6), (6, a_iret)]
set_option maxRecDepth 20000 in
theorem ol_M_seed : okall B sp D cA (SPf B sp Ls xs adK adV) MT ⟨"WreckSkyModel", "seed", "(I)I"⟩ prog_11_method_28_code 2 (Option.some Jvm.ClassFile.FieldType.int) (pl_M_seed) := by
  unfold pl_M_seed
  exact
    okc (ok_aload_n (k := 0) (by decide +kernel) rfl rfl) (
    okc (ok_iconst (n := 0) (by decide +kernel) rfl rfl) (
    okc (ok_iload_n (k := 1) (by decide +kernel) rfl rfl) (
    okc (ok_callV (SPf_ok _ _ _ _ _ _) (mi := 111) (n := 2) (idx := 134) rfl m_M_becomes (by decide) cX9_ok w_1172 w_1174 w_29 (by decide +kernel) rfl) (
    okc (ok_iret rfl (by decide +kernel)) ( okn)))))
def pl_W_hours : List (Nat × mA) := [(0, a_iload 1 1), (1, a_push 1 2), (2, a_push 100 4), (4, a_call 94 3 7), (7, a_if (fun x => decide (x ≠ 0)) 13 10), (10, a_push (-1000000001) 12), (12, a_iret), (13, a_aload 0 14), (14, a_getR 8 10 0 17), (17, a_getI 3 11 6 20), (20, a_istore 2 21), (21, a_aload 0 22), (22, a_getR 8 10 0 25), (25, a_iload 1 26), (26, a_push 9999 29), (29, a_aload 0 30), (30, a_getR 8 10 0 33), (33, a_getI 3 11 9 36), (36, a_bin (fun x y => x - y) 37), (37, a_call 116 2 40), (40, a_callO 3 11 119 1 43), (43, a_aload 0 44), (44, a_getR 8 10 0 47), (47, a_getI 3 11 6 50), (50, a_iload 2 51), (51, a_bin (fun x y => x - y) 52), (52, a_iret)]
set_option maxRecDepth 20000 in
theorem ol_W_hours : okall B sp D cA (SPf B sp Ls xs adK adV) MT ⟨"WreckSky", "hours", "(I)I"⟩ prog_1_method_12_code 3 (Option.some Jvm.ClassFile.FieldType.int) (pl_W_hours) := by
  unfold pl_W_hours
  exact
    okc (ok_iload_n (k := 1) (by decide +kernel) rfl rfl) (
    okc (ok_iconst (n := 1) (by decide +kernel) rfl rfl) (
    okc (ok_bipush (n := 100) (by decide +kernel) (by decide +kernel) rfl) (
    okc (ok_callS (SPf_ok _ _ _ _ _ _) (mi := 94) (n := 3) (idx := 72) rfl m_W_within (by decide) w_351 w_352 (by decide +kernel) rfl) (
    okc (ok_if_ne (off := 6) (by decide +kernel) rfl rfl) (
    okc (ok_ldc (i := 79) w_357 (by decide +kernel) rfl) (
    okc (ok_iret rfl (by decide +kernel)) (
    okc (ok_aload_n (k := 0) (by decide +kernel) rfl rfl) (
    okc (ok_getR (k := 0) (idx := 10) cX8_ok (by decide) (by decide +kernel) w_313 (by decide +kernel) rfl) (
    okc (ok_getI (k := 6) (idx := 160) cX3_ok (by decide) (by decide +kernel) w_150 (by decide +kernel) rfl) (
    okc (ok_istore_n (k := 2) (by decide +kernel) rfl rfl) (
    okc (ok_aload_n (k := 0) (by decide +kernel) rfl rfl) (
    okc (ok_getR (k := 0) (idx := 10) cX8_ok (by decide) (by decide +kernel) w_313 (by decide +kernel) rfl) (
    okc (ok_iload_n (k := 1) (by decide +kernel) rfl rfl) (
    okc (ok_sipush (n := 9999) (by decide +kernel) (by decide +kernel) rfl) (
    okc (ok_aload_n (k := 0) (by decide +kernel) rfl rfl) (
    okc (ok_getR (k := 0) (idx := 10) cX8_ok (by decide) (by decide +kernel) w_313 (by decide +kernel) rfl) (
    okc (ok_getI (k := 9) (idx := 119) cX3_ok (by decide) (by decide +kernel) w_156 (by decide +kernel) rfl) (
    okc (ok_isub (by decide +kernel) rfl) (
    okc (ok_callS (SPf_ok _ _ _ _ _ _) (mi := 116) (n := 2) (idx := 149) rfl m_JMath_min (by decide) w_393 w_394 (by decide +kernel) rfl) (
    okc (ok_callV (SPf_ok _ _ _ _ _ _) (mi := 119) (n := 1) (idx := 163) rfl m_S_passHours (by decide) cX3_ok w_470 w_471 w_472 (by decide +kernel) rfl) (
    okc (ok_aload_n (k := 0) (by decide +kernel) rfl rfl) (
    okc (ok_getR (k := 0) (idx := 10) cX8_ok (by decide) (by decide +kernel) w_313 (by decide +kernel) rfl) (
    okc (ok_getI (k := 6) (idx := 160) cX3_ok (by decide) (by decide +kernel) w_150 (by decide +kernel) rfl) (
    okc (ok_iload_n (k := 2) (by decide +kernel) rfl rfl) (
    okc (ok_isub (by decide +kernel) rfl) (
    okc (ok_iret rfl (by decide +kernel)) ( okn)))))))))))))))))))))))))))
def pl_M_hours : List (Nat × mA) := [(0, a_iload 1 1), (1, a_push 1 2), (2, a_push 100 4), (4, a_call 97 3 7), (7, a_if (fun x => decide (x ≠ 0)) 13 10), (10, a_push (-1000000001) 12), (12, a_iret), (13, a_aload 0 14), (14, a_getR 9 36 0 17), (17, a_push 4 18), (18, a_ald 0 19), (19, a_istore 2 20), (20, a_aload 0 21), (21, a_push 9999 24), (24, a_aload 0 25), (25, a_getR 9 36 0 28), (28, a_push 2 29), (29, a_ald 0 30), (30, a_bin (fun x y => x - y) 31), (31, a_push 0 32), (32, a_iload 1 33), (33, a_call 120 3 36), (36, a_callO 9 36 121 1 39), (39, a_aload 0 40), (40, a_getR 9 36 0 43), (43, a_push 4 44), (44, a_ald 0 45), (45, a_iload 2 46), (46, a_bin (fun x y => x - y) 47), (47, a_iret)]
set_option maxRecDepth 20000 in
theorem ol_M_hours : okall B sp D cA (SPf B sp Ls xs adK adV) MT ⟨"WreckSkyModel", "hours", "(I)I"⟩ prog_11_method_34_code 3 (Option.some Jvm.ClassFile.FieldType.int) (pl_M_hours) := by
  unfold pl_M_hours
  exact
    okc (ok_iload_n (k := 1) (by decide +kernel) rfl rfl) (
    okc (ok_iconst (n := 1) (by decide +kernel) rfl rfl) (
    okc (ok_bipush (n := 100) (by decide +kernel) (by decide +kernel) rfl) (
    okc (ok_callS (SPf_ok _ _ _ _ _ _) (mi := 97) (n := 3) (idx := 84) rfl m_M_in (by decide) w_1106 w_1107 (by decide +kernel) rfl) (
    okc (ok_if_ne (off := 6) (by decide +kernel) rfl rfl) (
    okc (ok_ldc (i := 100) w_1112 (by decide +kernel) rfl) (
    okc (ok_iret rfl (by decide +kernel)) (
    okc (ok_aload_n (k := 0) (by decide +kernel) rfl rfl) (
    okc (ok_getR (k := 0) (idx := 9) cX9_ok (by decide) (by decide +kernel) w_991 (by decide +kernel) rfl) (
    okc (ok_iconst (n := 4) (by decide +kernel) rfl rfl) (
    okc (ok_iald (by decide +kernel) rfl) (
    okc (ok_istore_n (k := 2) (by decide +kernel) rfl rfl) (
    okc (ok_aload_n (k := 0) (by decide +kernel) rfl rfl) (
    okc (ok_sipush (n := 9999) (by decide +kernel) (by decide +kernel) rfl) (
    okc (ok_aload_n (k := 0) (by decide +kernel) rfl rfl) (
    okc (ok_getR (k := 0) (idx := 9) cX9_ok (by decide) (by decide +kernel) w_991 (by decide +kernel) rfl) (
    okc (ok_iconst (n := 2) (by decide +kernel) rfl rfl) (
    okc (ok_iald (by decide +kernel) rfl) (
    okc (ok_isub (by decide +kernel) rfl) (
    okc (ok_iconst (n := 0) (by decide +kernel) rfl rfl) (
    okc (ok_iload_n (k := 1) (by decide +kernel) rfl rfl) (
    okc (ok_callS (SPf_ok _ _ _ _ _ _) (mi := 120) (n := 3) (idx := 113) rfl m_M_within (by decide) w_1149 w_1150 (by decide +kernel) rfl) (
    okc (ok_callV (SPf_ok _ _ _ _ _ _) (mi := 121) (n := 1) (idx := 165) rfl m_M_goesOn (by decide) cX9_ok w_1218 w_1220 w_33 (by decide +kernel) rfl) (
    okc (ok_aload_n (k := 0) (by decide +kernel) rfl rfl) (
    okc (ok_getR (k := 0) (idx := 9) cX9_ok (by decide) (by decide +kernel) w_991 (by decide +kernel) rfl) (
    okc (ok_iconst (n := 4) (by decide +kernel) rfl rfl) (
    okc (ok_iald (by decide +kernel) rfl) (
    okc (ok_iload_n (k := 2) (by decide +kernel) rfl rfl) (
    okc (ok_isub (by decide +kernel) rfl) (
    okc (ok_iret rfl (by decide +kernel)) ( okn))))))))))))))))))))))))))))))
def pl_W_sky : List (Nat × mA) := [(0, a_iload 1 1), (1, a_sw (t_sw 0 [40, 48, 56, 64, 72, 80] 88)), (40, a_aload 0 41), (41, a_getR 8 10 0 44), (44, a_getI 3 11 6 47), (47, a_iret), (48, a_aload 0 49), (49, a_getR 8 10 0 52), (52, a_getI 3 11 7 55), (55, a_iret), (56, a_aload 0 57), (57, a_getR 8 10 0 60), (60, a_getI 3 11 8 63), (63, a_iret), (64, a_aload 0 65), (65, a_getR 8 10 0 68), (68, a_callO 3 11 122 0 71), (71, a_iret), (72, a_aload 0 73), (73, a_getR 8 10 0 76), (76, a_callO 3 11 123 0 79), (79, a_iret), (80, a_aload 0 81), (81, a_getR 8 10 0 84), (84, a_callO 3 11 124 0 87), (87, a_iret), (88, a_push (-1000000001) 90), (90, a_iret)]
set_option maxRecDepth 20000 in
theorem ol_W_sky : okall B sp D cA (SPf B sp Ls xs adK adV) MT ⟨"WreckSky", "sky", "(I)I"⟩ prog_1_method_13_code 2 (Option.some Jvm.ClassFile.FieldType.int) (pl_W_sky) := by
  unfold pl_W_sky
  exact
    okc (ok_iload_n (k := 1) (by decide +kernel) rfl rfl) (
    okc (ok_tab (dflt := 87) (lo := 0) (hi := 5) (offs := #[39, 47, 55, 63, 71, 79]) (len := 39) (by decide +kernel) rfl rfl rfl) (
    okc (ok_aload_n (k := 0) (by decide +kernel) rfl rfl) (
    okc (ok_getR (k := 0) (idx := 10) cX8_ok (by decide) (by decide +kernel) w_313 (by decide +kernel) rfl) (
    okc (ok_getI (k := 6) (idx := 160) cX3_ok (by decide) (by decide +kernel) w_150 (by decide +kernel) rfl) (
    okc (ok_iret rfl (by decide +kernel)) (
    okc (ok_aload_n (k := 0) (by decide +kernel) rfl rfl) (
    okc (ok_getR (k := 0) (idx := 10) cX8_ok (by decide) (by decide +kernel) w_313 (by decide +kernel) rfl) (
    okc (ok_getI (k := 7) (idx := 167) cX3_ok (by decide) (by decide +kernel) w_152 (by decide +kernel) rfl) (
    okc (ok_iret rfl (by decide +kernel)) (
    okc (ok_aload_n (k := 0) (by decide +kernel) rfl rfl) (
    okc (ok_getR (k := 0) (idx := 10) cX8_ok (by decide) (by decide +kernel) w_313 (by decide +kernel) rfl) (
    okc (ok_getI (k := 8) (idx := 143) cX3_ok (by decide) (by decide +kernel) w_154 (by decide +kernel) rfl) (
    okc (ok_iret rfl (by decide +kernel)) (
    okc (ok_aload_n (k := 0) (by decide +kernel) rfl rfl) (
    okc (ok_getR (k := 0) (idx := 10) cX8_ok (by decide) (by decide +kernel) w_313 (by decide +kernel) rfl) (
    okc (ok_callV (SPf_ok _ _ _ _ _ _) (mi := 122) (n := 0) (idx := 170) rfl m_S_upSet (by decide) cX3_ok w_500 w_501 w_502 (by decide +kernel) rfl) (
    okc (ok_iret rfl (by decide +kernel)) (
    okc (ok_aload_n (k := 0) (by decide +kernel) rfl rfl) (
    okc (ok_getR (k := 0) (idx := 10) cX8_ok (by decide) (by decide +kernel) w_313 (by decide +kernel) rfl) (
    okc (ok_callV (SPf_ok _ _ _ _ _ _) (mi := 123) (n := 0) (idx := 173) rfl m_S_upMass (by decide) cX3_ok w_504 w_505 w_506 (by decide +kernel) rfl) (
    okc (ok_iret rfl (by decide +kernel)) (
    okc (ok_aload_n (k := 0) (by decide +kernel) rfl rfl) (
    okc (ok_getR (k := 0) (idx := 10) cX8_ok (by decide) (by decide +kernel) w_313 (by decide +kernel) rfl) (
    okc (ok_callV (SPf_ok _ _ _ _ _ _) (mi := 124) (n := 0) (idx := 176) rfl m_S_upHeights (by decide) cX3_ok w_508 w_509 w_510 (by decide +kernel) rfl) (
    okc (ok_iret rfl (by decide +kernel)) (
    okc (ok_ldc (i := 79) w_357 (by decide +kernel) rfl) (
    okc (ok_iret rfl (by decide +kernel)) ( okn))))))))))))))))))))))))))))
def pl_M_sky : List (Nat × mA) := [(0, a_iload 1 1), (1, a_push 0 2), (2, a_push 5 3), (3, a_call 97 3 6), (6, a_if (fun x => decide (x ≠ 0)) 12 9), (9, a_push (-1000000001) 11), (11, a_iret), (12, a_iload 1 13), (13, a_push 3 14), (14, a_cmp (fun x y => decide (y ≤ x)) 28 17), (17, a_aload 0 18), (18, a_getR 9 36 0 21), (21, a_push 4 22), (22, a_iload 1 23), (23, a_bin (fun x y => x + y) 24), (24, a_ald 0 25), (25, a_goto 35), (28, a_aload 0 29), (29, a_iload 1 30), (30, a_push 2 31), (31, a_bin (fun x y => x - y) 32), (32, a_callO 9 36 125 1 35), (35, a_iret)]
set_option maxRecDepth 20000 in
theorem ol_M_sky : okall B sp D cA (SPf B sp Ls xs adK adV) MT ⟨"WreckSkyModel", "sky", "(I)I"⟩ prog_11_method_36_code 2 (Option.some Jvm.ClassFile.FieldType.int) (pl_M_sky) := by
  unfold pl_M_sky
  exact
    okc (ok_iload_n (k := 1) (by decide +kernel) rfl rfl) (
    okc (ok_iconst (n := 0) (by decide +kernel) rfl rfl) (
    okc (ok_iconst (n := 5) (by decide +kernel) rfl rfl) (
    okc (ok_callS (SPf_ok _ _ _ _ _ _) (mi := 97) (n := 3) (idx := 84) rfl m_M_in (by decide) w_1106 w_1107 (by decide +kernel) rfl) (
    okc (ok_if_ne (off := 6) (by decide +kernel) rfl rfl) (
    okc (ok_ldc (i := 100) w_1112 (by decide +kernel) rfl) (
    okc (ok_iret rfl (by decide +kernel)) (
    okc (ok_iload_n (k := 1) (by decide +kernel) rfl rfl) (
    okc (ok_iconst (n := 3) (by decide +kernel) rfl rfl) (
    okc (ok_cmp_ge (off := 14) (by decide +kernel) rfl rfl) (
    okc (ok_aload_n (k := 0) (by decide +kernel) rfl rfl) (
    okc (ok_getR (k := 0) (idx := 9) cX9_ok (by decide) (by decide +kernel) w_991 (by decide +kernel) rfl) (
    okc (ok_iconst (n := 4) (by decide +kernel) rfl rfl) (
    okc (ok_iload_n (k := 1) (by decide +kernel) rfl rfl) (
    okc (ok_iadd (by decide +kernel) rfl) (
    okc (ok_iald (by decide +kernel) rfl) (
    okc (ok_goto (off := 10) (by decide +kernel) rfl) (
    okc (ok_aload_n (k := 0) (by decide +kernel) rfl rfl) (
    okc (ok_iload_n (k := 1) (by decide +kernel) rfl rfl) (
    okc (ok_iconst (n := 2) (by decide +kernel) rfl rfl) (
    okc (ok_isub (by decide +kernel) rfl) (
    okc (ok_callV (SPf_ok _ _ _ _ _ _) (mi := 125) (n := 1) (idx := 168) rfl m_M_ups (by decide) cX9_ok w_1245 w_1247 w_38 (by decide +kernel) rfl) (
    okc (ok_iret rfl (by decide +kernel)) ( okn)))))))))))))))))))))))
def pl_W_behind : List (Nat × mA) := [(0, a_iload 1 1), (1, a_push 0 2), (2, a_push 100 4), (4, a_call 94 3 7), (7, a_if (fun x => decide (x = 0)) 27 10), (10, a_iload 2 11), (11, a_push 0 12), (12, a_push 2 13), (13, a_aload 0 14), (14, a_getR 8 10 0 17), (17, a_getI 3 11 3 20), (20, a_bin (fun x y => x + y) 21), (21, a_call 94 3 24), (24, a_if (fun x => decide (x ≠ 0)) 30 27), (27, a_push (-1000000001) 29), (29, a_iret), (30, a_aload 0 31), (31, a_getR 8 10 2 34), (34, a_aload 0 35), (35, a_getR 8 10 0 38), (38, a_iload 1 39), (39, a_callO 0 5 126 2 42), (42, a_astore 3 43), (43, a_iload 2 44), (44, a_sw (t_sw 0 [72, 77, 82] 90)), (72, a_aload 3 73), (73, a_getI 3 11 6 76), (76, a_iret), (77, a_aload 3 78), (78, a_getI 3 11 7 81), (81, a_iret), (82, a_aload 3 83), (83, a_callO 3 11 122 0 86), (86, a_call 127 1 89), (89, a_iret), (90, a_aload 3 91), (91, a_getR 3 11 0 94), (94, a_iload 2 95), (95, a_push 3 96), (96, a_bin (fun x y => x - y) 97), (97, a_aald 4 98), (98, a_getI 7 6 2 101), (101, a_iret)]
set_option maxRecDepth 20000 in
theorem ol_W_behind : okall B sp D cA (SPf B sp Ls xs adK adV) MT ⟨"WreckSky", "behind", "(II)I"⟩ prog_1_method_14_code 4 (Option.some Jvm.ClassFile.FieldType.int) (pl_W_behind) := by
  unfold pl_W_behind
  exact
    okc (ok_iload_n (k := 1) (by decide +kernel) rfl rfl) (
    okc (ok_iconst (n := 0) (by decide +kernel) rfl rfl) (
    okc (ok_bipush (n := 100) (by decide +kernel) (by decide +kernel) rfl) (
    okc (ok_callS (SPf_ok _ _ _ _ _ _) (mi := 94) (n := 3) (idx := 72) rfl m_W_within (by decide) w_351 w_352 (by decide +kernel) rfl) (
    okc (ok_if_eq (off := 20) (by decide +kernel) rfl rfl) (
    okc (ok_iload_n (k := 2) (by decide +kernel) rfl rfl) (
    okc (ok_iconst (n := 0) (by decide +kernel) rfl rfl) (
    okc (ok_iconst (n := 2) (by decide +kernel) rfl rfl) (
    okc (ok_aload_n (k := 0) (by decide +kernel) rfl rfl) (
    okc (ok_getR (k := 0) (idx := 10) cX8_ok (by decide) (by decide +kernel) w_313 (by decide +kernel) rfl) (
    okc (ok_getI (k := 3) (idx := 84) cX3_ok (by decide) (by decide +kernel) w_142 (by decide +kernel) rfl) (
    okc (ok_iadd (by decide +kernel) rfl) (
    okc (ok_callS (SPf_ok _ _ _ _ _ _) (mi := 94) (n := 3) (idx := 72) rfl m_W_within (by decide) w_351 w_352 (by decide +kernel) rfl) (
    okc (ok_if_ne (off := 6) (by decide +kernel) rfl rfl) (
    okc (ok_ldc (i := 79) w_357 (by decide +kernel) rfl) (
    okc (ok_iret rfl (by decide +kernel)) (
    okc (ok_aload_n (k := 0) (by decide +kernel) rfl rfl) (
    okc (ok_getR (k := 2) (idx := 22) cX8_ok (by decide) (by decide +kernel) w_315 (by decide +kernel) rfl) (
    okc (ok_aload_n (k := 0) (by decide +kernel) rfl rfl) (
    okc (ok_getR (k := 0) (idx := 10) cX8_ok (by decide) (by decide +kernel) w_313 (by decide +kernel) rfl) (
    okc (ok_iload_n (k := 1) (by decide +kernel) rfl rfl) (
    okc (ok_callV (SPf_ok _ _ _ _ _ _) (mi := 126) (n := 2) (idx := 179) rfl m_F_behindHours (by decide) cX0_ok w_516 w_517 w_518 (by decide +kernel) rfl) (
    okc (ok_astore_n (k := 3) (by decide +kernel) rfl rfl) (
    okc (ok_iload_n (k := 2) (by decide +kernel) rfl rfl) (
    okc (ok_tab (dflt := 46) (lo := 0) (hi := 2) (offs := #[28, 33, 38]) (len := 28) (by decide +kernel) rfl rfl rfl) (
    okc (ok_aload_n (k := 3) (by decide +kernel) rfl rfl) (
    okc (ok_getI (k := 6) (idx := 160) cX3_ok (by decide) (by decide +kernel) w_150 (by decide +kernel) rfl) (
    okc (ok_iret rfl (by decide +kernel)) (
    okc (ok_aload_n (k := 3) (by decide +kernel) rfl rfl) (
    okc (ok_getI (k := 7) (idx := 167) cX3_ok (by decide) (by decide +kernel) w_152 (by decide +kernel) rfl) (
    okc (ok_iret rfl (by decide +kernel)) (
    okc (ok_aload_n (k := 3) (by decide +kernel) rfl rfl) (
    okc (ok_callV (SPf_ok _ _ _ _ _ _) (mi := 122) (n := 0) (idx := 170) rfl m_S_upSet (by decide) cX3_ok w_500 w_501 w_502 (by decide +kernel) rfl) (
    okc (ok_callS (SPf_ok _ _ _ _ _ _) (mi := 127) (n := 1) (idx := 183) rfl m_JInteger_bitCount (by decide) w_529 w_530 (by decide +kernel) rfl) (
    okc (ok_iret rfl (by decide +kernel)) (
    okc (ok_aload_n (k := 3) (by decide +kernel) rfl rfl) (
    okc (ok_getR (k := 0) (idx := 91) cX3_ok (by decide) (by decide +kernel) w_135 (by decide +kernel) rfl) (
    okc (ok_iload_n (k := 2) (by decide +kernel) rfl rfl) (
    okc (ok_iconst (n := 3) (by decide +kernel) rfl rfl) (
    okc (ok_isub (by decide +kernel) rfl) (
    okc (ok_aald (C := "WreckSky$Wreck") (by decide) (fun _ => rfl) (by decide +kernel) rfl) (
    okc (ok_getI (k := 2) (idx := 103) cX7_ok (by decide) (by decide +kernel) w_106 (by decide +kernel) rfl) (
    okc (ok_iret rfl (by decide +kernel)) ( okn)))))))))))))))))))))))))))))))))))))))))))
end PR

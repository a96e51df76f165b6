section PR
variable {B : Nat} {sp : Nat → Value} {D : va_G} {cA : Nat → ClassId} {Ls : Nat} {xs : Nat → Int32} {adK adV : Nat → Nat}
def pl_F_chooseSeen_1 : List (Nat × mA) := [(0, a_aload 0 1), (1, a_getR 0 5 0 4), (4, a_aload 1 5), (5, a_callO 3 11 172 1 8), (8, a_aload 0 9), (9, a_getR 0 5 2 12), (12, a_push 0 13), (13, a_call 182 2 16), (16, a_push 0 17), (17, a_istore 3 18), (18, a_iload 3 19), (19, a_aload 2 20), (20, a_getI 2 3 2 23), (23, a_cmp (fun x y => decide (y ≤ x)) 107 26), (26, a_iload 3 27), (27, a_if (fun x => decide (x ≤ 0)) 38 30), (30, a_aload 0 31), (31, a_getR 0 5 0 34), (34, a_push 1 35), (35, a_callO 3 11 119 1 38), (38, a_push 0 39), (39, a_istore 4 41), (41, a_iload 4 43), (43, a_aload 1 44), (44, a_getI 3 11 3 47), (47, a_cmp (fun x y => decide (y ≤ x)) 101 50), (50, a_aload 2 51), (51, a_iload 3 52), (52, a_callO 2 3 162 1 55), (55, a_if (fun x => decide (x = 0)) 101 58), (58, a_aload 0 59), (59, a_getR 0 5 2 62), (62, a_iload 4 64), (64, a_dup2 65), (65, a_ald 0 66), (66, a_aload 0 67), (67, a_getR 0 5 0 70), (70, a_getR 3 11 0 73), (73, a_iload 4 75), (75, a_aald 4 76), (76, a_getI 7 6 2 79), (79, a_aload 2 80), (80, a_getR 2 3 0 83), (83, a_iload 3 84), (84, a_ald 0 85), (85, a_push 30 87), (87, a_call 188 2 90), (90, a_call 189 2 93), (93, a_bin (fun x y => x + y) 94), (94, a_ast 0 (fun x => x) 95), (95, a_iinc 4 1 98), (98, a_goto 41), (101, a_iinc 3 1 104), (104, a_goto 18), (107, a_aload 0 108), (108, a_callO 0 5 184 0 111), (111, a_push 0 112), (112, a_istore 3 113), (113, a_iload 3 114), (114, a_aload 1 115)]
set_option maxRecDepth 20000 in
theorem ol_F_chooseSeen_1 : okall B sp D cA (SPf B sp Ls xs adK adV) MT ⟨"WreckSky$Foresight", "chooseSeen", "(LWreckSky$Sky;LWreckSky$Sheet;)V"⟩ prog_2_method_15_code 5 (Option.none : Option Jvm.ClassFile.FieldType) (pl_F_chooseSeen_1) := by
  unfold pl_F_chooseSeen_1
  exact
    okc (ok_aload_n (k := 0) (by decide +kernel) rfl rfl) (
    okc (ok_getR (k := 0) (idx := 12) cX0_ok (by decide) (by decide +kernel) w_191 (by decide +kernel) rfl) (
    okc (ok_aload_n (k := 1) (by decide +kernel) rfl rfl) (
    okc (ok_callV (SPf_ok _ _ _ _ _ _) (mi := 172) (n := 1) (idx := 33) rfl m_S_becomeAs (by decide) cX3_ok w_520 w_521 w_522 (by decide +kernel) rfl) (
    okc (ok_aload_n (k := 0) (by decide +kernel) rfl rfl) (
    okc (ok_getR (k := 2) (idx := 22) cX0_ok (by decide) (by decide +kernel) w_193 (by decide +kernel) rfl) (
    okc (ok_iconst (n := 0) (by decide +kernel) rfl rfl) (
    okc (ok_callS (SPf_ok _ _ _ _ _ _) (mi := 182) (n := 2) (idx := 44) rfl m_JArrays_fill (by decide) w_551 w_552 (by decide +kernel) rfl) (
    okc (ok_iconst (n := 0) (by decide +kernel) rfl rfl) (
    okc (ok_istore_n (k := 3) (by decide +kernel) rfl rfl) (
    okc (ok_iload_n (k := 3) (by decide +kernel) rfl rfl) (
    okc (ok_aload_n (k := 2) (by decide +kernel) rfl rfl) (
    okc (ok_getI (k := 2) (idx := 103) cX2_ok (by decide) (by decide +kernel) w_278 (by decide +kernel) rfl) (
    okc (ok_cmp_ge (off := 84) (by decide +kernel) rfl rfl) (
    okc (ok_iload_n (k := 3) (by decide +kernel) rfl rfl) (
    okc (ok_if_le (off := 11) (by decide +kernel) rfl rfl) (
    okc (ok_aload_n (k := 0) (by decide +kernel) rfl rfl) (
    okc (ok_getR (k := 0) (idx := 12) cX0_ok (by decide) (by decide +kernel) w_191 (by decide +kernel) rfl) (
    okc (ok_iconst (n := 1) (by decide +kernel) rfl rfl) (
    okc (ok_callV (SPf_ok _ _ _ _ _ _) (mi := 119) (n := 1) (idx := 37) rfl m_S_passHours (by decide) cX3_ok w_528 w_471 w_472 (by decide +kernel) rfl) (
    okc (ok_iconst (n := 0) (by decide +kernel) rfl rfl) (
    okc (ok_istore (by decide +kernel) rfl) (
    okc (ok_iload (by decide +kernel) rfl) (
    okc (ok_aload_n (k := 1) (by decide +kernel) rfl rfl) (
    okc (ok_getI (k := 3) (idx := 53) cX3_ok (by decide) (by decide +kernel) w_143 (by decide +kernel) rfl) (
    okc (ok_cmp_ge (off := 54) (by decide +kernel) rfl rfl) (
    okc (ok_aload_n (k := 2) (by decide +kernel) rfl rfl) (
    okc (ok_iload_n (k := 3) (by decide +kernel) rfl rfl) (
    okc (ok_callV (SPf_ok _ _ _ _ _ _) (mi := 162) (n := 1) (idx := 108) rfl m_H_hasNumber (by decide) cX2_ok w_642 w_643 w_644 (by decide +kernel) rfl) (
    okc (ok_if_eq (off := 46) (by decide +kernel) rfl rfl) (
    okc (ok_aload_n (k := 0) (by decide +kernel) rfl rfl) (
    okc (ok_getR (k := 2) (idx := 22) cX0_ok (by decide) (by decide +kernel) w_193 (by decide +kernel) rfl) (
    okc (ok_iload (by decide +kernel) rfl) (
    okc (ok_dup2 (by decide +kernel) rfl) (
    okc (ok_iald (by decide +kernel) rfl) (
    okc (ok_aload_n (k := 0) (by decide +kernel) rfl rfl) (
    okc (ok_getR (k := 0) (idx := 12) cX0_ok (by decide) (by decide +kernel) w_191 (by decide +kernel) rfl) (
    okc (ok_getR (k := 0) (idx := 56) cX3_ok (by decide) (by decide +kernel) w_136 (by decide +kernel) rfl) (
    okc (ok_iload (by decide +kernel) rfl) (
    okc (ok_aald (C := "WreckSky$Wreck") (by decide) (fun _ => rfl) (by decide +kernel) rfl) (
    okc (ok_getI (k := 2) (idx := 73) cX7_ok (by decide) (by decide +kernel) w_108 (by decide +kernel) rfl) (
    okc (ok_aload_n (k := 2) (by decide +kernel) rfl rfl) (
    okc (ok_getR (k := 0) (idx := 112) cX2_ok (by decide) (by decide +kernel) w_273 (by decide +kernel) rfl) (
    okc (ok_iload_n (k := 3) (by decide +kernel) rfl rfl) (
    okc (ok_iald (by decide +kernel) rfl) (
    okc (ok_bipush (n := 30) (by decide +kernel) (by decide +kernel) rfl) (
    okc (ok_callS (SPf_ok _ _ _ _ _ _) (mi := 188) (n := 2) (idx := 115) rfl m_JMath_floorMod (by decide) w_652 w_480 (by decide +kernel) rfl) (
    okc (ok_callN (SPf_ok _ _ _ _ _ _) (mi := 189) (n := 2) (idx := 100) rfl m_W_wayRound (by decide) (fun _ h => h.2.2.2.2.2.2.2.2.2.1) w_620 (by decide +kernel) rfl) (
    okc (ok_iadd (by decide +kernel) rfl) (
    okc (ok_iast (by decide +kernel) rfl) (
    okc (ok_iinc (n := 1) (by decide +kernel) rfl rfl) (
    okc (ok_goto (off := -57) (by decide +kernel) rfl) (
    okc (ok_iinc (n := 1) (by decide +kernel) rfl rfl) (
    okc (ok_goto (off := -86) (by decide +kernel) rfl) (
    okc (ok_aload_n (k := 0) (by decide +kernel) rfl rfl) (
    okc (ok_callV (SPf_ok _ _ _ _ _ _) (mi := 184) (n := 0) (idx := 76) rfl m_F_chooseNone (by decide) cX0_ok w_575 w_577 w_5 (by decide +kernel) rfl) (
    okc (ok_iconst (n := 0) (by decide +kernel) rfl rfl) (
    okc (ok_istore_n (k := 3) (by decide +kernel) rfl rfl) (
    okc (ok_iload_n (k := 3) (by decide +kernel) rfl rfl) (
    okc (ok_aload_n (k := 1) (by decide +kernel) rfl rfl) ( okn))))))))))))))))))))))))))))))))))))))))))))))))))))))))))))
def pl_F_chooseSeen_2 : List (Nat × mA) := [(115, a_getI 3 11 3 118), (118, a_cmp (fun x y => decide (y ≤ x)) 138 121), (121, a_aload 0 122), (122, a_iload 3 123), (123, a_aload 0 124), (124, a_getR 0 5 2 127), (127, a_iload 3 128), (128, a_ald 0 129), (129, a_callO 0 5 185 2 132), (132, a_iinc 3 1 135), (135, a_goto 113), (138, a_ret)]
set_option maxRecDepth 20000 in
theorem ol_F_chooseSeen_2 : okall B sp D cA (SPf B sp Ls xs adK adV) MT ⟨"WreckSky$Foresight", "chooseSeen", "(LWreckSky$Sky;LWreckSky$Sheet;)V"⟩ prog_2_method_15_code 5 (Option.none : Option Jvm.ClassFile.FieldType) (pl_F_chooseSeen_2) := by
  unfold pl_F_chooseSeen_2
  exact
    okc (ok_getI (k := 3) (idx := 53) cX3_ok (by decide) (by decide +kernel) w_143 (by decide +kernel) rfl) (
    okc (ok_cmp_ge (off := 20) (by decide +kernel) rfl rfl) (
    okc (ok_aload_n (k := 0) (by decide +kernel) rfl rfl) (
    okc (ok_iload_n (k := 3) (by decide +kernel) rfl rfl) (
    okc (ok_aload_n (k := 0) (by decide +kernel) rfl rfl) (
    okc (ok_getR (k := 2) (idx := 22) cX0_ok (by decide) (by decide +kernel) w_193 (by decide +kernel) rfl) (
    okc (ok_iload_n (k := 3) (by decide +kernel) rfl rfl) (
    okc (ok_iald (by decide +kernel) rfl) (
    okc (ok_callV (SPf_ok _ _ _ _ _ _) (mi := 185) (n := 2) (idx := 79) rfl m_F_chooseIfLess (by decide) cX0_ok w_579 w_581 w_6 (by decide +kernel) rfl) (
    okc (ok_iinc (n := 1) (by decide +kernel) rfl rfl) (
    okc (ok_goto (off := -22) (by decide +kernel) rfl) (
    okc (ok_ret rfl (by decide +kernel)) ( okn))))))))))))
def pl_F_chooseSeen : List (Nat × mA) := pl_F_chooseSeen_1 ++ (pl_F_chooseSeen_2)
theorem ol_F_chooseSeen : okall B sp D cA (SPf B sp Ls xs adK adV) MT ⟨"WreckSky$Foresight", "chooseSeen", "(LWreckSky$Sky;LWreckSky$Sheet;)V"⟩ prog_2_method_15_code 5 (Option.none : Option Jvm.ClassFile.FieldType) (pl_F_chooseSeen) := oka ol_F_chooseSeen_1 (ol_F_chooseSeen_2)
def pl_M_isSheet : List (Nat × mA) := [(0, a_iload 0 1), (1, a_push 0 2), (2, a_push 3 3), (3, a_call 97 3 6), (6, a_zret)]
set_option maxRecDepth 20000 in
theorem ol_M_isSheet : okall B sp D cA (SPf B sp Ls xs adK adV) MT ⟨"WreckSkyModel", "isSheet", "(I)Z"⟩ prog_11_method_74_code 1 (Option.some Jvm.ClassFile.FieldType.boolean) (pl_M_isSheet) := by
  unfold pl_M_isSheet
  exact
    okc (ok_iload_n (k := 0) (by decide +kernel) rfl rfl) (
    okc (ok_iconst (n := 0) (by decide +kernel) rfl rfl) (
    okc (ok_iconst (n := 3) (by decide +kernel) rfl rfl) (
    okc (ok_callS (SPf_ok _ _ _ _ _ _) (mi := 97) (n := 3) (idx := 84) rfl m_M_in (by decide) w_1106 w_1107 (by decide +kernel) rfl) (
    okc (ok_zret rfl (by decide +kernel)) ( okn)))))
def pl_M_round : List (Nat × mA) := [(0, a_iload 0 1), (1, a_push 30 3), (3, a_div (fun x y => x - x / y * y) 4), (4, a_istore 1 5), (5, a_iload 1 6), (6, a_if (fun x => decide (0 ≤ x)) 16 9), (9, a_iload 1 10), (10, a_push 30 12), (12, a_bin (fun x y => x + y) 13), (13, a_goto 17), (16, a_iload 1 17), (17, a_iret)]
set_option maxRecDepth 20000 in
theorem ol_M_round : okall B sp D cA (SPf B sp Ls xs adK adV) MT ⟨"WreckSkyModel", "round", "(I)I"⟩ prog_11_method_4_code 2 (Option.some Jvm.ClassFile.FieldType.int) (pl_M_round) := by
  unfold pl_M_round
  exact
    okc (ok_iload_n (k := 0) (by decide +kernel) rfl rfl) (
    okc (ok_bipush (n := 30) (by decide +kernel) (by decide +kernel) rfl) (
    okc (ok_irem (by decide +kernel) rfl) (
    okc (ok_istore_n (k := 1) (by decide +kernel) rfl rfl) (
    okc (ok_iload_n (k := 1) (by decide +kernel) rfl rfl) (
    okc (ok_if_ge (off := 10) (by decide +kernel) rfl rfl) (
    okc (ok_iload_n (k := 1) (by decide +kernel) rfl rfl) (
    okc (ok_bipush (n := 30) (by decide +kernel) (by decide +kernel) rfl) (
    okc (ok_iadd (by decide +kernel) rfl) (
    okc (ok_goto (off := 4) (by decide +kernel) rfl) (
    okc (ok_iload_n (k := 1) (by decide +kernel) rfl rfl) (
    okc (ok_iret rfl (by decide +kernel)) ( okn))))))))))))
def pl_M_apart : List (Nat × mA) := [(0, a_iload 0 1), (1, a_iload 1 2), (2, a_bin (fun x y => x - y) 3), (3, a_call 147 1 6), (6, a_istore 2 7), (7, a_iload 2 8), (8, a_push 30 10), (10, a_iload 2 11), (11, a_bin (fun x y => x - y) 12), (12, a_cmp (fun x y => decide (x ≤ y)) 22 15), (15, a_push 30 17), (17, a_iload 2 18), (18, a_bin (fun x y => x - y) 19), (19, a_goto 23), (22, a_iload 2 23), (23, a_iret)]
set_option maxRecDepth 20000 in
theorem ol_M_apart : okall B sp D cA (SPf B sp Ls xs adK adV) MT ⟨"WreckSkyModel", "apart", "(II)I"⟩ prog_11_method_49_code 3 (Option.some Jvm.ClassFile.FieldType.int) (pl_M_apart) := by
  unfold pl_M_apart
  exact
    okc (ok_iload_n (k := 0) (by decide +kernel) rfl rfl) (
    okc (ok_iload_n (k := 1) (by decide +kernel) rfl rfl) (
    okc (ok_isub (by decide +kernel) rfl) (
    okc (ok_callS (SPf_ok _ _ _ _ _ _) (mi := 147) (n := 1) (idx := 149) rfl m_M_round (by decide) w_1226 w_1227 (by decide +kernel) rfl) (
    okc (ok_istore_n (k := 2) (by decide +kernel) rfl rfl) (
    okc (ok_iload_n (k := 2) (by decide +kernel) rfl rfl) (
    okc (ok_bipush (n := 30) (by decide +kernel) (by decide +kernel) rfl) (
    okc (ok_iload_n (k := 2) (by decide +kernel) rfl rfl) (
    okc (ok_isub (by decide +kernel) rfl) (
    okc (ok_cmp_le (off := 10) (by decide +kernel) rfl rfl) (
    okc (ok_bipush (n := 30) (by decide +kernel) (by decide +kernel) rfl) (
    okc (ok_iload_n (k := 2) (by decide +kernel) rfl rfl) (
    okc (ok_isub (by decide +kernel) rfl) (
    okc (ok_goto (off := 4) (by decide +kernel) rfl) (
    okc (ok_iload_n (k := 2) (by decide +kernel) rfl rfl) (
    okc (ok_iret rfl (by decide +kernel)) ( okn))))))))))))))))
def pl_S_textFor : List (Nat × mA) := [(0, a_aload 0 1), (1, a_getI 3 11 4 4), (4, a_push 1 5), (5, a_bin (fun x y => x - y) 6), (6, a_istore 2 7), (7, a_iload 2 8), (8, a_if (fun x => decide (x < 0)) 32 11), (11, a_aload 0 12), (12, a_getR 3 11 1 15), (15, a_iload 2 16), (16, a_aald 5 17), (17, a_getI 6 3 0 20), (20, a_iload 1 21), (21, a_cmp (fun x y => decide (x ≠ y)) 26 24), (24, a_iload 2 25), (25, a_iret), (26, a_iinc 2 (-1) 29), (29, a_goto 7), (32, a_push (-1) 33), (33, a_iret)]
set_option maxRecDepth 20000 in
theorem ol_S_textFor : okall B sp D cA (SPf B sp Ls xs adK adV) MT ⟨"WreckSky$Sky", "textFor", "(I)I"⟩ prog_5_method_6_code 3 (Option.some Jvm.ClassFile.FieldType.int) (pl_S_textFor) := by
  unfold pl_S_textFor
  exact
    okc (ok_aload_n (k := 0) (by decide +kernel) rfl rfl) (
    okc (ok_getI (k := 4) (idx := 31) cX3_ok (by decide) (by decide +kernel) w_144 (by decide +kernel) rfl) (
    okc (ok_iconst (n := 1) (by decide +kernel) rfl rfl) (
    okc (ok_isub (by decide +kernel) rfl) (
    okc (ok_istore_n (k := 2) (by decide +kernel) rfl rfl) (
    okc (ok_iload_n (k := 2) (by decide +kernel) rfl rfl) (
    okc (ok_if_lt (off := 24) (by decide +kernel) rfl rfl) (
    okc (ok_aload_n (k := 0) (by decide +kernel) rfl rfl) (
    okc (ok_getR (k := 1) (idx := 19) cX3_ok (by decide) (by decide +kernel) w_137 (by decide +kernel) rfl) (
    okc (ok_iload_n (k := 2) (by decide +kernel) rfl rfl) (
    okc (ok_aald (C := "WreckSky$Text") (by decide) (fun _ => rfl) (by decide +kernel) rfl) (
    okc (ok_getI (k := 0) (idx := 80) cX6_ok (by decide) (by decide +kernel) w_865 (by decide +kernel) rfl) (
    okc (ok_iload_n (k := 1) (by decide +kernel) rfl rfl) (
    okc (ok_cmp_ne (off := 5) (by decide +kernel) rfl rfl) (
    okc (ok_iload_n (k := 2) (by decide +kernel) rfl rfl) (
    okc (ok_iret rfl (by decide +kernel)) (
    okc (ok_iinc (n := (-1)) (by decide +kernel) rfl rfl) (
    okc (ok_goto (off := -22) (by decide +kernel) rfl) (
    okc (ok_iconst (n := -1) (by decide +kernel) rfl rfl) (
    okc (ok_iret rfl (by decide +kernel)) ( okn))))))))))))))))))))
def pl_X_valueOf_1 : List (Nat × mA) := [(0, a_push 0 1), (1, a_istore 5 3), (3, a_push 0 4), (4, a_istore 6 6), (6, a_iload 6 8), (8, a_aload 0 9), (9, a_getR 6 3 2 12), (12, a_alen 0 13), (13, a_cmp (fun x y => decide (y ≤ x)) 137 16), (16, a_iload 5 18), (18, a_aload 4 20), (20, a_alen 0 21), (21, a_cmp (fun x y => decide (y ≤ x)) 137 24), (24, a_aload 0 25), (25, a_getR 6 3 2 28), (28, a_iload 6 30), (30, a_ald 0 31), (31, a_istore 7 33), (33, a_iload 7 35), (35, a_push (-3) 37), (37, a_cmp (fun x y => decide (x < y)) 59 40), (40, a_aload 4 42), (42, a_iload 5 44), (44, a_iload 7 46), (46, a_iload 1 47), (47, a_iload 2 48), (48, a_iload 3 49), (49, a_call 190 4 52), (52, a_ast 0 (fun x => x) 53), (53, a_iinc 5 1 56), (56, a_goto 131), (59, a_iload 7 61), (61, a_push (-33) 63), (63, a_cmp (fun x y => decide (x ≠ y)) 97 66), (66, a_iload 5 68), (68, a_push 1 69), (69, a_cmp (fun x y => decide (x < y)) 131 72), (72, a_aload 4 74), (74, a_iload 5 76), (76, a_push 1 77), (77, a_bin (fun x y => x - y) 78), (78, a_aload 4 80), (80, a_iload 5 82), (82, a_push 1 83), (83, a_bin (fun x y => x - y) 84), (84, a_ald 0 85), (85, a_if (fun x => decide (x ≠ 0)) 92 88), (88, a_push 1 89), (89, a_goto 93), (92, a_push 0 93), (93, a_ast 0 (fun x => x) 94), (94, a_goto 131), (97, a_iload 5 99), (99, a_push 2 100), (100, a_cmp (fun x y => decide (x < y)) 131 103), (103, a_iinc 5 (-1) 106), (106, a_aload 4 108), (108, a_iload 5 110), (110, a_push 1 111), (111, a_bin (fun x y => x - y) 112)]
set_option maxRecDepth 20000 in
theorem ol_X_valueOf_1 : okall B sp D cA (SPf B sp Ls xs adK adV) MT ⟨"WreckSky$Text", "valueOf", "(III[I)I"⟩ prog_8_method_2_code 8 (Option.some Jvm.ClassFile.FieldType.int) (pl_X_valueOf_1) := by
  unfold pl_X_valueOf_1
  exact
    okc (ok_iconst (n := 0) (by decide +kernel) rfl rfl) (
    okc (ok_istore (by decide +kernel) rfl) (
    okc (ok_iconst (n := 0) (by decide +kernel) rfl rfl) (
    okc (ok_istore (by decide +kernel) rfl) (
    okc (ok_iload (by decide +kernel) rfl) (
    okc (ok_aload_n (k := 0) (by decide +kernel) rfl rfl) (
    okc (ok_getR (k := 2) (idx := 16) cX6_ok (by decide) (by decide +kernel) w_869 (by decide +kernel) rfl) (
    okc (ok_alen (by decide) (by decide +kernel) rfl) (
    okc (ok_cmp_ge (off := 124) (by decide +kernel) rfl rfl) (
    okc (ok_iload (by decide +kernel) rfl) (
    okc (ok_aload (by decide +kernel) rfl) (
    okc (ok_alen (by decide) (by decide +kernel) rfl) (
    okc (ok_cmp_ge (off := 116) (by decide +kernel) rfl rfl) (
    okc (ok_aload_n (k := 0) (by decide +kernel) rfl rfl) (
    okc (ok_getR (k := 2) (idx := 16) cX6_ok (by decide) (by decide +kernel) w_869 (by decide +kernel) rfl) (
    okc (ok_iload (by decide +kernel) rfl) (
    okc (ok_iald (by decide +kernel) rfl) (
    okc (ok_istore (by decide +kernel) rfl) (
    okc (ok_iload (by decide +kernel) rfl) (
    okc (ok_bipush (n := -3) (by decide +kernel) (by decide +kernel) rfl) (
    okc (ok_cmp_lt (off := 22) (by decide +kernel) rfl rfl) (
    okc (ok_aload (by decide +kernel) rfl) (
    okc (ok_iload (by decide +kernel) rfl) (
    okc (ok_iload (by decide +kernel) rfl) (
    okc (ok_iload_n (k := 1) (by decide +kernel) rfl rfl) (
    okc (ok_iload_n (k := 2) (by decide +kernel) rfl rfl) (
    okc (ok_iload_n (k := 3) (by decide +kernel) rfl rfl) (
    okc (ok_callS (SPf_ok _ _ _ _ _ _) (mi := 190) (n := 4) (idx := 20) rfl m_X_operand (by decide) w_384 w_385 (by decide +kernel) rfl) (
    okc (ok_iast (by decide +kernel) rfl) (
    okc (ok_iinc (n := 1) (by decide +kernel) rfl rfl) (
    okc (ok_goto (off := 75) (by decide +kernel) rfl) (
    okc (ok_iload (by decide +kernel) rfl) (
    okc (ok_bipush (n := -33) (by decide +kernel) (by decide +kernel) rfl) (
    okc (ok_cmp_ne (off := 34) (by decide +kernel) rfl rfl) (
    okc (ok_iload (by decide +kernel) rfl) (
    okc (ok_iconst (n := 1) (by decide +kernel) rfl rfl) (
    okc (ok_cmp_lt (off := 62) (by decide +kernel) rfl rfl) (
    okc (ok_aload (by decide +kernel) rfl) (
    okc (ok_iload (by decide +kernel) rfl) (
    okc (ok_iconst (n := 1) (by decide +kernel) rfl rfl) (
    okc (ok_isub (by decide +kernel) rfl) (
    okc (ok_aload (by decide +kernel) rfl) (
    okc (ok_iload (by decide +kernel) rfl) (
    okc (ok_iconst (n := 1) (by decide +kernel) rfl rfl) (
    okc (ok_isub (by decide +kernel) rfl) (
    okc (ok_iald (by decide +kernel) rfl) (
    okc (ok_if_ne (off := 7) (by decide +kernel) rfl rfl) (
    okc (ok_iconst (n := 1) (by decide +kernel) rfl rfl) (
    okc (ok_goto (off := 4) (by decide +kernel) rfl) (
    okc (ok_iconst (n := 0) (by decide +kernel) rfl rfl) (
    okc (ok_iast (by decide +kernel) rfl) (
    okc (ok_goto (off := 37) (by decide +kernel) rfl) (
    okc (ok_iload (by decide +kernel) rfl) (
    okc (ok_iconst (n := 2) (by decide +kernel) rfl rfl) (
    okc (ok_cmp_lt (off := 31) (by decide +kernel) rfl rfl) (
    okc (ok_iinc (n := (-1)) (by decide +kernel) rfl rfl) (
    okc (ok_aload (by decide +kernel) rfl) (
    okc (ok_iload (by decide +kernel) rfl) (
    okc (ok_iconst (n := 1) (by decide +kernel) rfl rfl) (
    okc (ok_isub (by decide +kernel) rfl) ( okn))))))))))))))))))))))))))))))))))))))))))))))))))))))))))))
def pl_X_valueOf_2 : List (Nat × mA) := [(112, a_iload 7 114), (114, a_un (fun x => -x) 115), (115, a_aload 4 117), (117, a_iload 5 119), (119, a_push 1 120), (120, a_bin (fun x y => x - y) 121), (121, a_ald 0 122), (122, a_aload 4 124), (124, a_iload 5 126), (126, a_ald 0 127), (127, a_call 191 3 130), (130, a_ast 0 (fun x => x) 131), (131, a_iinc 6 1 134), (134, a_goto 6), (137, a_iload 5 139), (139, a_if (fun x => decide (x ≤ 0)) 149 142), (142, a_aload 4 144), (144, a_push 0 145), (145, a_ald 0 146), (146, a_goto 150), (149, a_push 0 150), (150, a_iret)]
set_option maxRecDepth 20000 in
theorem ol_X_valueOf_2 : okall B sp D cA (SPf B sp Ls xs adK adV) MT ⟨"WreckSky$Text", "valueOf", "(III[I)I"⟩ prog_8_method_2_code 8 (Option.some Jvm.ClassFile.FieldType.int) (pl_X_valueOf_2) := by
  unfold pl_X_valueOf_2
  exact
    okc (ok_iload (by decide +kernel) rfl) (
    okc (ok_ineg (by decide +kernel) rfl) (
    okc (ok_aload (by decide +kernel) rfl) (
    okc (ok_iload (by decide +kernel) rfl) (
    okc (ok_iconst (n := 1) (by decide +kernel) rfl rfl) (
    okc (ok_isub (by decide +kernel) rfl) (
    okc (ok_iald (by decide +kernel) rfl) (
    okc (ok_aload (by decide +kernel) rfl) (
    okc (ok_iload (by decide +kernel) rfl) (
    okc (ok_iald (by decide +kernel) rfl) (
    okc (ok_callS (SPf_ok _ _ _ _ _ _) (mi := 191) (n := 3) (idx := 24) rfl m_X_joined (by decide) w_387 w_388 (by decide +kernel) rfl) (
    okc (ok_iast (by decide +kernel) rfl) (
    okc (ok_iinc (n := 1) (by decide +kernel) rfl rfl) (
    okc (ok_goto (off := -128) (by decide +kernel) rfl) (
    okc (ok_iload (by decide +kernel) rfl) (
    okc (ok_if_le (off := 10) (by decide +kernel) rfl rfl) (
    okc (ok_aload (by decide +kernel) rfl) (
    okc (ok_iconst (n := 0) (by decide +kernel) rfl rfl) (
    okc (ok_iald (by decide +kernel) rfl) (
    okc (ok_goto (off := 4) (by decide +kernel) rfl) (
    okc (ok_iconst (n := 0) (by decide +kernel) rfl rfl) (
    okc (ok_iret rfl (by decide +kernel)) ( okn))))))))))))))))))))))
def pl_X_valueOf : List (Nat × mA) := pl_X_valueOf_1 ++ (pl_X_valueOf_2)
theorem ol_X_valueOf : okall B sp D cA (SPf B sp Ls xs adK adV) MT ⟨"WreckSky$Text", "valueOf", "(III[I)I"⟩ prog_8_method_2_code 8 (Option.some Jvm.ClassFile.FieldType.int) (pl_X_valueOf) := oka ol_X_valueOf_1 (ol_X_valueOf_2)
def pl_M_counts : List (Nat × mA) := [(0, a_aload 0 1), (1, a_getR 9 36 0 4), (4, a_push 7 6), (6, a_ald 0 7), (7, a_push 1 8), (8, a_bin (fun x y => x - y) 9), (9, a_istore 2 10), (10, a_iload 2 11), (11, a_if (fun x => decide (x < 0)) 41 14), (14, a_aload 0 15), (15, a_getR 9 36 0 18), (18, a_push 92 20), (20, a_push 2 21), (21, a_iload 2 22), (22, a_bin (fun x y => x * y) 23), (23, a_bin (fun x y => x + y) 24), (24, a_ald 0 25), (25, a_push 1000 28), (28, a_div (fun x y => x / y) 29), (29, a_iload 1 30), (30, a_cmp (fun x y => decide (x ≠ y)) 35 33), (33, a_iload 2 34), (34, a_iret), (35, a_iinc 2 (-1) 38), (38, a_goto 10), (41, a_push (-1) 42), (42, a_iret)]
set_option maxRecDepth 20000 in
theorem ol_M_counts : okall B sp D cA (SPf B sp Ls xs adK adV) MT ⟨"WreckSkyModel", "counts", "(I)I"⟩ prog_11_method_70_code 3 (Option.some Jvm.ClassFile.FieldType.int) (pl_M_counts) := by
  unfold pl_M_counts
  exact
    okc (ok_aload_n (k := 0) (by decide +kernel) rfl rfl) (
    okc (ok_getR (k := 0) (idx := 9) cX9_ok (by decide) (by decide +kernel) w_991 (by decide +kernel) rfl) (
    okc (ok_bipush (n := 7) (by decide +kernel) (by decide +kernel) rfl) (
    okc (ok_iald (by decide +kernel) rfl) (
    okc (ok_iconst (n := 1) (by decide +kernel) rfl rfl) (
    okc (ok_isub (by decide +kernel) rfl) (
    okc (ok_istore_n (k := 2) (by decide +kernel) rfl rfl) (
    okc (ok_iload_n (k := 2) (by decide +kernel) rfl rfl) (
    okc (ok_if_lt (off := 30) (by decide +kernel) rfl rfl) (
    okc (ok_aload_n (k := 0) (by decide +kernel) rfl rfl) (
    okc (ok_getR (k := 0) (idx := 9) cX9_ok (by decide) (by decide +kernel) w_991 (by decide +kernel) rfl) (
    okc (ok_bipush (n := 92) (by decide +kernel) (by decide +kernel) rfl) (
    okc (ok_iconst (n := 2) (by decide +kernel) rfl rfl) (
    okc (ok_iload_n (k := 2) (by decide +kernel) rfl rfl) (
    okc (ok_imul (by decide +kernel) rfl) (
    okc (ok_iadd (by decide +kernel) rfl) (
    okc (ok_iald (by decide +kernel) rfl) (
    okc (ok_sipush (n := 1000) (by decide +kernel) (by decide +kernel) rfl) (
    okc (ok_idiv (by decide +kernel) rfl) (
    okc (ok_iload_n (k := 1) (by decide +kernel) rfl rfl) (
    okc (ok_cmp_ne (off := 5) (by decide +kernel) rfl rfl) (
    okc (ok_iload_n (k := 2) (by decide +kernel) rfl rfl) (
    okc (ok_iret rfl (by decide +kernel)) (
    okc (ok_iinc (n := (-1)) (by decide +kernel) rfl rfl) (
    okc (ok_goto (off := -28) (by decide +kernel) rfl) (
    okc (ok_iconst (n := -1) (by decide +kernel) rfl rfl) (
    okc (ok_iret rfl (by decide +kernel)) ( okn)))))))))))))))))))))))))))
def pl_M_worksOut_1 : List (Nat × mA) := [(0, a_push 0 1), (1, a_istore 2 2), (2, a_aload 0 3), (3, a_getR 9 36 0 6), (6, a_push 92 8), (8, a_push 2 9), (9, a_iload 1 10), (10, a_bin (fun x y => x * y) 11), (11, a_bin (fun x y => x + y) 12), (12, a_ald 0 13), (13, a_push 1000 16), (16, a_div (fun x y => x - x / y * y) 17), (17, a_istore 3 18), (18, a_push 0 19), (19, a_istore 4 21), (21, a_iload 4 23), (23, a_iload 3 24), (24, a_cmp (fun x y => decide (y ≤ x)) 155 27), (27, a_aload 0 28), (28, a_getR 9 36 0 31), (31, a_push 120 33), (33, a_push 96 35), (35, a_iload 1 36), (36, a_bin (fun x y => x * y) 37), (37, a_bin (fun x y => x + y) 38), (38, a_iload 4 40), (40, a_bin (fun x y => x + y) 41), (41, a_ald 0 42), (42, a_istore 5 44), (44, a_iload 5 46), (46, a_if (fun x => decide (x < 0)) 85 49), (49, a_aload 0 50), (50, a_getR 9 36 24 53), (53, a_iload 2 54), (54, a_iload 5 56), (56, a_push 10000 59), (59, a_cmp (fun x y => decide (y ≤ x)) 67 62), (62, a_iload 5 64), (64, a_goto 78), (67, a_aload 0 68), (68, a_getR 9 36 25 71), (71, a_iload 5 73), (73, a_push 10000 76), (76, a_bin (fun x y => x - y) 77), (77, a_ald 0 78), (78, a_ast 0 (fun x => x) 79), (79, a_iinc 2 1 82), (82, a_goto 149), (85, a_iload 5 87), (87, a_push (-10) 89), (89, a_cmp (fun x y => decide (x ≠ y)) 119 92), (92, a_aload 0 93), (93, a_getR 9 36 24 96), (96, a_iload 2 97), (97, a_push 1 98), (98, a_bin (fun x y => x - y) 99), (99, a_aload 0 100), (100, a_getR 9 36 24 103), (103, a_iload 2 104), (104, a_push 1 105)]
set_option maxRecDepth 20000 in
theorem ol_M_worksOut_1 : okall B sp D cA (SPf B sp Ls xs adK adV) MT ⟨"WreckSkyModel", "worksOut", "(I)I"⟩ prog_11_method_73_code 6 (Option.some Jvm.ClassFile.FieldType.int) (pl_M_worksOut_1) := by
  unfold pl_M_worksOut_1
  exact
    okc (ok_iconst (n := 0) (by decide +kernel) rfl rfl) (
    okc (ok_istore_n (k := 2) (by decide +kernel) rfl rfl) (
    okc (ok_aload_n (k := 0) (by decide +kernel) rfl rfl) (
    okc (ok_getR (k := 0) (idx := 9) cX9_ok (by decide) (by decide +kernel) w_991 (by decide +kernel) rfl) (
    okc (ok_bipush (n := 92) (by decide +kernel) (by decide +kernel) rfl) (
    okc (ok_iconst (n := 2) (by decide +kernel) rfl rfl) (
    okc (ok_iload_n (k := 1) (by decide +kernel) rfl rfl) (
    okc (ok_imul (by decide +kernel) rfl) (
    okc (ok_iadd (by decide +kernel) rfl) (
    okc (ok_iald (by decide +kernel) rfl) (
    okc (ok_sipush (n := 1000) (by decide +kernel) (by decide +kernel) rfl) (
    okc (ok_irem (by decide +kernel) rfl) (
    okc (ok_istore_n (k := 3) (by decide +kernel) rfl rfl) (
    okc (ok_iconst (n := 0) (by decide +kernel) rfl rfl) (
    okc (ok_istore (by decide +kernel) rfl) (
    okc (ok_iload (by decide +kernel) rfl) (
    okc (ok_iload_n (k := 3) (by decide +kernel) rfl rfl) (
    okc (ok_cmp_ge (off := 131) (by decide +kernel) rfl rfl) (
    okc (ok_aload_n (k := 0) (by decide +kernel) rfl rfl) (
    okc (ok_getR (k := 0) (idx := 9) cX9_ok (by decide) (by decide +kernel) w_991 (by decide +kernel) rfl) (
    okc (ok_bipush (n := 120) (by decide +kernel) (by decide +kernel) rfl) (
    okc (ok_bipush (n := 96) (by decide +kernel) (by decide +kernel) rfl) (
    okc (ok_iload_n (k := 1) (by decide +kernel) rfl rfl) (
    okc (ok_imul (by decide +kernel) rfl) (
    okc (ok_iadd (by decide +kernel) rfl) (
    okc (ok_iload (by decide +kernel) rfl) (
    okc (ok_iadd (by decide +kernel) rfl) (
    okc (ok_iald (by decide +kernel) rfl) (
    okc (ok_istore (by decide +kernel) rfl) (
    okc (ok_iload (by decide +kernel) rfl) (
    okc (ok_if_lt (off := 39) (by decide +kernel) rfl rfl) (
    okc (ok_aload_n (k := 0) (by decide +kernel) rfl rfl) (
    okc (ok_getR (k := 24) (idx := 51) cX9_ok (by decide) (by decide +kernel) w_1015 (by decide +kernel) rfl) (
    okc (ok_iload_n (k := 2) (by decide +kernel) rfl rfl) (
    okc (ok_iload (by decide +kernel) rfl) (
    okc (ok_sipush (n := 10000) (by decide +kernel) (by decide +kernel) rfl) (
    okc (ok_cmp_ge (off := 8) (by decide +kernel) rfl rfl) (
    okc (ok_iload (by decide +kernel) rfl) (
    okc (ok_goto (off := 14) (by decide +kernel) rfl) (
    okc (ok_aload_n (k := 0) (by decide +kernel) rfl rfl) (
    okc (ok_getR (k := 25) (idx := 54) cX9_ok (by decide) (by decide +kernel) w_1016 (by decide +kernel) rfl) (
    okc (ok_iload (by decide +kernel) rfl) (
    okc (ok_sipush (n := 10000) (by decide +kernel) (by decide +kernel) rfl) (
    okc (ok_isub (by decide +kernel) rfl) (
    okc (ok_iald (by decide +kernel) rfl) (
    okc (ok_iast (by decide +kernel) rfl) (
    okc (ok_iinc (n := 1) (by decide +kernel) rfl rfl) (
    okc (ok_goto (off := 67) (by decide +kernel) rfl) (
    okc (ok_iload (by decide +kernel) rfl) (
    okc (ok_bipush (n := -10) (by decide +kernel) (by decide +kernel) rfl) (
    okc (ok_cmp_ne (off := 30) (by decide +kernel) rfl rfl) (
    okc (ok_aload_n (k := 0) (by decide +kernel) rfl rfl) (
    okc (ok_getR (k := 24) (idx := 51) cX9_ok (by decide) (by decide +kernel) w_1015 (by decide +kernel) rfl) (
    okc (ok_iload_n (k := 2) (by decide +kernel) rfl rfl) (
    okc (ok_iconst (n := 1) (by decide +kernel) rfl rfl) (
    okc (ok_isub (by decide +kernel) rfl) (
    okc (ok_aload_n (k := 0) (by decide +kernel) rfl rfl) (
    okc (ok_getR (k := 24) (idx := 51) cX9_ok (by decide) (by decide +kernel) w_1015 (by decide +kernel) rfl) (
    okc (ok_iload_n (k := 2) (by decide +kernel) rfl rfl) (
    okc (ok_iconst (n := 1) (by decide +kernel) rfl rfl) ( okn))))))))))))))))))))))))))))))))))))))))))))))))))))))))))))
def pl_M_worksOut_2 : List (Nat × mA) := [(105, a_bin (fun x y => x - y) 106), (106, a_ald 0 107), (107, a_if (fun x => decide (x ≠ 0)) 114 110), (110, a_push 1 111), (111, a_goto 115), (114, a_push 0 115), (115, a_ast 0 (fun x => x) 116), (116, a_goto 149), (119, a_iinc 2 (-1) 122), (122, a_aload 0 123), (123, a_getR 9 36 24 126), (126, a_iload 2 127), (127, a_push 1 128), (128, a_bin (fun x y => x - y) 129), (129, a_iload 5 131), (131, a_aload 0 132), (132, a_getR 9 36 24 135), (135, a_iload 2 136), (136, a_push 1 137), (137, a_bin (fun x y => x - y) 138), (138, a_ald 0 139), (139, a_aload 0 140), (140, a_getR 9 36 24 143), (143, a_iload 2 144), (144, a_ald 0 145), (145, a_call 192 3 148), (148, a_ast 0 (fun x => x) 149), (149, a_iinc 4 1 152), (152, a_goto 21), (155, a_aload 0 156), (156, a_getR 9 36 24 159), (159, a_push 0 160), (160, a_ald 0 161), (161, a_iret)]
set_option maxRecDepth 20000 in
theorem ol_M_worksOut_2 : okall B sp D cA (SPf B sp Ls xs adK adV) MT ⟨"WreckSkyModel", "worksOut", "(I)I"⟩ prog_11_method_73_code 6 (Option.some Jvm.ClassFile.FieldType.int) (pl_M_worksOut_2) := by
  unfold pl_M_worksOut_2
  exact
    okc (ok_isub (by decide +kernel) rfl) (
    okc (ok_iald (by decide +kernel) rfl) (
    okc (ok_if_ne (off := 7) (by decide +kernel) rfl rfl) (
    okc (ok_iconst (n := 1) (by decide +kernel) rfl rfl) (
    okc (ok_goto (off := 4) (by decide +kernel) rfl) (
    okc (ok_iconst (n := 0) (by decide +kernel) rfl rfl) (
    okc (ok_iast (by decide +kernel) rfl) (
    okc (ok_goto (off := 33) (by decide +kernel) rfl) (
    okc (ok_iinc (n := (-1)) (by decide +kernel) rfl rfl) (
    okc (ok_aload_n (k := 0) (by decide +kernel) rfl rfl) (
    okc (ok_getR (k := 24) (idx := 51) cX9_ok (by decide) (by decide +kernel) w_1015 (by decide +kernel) rfl) (
    okc (ok_iload_n (k := 2) (by decide +kernel) rfl rfl) (
    okc (ok_iconst (n := 1) (by decide +kernel) rfl rfl) (
    okc (ok_isub (by decide +kernel) rfl) (
    okc (ok_iload (by decide +kernel) rfl) (
    okc (ok_aload_n (k := 0) (by decide +kernel) rfl rfl) (
    okc (ok_getR (k := 24) (idx := 51) cX9_ok (by decide) (by decide +kernel) w_1015 (by decide +kernel) rfl) (
    okc (ok_iload_n (k := 2) (by decide +kernel) rfl rfl) (
    okc (ok_iconst (n := 1) (by decide +kernel) rfl rfl) (
    okc (ok_isub (by decide +kernel) rfl) (
    okc (ok_iald (by decide +kernel) rfl) (
    okc (ok_aload_n (k := 0) (by decide +kernel) rfl rfl) (
    okc (ok_getR (k := 24) (idx := 51) cX9_ok (by decide) (by decide +kernel) w_1015 (by decide +kernel) rfl) (
    okc (ok_iload_n (k := 2) (by decide +kernel) rfl rfl) (
    okc (ok_iald (by decide +kernel) rfl) (
    okc (ok_callS (SPf_ok _ _ _ _ _ _) (mi := 192) (n := 3) (idx := 262) rfl m_M_two (by decide) w_1146 w_1147 (by decide +kernel) rfl) (
    okc (ok_iast (by decide +kernel) rfl) (
    okc (ok_iinc (n := 1) (by decide +kernel) rfl rfl) (
    okc (ok_goto (off := -131) (by decide +kernel) rfl) (
    okc (ok_aload_n (k := 0) (by decide +kernel) rfl rfl) (
    okc (ok_getR (k := 24) (idx := 51) cX9_ok (by decide) (by decide +kernel) w_1015 (by decide +kernel) rfl) (
    okc (ok_iconst (n := 0) (by decide +kernel) rfl rfl) (
    okc (ok_iald (by decide +kernel) rfl) (
    okc (ok_iret rfl (by decide +kernel)) ( okn))))))))))))))))))))))))))))))))))
def pl_M_worksOut : List (Nat × mA) := pl_M_worksOut_1 ++ (pl_M_worksOut_2)
theorem ol_M_worksOut : okall B sp D cA (SPf B sp Ls xs adK adV) MT ⟨"WreckSkyModel", "worksOut", "(I)I"⟩ prog_11_method_73_code 6 (Option.some Jvm.ClassFile.FieldType.int) (pl_M_worksOut) := oka ol_M_worksOut_1 (ol_M_worksOut_2)
def pl_T_hasRoomFor : List (Nat × mA) := [(0, a_aload 0 1), (1, a_getI 5 2 1 4), (4, a_iload 1 5), (5, a_bin (fun x y => x + y) 6), (6, a_push 96 8), (8, a_cmp (fun x y => decide (y < x)) 15 11), (11, a_push 1 12), (12, a_goto 16), (15, a_push 0 16), (16, a_zret)]
set_option maxRecDepth 20000 in
theorem ol_T_hasRoomFor : okall B sp D cA (SPf B sp Ls xs adK adV) MT ⟨"WreckSky$Tape", "hasRoomFor", "(I)Z"⟩ prog_7_method_2_code 2 (Option.some Jvm.ClassFile.FieldType.boolean) (pl_T_hasRoomFor) := by
  unfold pl_T_hasRoomFor
  exact
    okc (ok_aload_n (k := 0) (by decide +kernel) rfl rfl) (
    okc (ok_getI (k := 1) (idx := 15) cX5_ok (by decide) (by decide +kernel) w_215 (by decide +kernel) rfl) (
    okc (ok_iload_n (k := 1) (by decide +kernel) rfl rfl) (
    okc (ok_iadd (by decide +kernel) rfl) (
    okc (ok_bipush (n := 96) (by decide +kernel) (by decide +kernel) rfl) (
    okc (ok_cmp_gt (off := 7) (by decide +kernel) rfl rfl) (
    okc (ok_iconst (n := 1) (by decide +kernel) rfl rfl) (
    okc (ok_goto (off := 4) (by decide +kernel) rfl) (
    okc (ok_iconst (n := 0) (by decide +kernel) rfl rfl) (
    okc (ok_zret rfl (by decide +kernel)) ( okn))))))))))
def pl_T_addBytes : List (Nat × mA) := [(0, a_push 24 2), (2, a_istore 2 3), (3, a_iload 2 4), (4, a_if (fun x => decide (x < 0)) 48 7), (7, a_aload 0 8), (8, a_getI 5 2 1 11), (11, a_push 96 13), (13, a_cmp (fun x y => decide (y ≤ x)) 48 16), (16, a_aload 0 17), (17, a_getR 5 2 0 20), (20, a_aload 0 21), (21, a_getI 5 2 1 24), (24, a_iload 1 25), (25, a_iload 2 26), (26, a_bin (fun x y => (x.toUInt32 >>> (y.toUInt32 &&& Int32.toUInt32 31)).toInt32) 27), (27, a_push 255 30), (30, a_bin (fun x y => x &&& y) 31), (31, a_ast 0 (fun x => x) 32), (32, a_aload 0 33), (33, a_dup 34), (34, a_getI 5 2 1 37), (37, a_push 1 38), (38, a_bin (fun x y => x + y) 39), (39, a_putI 5 2 1 42), (42, a_iinc 2 (-8) 45), (45, a_goto 3), (48, a_ret)]
set_option maxRecDepth 20000 in
theorem ol_T_addBytes : okall B sp D cA (SPf B sp Ls xs adK adV) MT ⟨"WreckSky$Tape", "addBytes", "(I)V"⟩ prog_7_method_3_code 3 (Option.none : Option Jvm.ClassFile.FieldType) (pl_T_addBytes) := by
  unfold pl_T_addBytes
  exact
    okc (ok_bipush (n := 24) (by decide +kernel) (by decide +kernel) rfl) (
    okc (ok_istore_n (k := 2) (by decide +kernel) rfl rfl) (
    okc (ok_iload_n (k := 2) (by decide +kernel) rfl rfl) (
    okc (ok_if_lt (off := 44) (by decide +kernel) rfl rfl) (
    okc (ok_aload_n (k := 0) (by decide +kernel) rfl rfl) (
    okc (ok_getI (k := 1) (idx := 15) cX5_ok (by decide) (by decide +kernel) w_215 (by decide +kernel) rfl) (
    okc (ok_bipush (n := 96) (by decide +kernel) (by decide +kernel) rfl) (
    okc (ok_cmp_ge (off := 35) (by decide +kernel) rfl rfl) (
    okc (ok_aload_n (k := 0) (by decide +kernel) rfl rfl) (
    okc (ok_getR (k := 0) (idx := 9) cX5_ok (by decide) (by decide +kernel) w_213 (by decide +kernel) rfl) (
    okc (ok_aload_n (k := 0) (by decide +kernel) rfl rfl) (
    okc (ok_getI (k := 1) (idx := 15) cX5_ok (by decide) (by decide +kernel) w_215 (by decide +kernel) rfl) (
    okc (ok_iload_n (k := 1) (by decide +kernel) rfl rfl) (
    okc (ok_iload_n (k := 2) (by decide +kernel) rfl rfl) (
    okc (ok_iushr (by decide +kernel) rfl) (
    okc (ok_sipush (n := 255) (by decide +kernel) (by decide +kernel) rfl) (
    okc (ok_iand (by decide +kernel) rfl) (
    okc (ok_iast (by decide +kernel) rfl) (
    okc (ok_aload_n (k := 0) (by decide +kernel) rfl rfl) (
    okc (ok_dup (by decide +kernel) rfl) (
    okc (ok_getI (k := 1) (idx := 15) cX5_ok (by decide) (by decide +kernel) w_215 (by decide +kernel) rfl) (
    okc (ok_iconst (n := 1) (by decide +kernel) rfl rfl) (
    okc (ok_iadd (by decide +kernel) rfl) (
    okc (ok_putI (k := 1) (idx := 15) cX5_ok (by decide) rfl rfl w_215 (by decide +kernel) rfl) (
    okc (ok_iinc (n := (-8)) (by decide +kernel) rfl rfl) (
    okc (ok_goto (off := -42) (by decide +kernel) rfl) (
    okc (ok_ret rfl (by decide +kernel)) ( okn)))))))))))))))))))))))))))
def pl_R_readTape : List (Nat × mA) := [(0, a_aload 0 1), (1, a_push 0 2), (2, a_putI 1 10 2 5), (5, a_aload 0 6), (6, a_push 0 7), (7, a_putI 1 10 3 10), (10, a_aload 0 11), (11, a_push 0 12), (12, a_putI 1 10 5 15), (15, a_aload 0 16), (16, a_push 0 17), (17, a_putI 1 10 7 20), (20, a_aload 0 21), (21, a_push (-1) 22), (22, a_putI 1 10 9 25), (25, a_aload 0 26), (26, a_callO 1 10 193 0 29), (29, a_aload 0 30), (30, a_callO 1 10 194 0 33), (33, a_istore 1 34), (34, a_aload 0 35), (35, a_getI 1 10 9 38), (38, a_if (fun x => decide (0 ≤ x)) 48 41), (41, a_aload 0 42), (42, a_push 0 43), (43, a_push 0 44), (44, a_push 0 45), (45, a_callO 1 10 195 3 48), (48, a_aload 0 49), (49, a_getI 1 10 5 52), (52, a_push 3 53), (53, a_cmp (fun x y => decide (x = y)) 60 56), (56, a_aload 0 57), (57, a_callO 1 10 196 0 60), (60, a_aload 0 61), (61, a_getI 1 10 9 64), (64, a_if (fun x => decide (0 ≤ x)) 93 67), (67, a_new 6 3 70), (70, a_dup 71), (71, a_iload 1 72), (72, a_aload 0 73), (73, a_getI 1 10 3 76), (76, a_aload 0 77), (77, a_getR 1 10 1 80), (80, a_aload 0 81), (81, a_getI 1 10 2 84), (84, a_call 197 2 87), (87, a_callO 6 3 198 3 90), (90, a_goto 94), (93, a_null 94), (94, a_aret)]
set_option maxRecDepth 20000 in
theorem ol_R_readTape : okall B sp D cA (SPf B sp Ls xs adK adV) MT ⟨"WreckSky$Reader", "readTape", "()LWreckSky$Text;"⟩ prog_3_method_2_code 2 (Option.some (Jvm.ClassFile.FieldType.object "WreckSky$Text")) (pl_R_readTape) := by
  unfold pl_R_readTape
  exact
    okc (ok_aload_n (k := 0) (by decide +kernel) rfl rfl) (
    okc (ok_iconst (n := 0) (by decide +kernel) rfl rfl) (
    okc (ok_putI (k := 2) (idx := 25) cX1_ok (by decide) rfl rfl w_232 (by decide +kernel) rfl) (
    okc (ok_aload_n (k := 0) (by decide +kernel) rfl rfl) (
    okc (ok_iconst (n := 0) (by decide +kernel) rfl rfl) (
    okc (ok_putI (k := 3) (idx := 29) cX1_ok (by decide) rfl rfl w_233 (by decide +kernel) rfl) (
    okc (ok_aload_n (k := 0) (by decide +kernel) rfl rfl) (
    okc (ok_iconst (n := 0) (by decide +kernel) rfl rfl) (
    okc (ok_putI (k := 5) (idx := 32) cX1_ok (by decide) rfl rfl w_235 (by decide +kernel) rfl) (
    okc (ok_aload_n (k := 0) (by decide +kernel) rfl rfl) (
    okc (ok_iconst (n := 0) (by decide +kernel) rfl rfl) (
    okc (ok_putI (k := 7) (idx := 35) cX1_ok (by decide) rfl rfl w_237 (by decide +kernel) rfl) (
    okc (ok_aload_n (k := 0) (by decide +kernel) rfl rfl) (
    okc (ok_iconst (n := -1) (by decide +kernel) rfl rfl) (
    okc (ok_putI (k := 9) (idx := 38) cX1_ok (by decide) rfl rfl w_239 (by decide +kernel) rfl) (
    okc (ok_aload_n (k := 0) (by decide +kernel) rfl rfl) (
    okc (ok_callV (SPf_ok _ _ _ _ _ _) (mi := 193) (n := 0) (idx := 41) rfl m_R_step (by decide) cX1_ok w_687 w_689 w_8 (by decide +kernel) rfl) (
    okc (ok_aload_n (k := 0) (by decide +kernel) rfl rfl) (
    okc (ok_callV (SPf_ok _ _ _ _ _ _) (mi := 194) (n := 0) (idx := 44) rfl m_R_readKey (by decide) cX1_ok w_695 w_697 w_9 (by decide +kernel) rfl) (
    okc (ok_istore_n (k := 1) (by decide +kernel) rfl rfl) (
    okc (ok_aload_n (k := 0) (by decide +kernel) rfl rfl) (
    okc (ok_getI (k := 9) (idx := 38) cX1_ok (by decide) (by decide +kernel) w_239 (by decide +kernel) rfl) (
    okc (ok_if_ge (off := 10) (by decide +kernel) rfl rfl) (
    okc (ok_aload_n (k := 0) (by decide +kernel) rfl rfl) (
    okc (ok_iconst (n := 0) (by decide +kernel) rfl rfl) (
    okc (ok_iconst (n := 0) (by decide +kernel) rfl rfl) (
    okc (ok_iconst (n := 0) (by decide +kernel) rfl rfl) (
    okc (ok_callV (SPf_ok _ _ _ _ _ _) (mi := 195) (n := 3) (idx := 48) rfl m_R_readLevel (by decide) cX1_ok w_761 w_763 w_12 (by decide +kernel) rfl) (
    okc (ok_aload_n (k := 0) (by decide +kernel) rfl rfl) (
    okc (ok_getI (k := 5) (idx := 32) cX1_ok (by decide) (by decide +kernel) w_235 (by decide +kernel) rfl) (
    okc (ok_iconst (n := 3) (by decide +kernel) rfl rfl) (
    okc (ok_cmp_eq (off := 7) (by decide +kernel) rfl rfl) (
    okc (ok_aload_n (k := 0) (by decide +kernel) rfl rfl) (
    okc (ok_callV (SPf_ok _ _ _ _ _ _) (mi := 196) (n := 0) (idx := 52) rfl m_R_fail (by decide) cX1_ok w_757 w_759 w_11 (by decide +kernel) rfl) (
    okc (ok_aload_n (k := 0) (by decide +kernel) rfl rfl) (
    okc (ok_getI (k := 9) (idx := 38) cX1_ok (by decide) (by decide +kernel) w_239 (by decide +kernel) rfl) (
    okc (ok_if_ge (off := 29) (by decide +kernel) rfl rfl) (
    okc (ok_new (idx := 55) cX6_ok dX6_ok w_844 w_845 w_65 (by decide +kernel) rfl) (
    okc (ok_dup (by decide +kernel) rfl) (
    okc (ok_iload_n (k := 1) (by decide +kernel) rfl rfl) (
    okc (ok_aload_n (k := 0) (by decide +kernel) rfl rfl) (
    okc (ok_getI (k := 3) (idx := 29) cX1_ok (by decide) (by decide +kernel) w_233 (by decide +kernel) rfl) (
    okc (ok_aload_n (k := 0) (by decide +kernel) rfl rfl) (
    okc (ok_getR (k := 1) (idx := 9) cX1_ok (by decide) (by decide +kernel) w_231 (by decide +kernel) rfl) (
    okc (ok_aload_n (k := 0) (by decide +kernel) rfl rfl) (
    okc (ok_getI (k := 2) (idx := 25) cX1_ok (by decide) (by decide +kernel) w_232 (by decide +kernel) rfl) (
    okc (ok_callS (SPf_ok _ _ _ _ _ _) (mi := 197) (n := 2) (idx := 57) rfl m_JArrays_copyOf (by decide) w_846 w_847 (by decide +kernel) rfl) (
    okc (ok_callI (SPf_ok _ _ _ _ _ _) (mi := 198) (n := 3) (idx := 63) rfl m_X_init (by decide) rfl w_860 w_861 (by decide +kernel) rfl) (
    okc (ok_goto (off := 4) (by decide +kernel) rfl) (
    okc (ok_null (by decide +kernel) rfl) (
    okc (ok_aret rfl (Or.inl ⟨_, rfl⟩) (by decide +kernel)) ( okn)))))))))))))))))))))))))))))))))))))))))))))))))))
def pl_S_addText : List (Nat × mA) := [(0, a_aload 0 1), (1, a_getI 3 11 4 4), (4, a_push 14 6), (6, a_cmp (fun x y => decide (x < y)) 11 9), (9, a_push 0 10), (10, a_zret), (11, a_aload 0 12), (12, a_getR 3 11 1 15), (15, a_aload 0 16), (16, a_getI 3 11 4 19), (19, a_aload 1 20), (20, a_aast 5 6 3 21), (21, a_aload 0 22), (22, a_dup 23), (23, a_getI 3 11 4 26), (26, a_push 1 27), (27, a_bin (fun x y => x + y) 28), (28, a_putI 3 11 4 31), (31, a_push 1 32), (32, a_zret)]
set_option maxRecDepth 20000 in
theorem ol_S_addText : okall B sp D cA (SPf B sp Ls xs adK adV) MT ⟨"WreckSky$Sky", "addText", "(LWreckSky$Text;)Z"⟩ prog_5_method_5_code 2 (Option.some Jvm.ClassFile.FieldType.boolean) (pl_S_addText) := by
  unfold pl_S_addText
  exact
    okc (ok_aload_n (k := 0) (by decide +kernel) rfl rfl) (
    okc (ok_getI (k := 4) (idx := 31) cX3_ok (by decide) (by decide +kernel) w_144 (by decide +kernel) rfl) (
    okc (ok_bipush (n := 14) (by decide +kernel) (by decide +kernel) rfl) (
    okc (ok_cmp_lt (off := 5) (by decide +kernel) rfl rfl) (
    okc (ok_iconst (n := 0) (by decide +kernel) rfl rfl) (
    okc (ok_zret rfl (by decide +kernel)) (
    okc (ok_aload_n (k := 0) (by decide +kernel) rfl rfl) (
    okc (ok_getR (k := 1) (idx := 19) cX3_ok (by decide) (by decide +kernel) w_137 (by decide +kernel) rfl) (
    okc (ok_aload_n (k := 0) (by decide +kernel) rfl rfl) (
    okc (ok_getI (k := 4) (idx := 31) cX3_ok (by decide) (by decide +kernel) w_144 (by decide +kernel) rfl) (
    okc (ok_aload_n (k := 1) (by decide +kernel) rfl rfl) (
    okc (ok_aast (by decide) (fun _ => rfl) cX6_ok (by decide +kernel) rfl) (
    okc (ok_aload_n (k := 0) (by decide +kernel) rfl rfl) (
    okc (ok_dup (by decide +kernel) rfl) (
    okc (ok_getI (k := 4) (idx := 31) cX3_ok (by decide) (by decide +kernel) w_144 (by decide +kernel) rfl) (
    okc (ok_iconst (n := 1) (by decide +kernel) rfl rfl) (
    okc (ok_iadd (by decide +kernel) rfl) (
    okc (ok_putI (k := 4) (idx := 31) cX3_ok (by decide) rfl rfl w_144 (by decide +kernel) rfl) (
    okc (ok_iconst (n := 1) (by decide +kernel) rfl rfl) (
    okc (ok_zret rfl (by decide +kernel)) ( okn))))))))))))))))))))
def pl_M_go_1 : List (Nat × mA) := [(0, a_aload 0 1), (1, a_getI 9 36 10 4), (4, a_aload 0 5), (5, a_getI 9 36 9 8), (8, a_cmp (fun x y => decide (y ≤ x)) 38 11), (11, a_aload 0 12), (12, a_getR 9 36 8 15), (15, a_aload 0 16), (16, a_getI 9 36 10 19), (19, a_ald 0 20), (20, a_push 32 22), (22, a_cmp (fun x y => decide (x ≠ y)) 38 25), (25, a_aload 0 26), (26, a_dup 27), (27, a_getI 9 36 10 30), (30, a_push 1 31), (31, a_bin (fun x y => x + y) 32), (32, a_putI 9 36 10 35), (35, a_goto 0), (38, a_aload 0 39), (39, a_aload 0 40), (40, a_getI 9 36 10 43), (43, a_putI 9 36 11 46), (46, a_aload 0 47), (47, a_getI 9 36 11 50), (50, a_aload 0 51), (51, a_getI 9 36 14 54), (54, a_cmp (fun x y => decide (x ≠ y)) 61 57), (57, a_push 1 58), (58, a_goto 62), (61, a_push 0 62), (62, a_istore 1 63), (63, a_aload 0 64), (64, a_getI 9 36 11 67), (67, a_aload 0 68), (68, a_getI 9 36 9 71), (71, a_cmp (fun x y => decide (x ≠ y)) 82 74), (74, a_aload 0 75), (75, a_push 0 76), (76, a_putI 9 36 12 79), (79, a_goto 303), (82, a_aload 0 83), (83, a_aload 0 84), (84, a_getI 9 36 11 87), (87, a_callO 9 36 199 1 90), (90, a_if (fun x => decide (x = 0)) 154 93), (93, a_aload 0 94), (94, a_aload 0 95), (95, a_getI 9 36 10 98), (98, a_callO 9 36 199 1 101), (101, a_if (fun x => decide (x = 0)) 117 104), (104, a_aload 0 105), (105, a_dup 106), (106, a_getI 9 36 10 109), (109, a_push 1 110), (110, a_bin (fun x y => x + y) 111), (111, a_putI 9 36 10 114), (114, a_goto 93), (117, a_aload 0 118), (118, a_iload 1 119)]
set_option maxRecDepth 20000 in
theorem ol_M_go_1 : okall B sp D cA (SPf B sp Ls xs adK adV) MT ⟨"WreckSkyModel", "go", "()V"⟩ prog_11_method_59_code 2 (Option.none : Option Jvm.ClassFile.FieldType) (pl_M_go_1) := by
  unfold pl_M_go_1
  exact
    okc (ok_aload_n (k := 0) (by decide +kernel) rfl rfl) (
    okc (ok_getI (k := 10) (idx := 201) cX9_ok (by decide) (by decide +kernel) w_1001 (by decide +kernel) rfl) (
    okc (ok_aload_n (k := 0) (by decide +kernel) rfl rfl) (
    okc (ok_getI (k := 9) (idx := 197) cX9_ok (by decide) (by decide +kernel) w_1000 (by decide +kernel) rfl) (
    okc (ok_cmp_ge (off := 30) (by decide +kernel) rfl rfl) (
    okc (ok_aload_n (k := 0) (by decide +kernel) rfl rfl) (
    okc (ok_getR (k := 8) (idx := 31) cX9_ok (by decide) (by decide +kernel) w_999 (by decide +kernel) rfl) (
    okc (ok_aload_n (k := 0) (by decide +kernel) rfl rfl) (
    okc (ok_getI (k := 10) (idx := 201) cX9_ok (by decide) (by decide +kernel) w_1001 (by decide +kernel) rfl) (
    okc (ok_iald (by decide +kernel) rfl) (
    okc (ok_bipush (n := 32) (by decide +kernel) (by decide +kernel) rfl) (
    okc (ok_cmp_ne (off := 16) (by decide +kernel) rfl rfl) (
    okc (ok_aload_n (k := 0) (by decide +kernel) rfl rfl) (
    okc (ok_dup (by decide +kernel) rfl) (
    okc (ok_getI (k := 10) (idx := 201) cX9_ok (by decide) (by decide +kernel) w_1001 (by decide +kernel) rfl) (
    okc (ok_iconst (n := 1) (by decide +kernel) rfl rfl) (
    okc (ok_iadd (by decide +kernel) rfl) (
    okc (ok_putI (k := 10) (idx := 201) cX9_ok (by decide) rfl rfl w_1001 (by decide +kernel) rfl) (
    okc (ok_goto (off := -35) (by decide +kernel) rfl) (
    okc (ok_aload_n (k := 0) (by decide +kernel) rfl rfl) (
    okc (ok_aload_n (k := 0) (by decide +kernel) rfl rfl) (
    okc (ok_getI (k := 10) (idx := 201) cX9_ok (by decide) (by decide +kernel) w_1001 (by decide +kernel) rfl) (
    okc (ok_putI (k := 11) (idx := 204) cX9_ok (by decide) rfl rfl w_1002 (by decide +kernel) rfl) (
    okc (ok_aload_n (k := 0) (by decide +kernel) rfl rfl) (
    okc (ok_getI (k := 11) (idx := 204) cX9_ok (by decide) (by decide +kernel) w_1002 (by decide +kernel) rfl) (
    okc (ok_aload_n (k := 0) (by decide +kernel) rfl rfl) (
    okc (ok_getI (k := 14) (idx := 207) cX9_ok (by decide) (by decide +kernel) w_1005 (by decide +kernel) rfl) (
    okc (ok_cmp_ne (off := 7) (by decide +kernel) rfl rfl) (
    okc (ok_iconst (n := 1) (by decide +kernel) rfl rfl) (
    okc (ok_goto (off := 4) (by decide +kernel) rfl) (
    okc (ok_iconst (n := 0) (by decide +kernel) rfl rfl) (
    okc (ok_istore_n (k := 1) (by decide +kernel) rfl rfl) (
    okc (ok_aload_n (k := 0) (by decide +kernel) rfl rfl) (
    okc (ok_getI (k := 11) (idx := 204) cX9_ok (by decide) (by decide +kernel) w_1002 (by decide +kernel) rfl) (
    okc (ok_aload_n (k := 0) (by decide +kernel) rfl rfl) (
    okc (ok_getI (k := 9) (idx := 197) cX9_ok (by decide) (by decide +kernel) w_1000 (by decide +kernel) rfl) (
    okc (ok_cmp_ne (off := 11) (by decide +kernel) rfl rfl) (
    okc (ok_aload_n (k := 0) (by decide +kernel) rfl rfl) (
    okc (ok_iconst (n := 0) (by decide +kernel) rfl rfl) (
    okc (ok_putI (k := 12) (idx := 210) cX9_ok (by decide) rfl rfl w_1003 (by decide +kernel) rfl) (
    okc (ok_goto (off := 224) (by decide +kernel) rfl) (
    okc (ok_aload_n (k := 0) (by decide +kernel) rfl rfl) (
    okc (ok_aload_n (k := 0) (by decide +kernel) rfl rfl) (
    okc (ok_getI (k := 11) (idx := 204) cX9_ok (by decide) (by decide +kernel) w_1002 (by decide +kernel) rfl) (
    okc (ok_callV (SPf_ok _ _ _ _ _ _) (mi := 199) (n := 1) (idx := 213) rfl m_M_isLetter (by decide) cX9_ok w_1341 w_1343 w_46 (by decide +kernel) rfl) (
    okc (ok_if_eq (off := 64) (by decide +kernel) rfl rfl) (
    okc (ok_aload_n (k := 0) (by decide +kernel) rfl rfl) (
    okc (ok_aload_n (k := 0) (by decide +kernel) rfl rfl) (
    okc (ok_getI (k := 10) (idx := 201) cX9_ok (by decide) (by decide +kernel) w_1001 (by decide +kernel) rfl) (
    okc (ok_callV (SPf_ok _ _ _ _ _ _) (mi := 199) (n := 1) (idx := 213) rfl m_M_isLetter (by decide) cX9_ok w_1341 w_1343 w_46 (by decide +kernel) rfl) (
    okc (ok_if_eq (off := 16) (by decide +kernel) rfl rfl) (
    okc (ok_aload_n (k := 0) (by decide +kernel) rfl rfl) (
    okc (ok_dup (by decide +kernel) rfl) (
    okc (ok_getI (k := 10) (idx := 201) cX9_ok (by decide) (by decide +kernel) w_1001 (by decide +kernel) rfl) (
    okc (ok_iconst (n := 1) (by decide +kernel) rfl rfl) (
    okc (ok_iadd (by decide +kernel) rfl) (
    okc (ok_putI (k := 10) (idx := 201) cX9_ok (by decide) rfl rfl w_1001 (by decide +kernel) rfl) (
    okc (ok_goto (off := -21) (by decide +kernel) rfl) (
    okc (ok_aload_n (k := 0) (by decide +kernel) rfl rfl) (
    okc (ok_iload_n (k := 1) (by decide +kernel) rfl rfl) ( okn))))))))))))))))))))))))))))))))))))))))))))))))))))))))))))
def pl_M_go_2 : List (Nat × mA) := [(119, a_if (fun x => decide (x = 0)) 126 122), (122, a_push 4 123), (123, a_goto 127), (126, a_push 1 127), (127, a_putI 9 36 12 130), (130, a_aload 0 131), (131, a_aload 0 132), (132, a_getR 9 36 8 135), (135, a_aload 0 136), (136, a_getI 9 36 11 139), (139, a_ald 0 140), (140, a_putI 9 36 13 143), (143, a_aload 0 144), (144, a_aload 0 145), (145, a_getI 9 36 10 148), (148, a_putI 9 36 14 151), (151, a_goto 303), (154, a_aload 0 155), (155, a_aload 0 156), (156, a_getI 9 36 11 159), (159, a_callO 9 36 200 1 162), (162, a_if (fun x => decide (x = 0)) 275 165), (165, a_aload 0 166), (166, a_push 0 167), (167, a_putI 9 36 13 170), (170, a_aload 0 171), (171, a_aload 0 172), (172, a_getI 9 36 10 175), (175, a_callO 9 36 200 1 178), (178, a_if (fun x => decide (x = 0)) 238 181), (181, a_aload 0 182), (182, a_aload 0 183), (183, a_getI 9 36 10 186), (186, a_aload 0 187), (187, a_getI 9 36 11 190), (190, a_bin (fun x y => x - y) 191), (191, a_push 4 192), (192, a_cmp (fun x y => decide (y ≤ x)) 218 195), (195, a_push 10 197), (197, a_aload 0 198), (198, a_getI 9 36 13 201), (201, a_bin (fun x y => x * y) 202), (202, a_aload 0 203), (203, a_getR 9 36 8 206), (206, a_aload 0 207), (207, a_getI 9 36 10 210), (210, a_ald 0 211), (211, a_bin (fun x y => x + y) 212), (212, a_push 48 214), (214, a_bin (fun x y => x - y) 215), (215, a_goto 222), (218, a_aload 0 219), (219, a_getI 9 36 13 222), (222, a_putI 9 36 13 225), (225, a_aload 0 226), (226, a_dup 227), (227, a_getI 9 36 10 230), (230, a_push 1 231), (231, a_bin (fun x y => x + y) 232), (232, a_putI 9 36 10 235)]
set_option maxRecDepth 20000 in
theorem ol_M_go_2 : okall B sp D cA (SPf B sp Ls xs adK adV) MT ⟨"WreckSkyModel", "go", "()V"⟩ prog_11_method_59_code 2 (Option.none : Option Jvm.ClassFile.FieldType) (pl_M_go_2) := by
  unfold pl_M_go_2
  exact
    okc (ok_if_eq (off := 7) (by decide +kernel) rfl rfl) (
    okc (ok_iconst (n := 4) (by decide +kernel) rfl rfl) (
    okc (ok_goto (off := 4) (by decide +kernel) rfl) (
    okc (ok_iconst (n := 1) (by decide +kernel) rfl rfl) (
    okc (ok_putI (k := 12) (idx := 210) cX9_ok (by decide) rfl rfl w_1003 (by decide +kernel) rfl) (
    okc (ok_aload_n (k := 0) (by decide +kernel) rfl rfl) (
    okc (ok_aload_n (k := 0) (by decide +kernel) rfl rfl) (
    okc (ok_getR (k := 8) (idx := 31) cX9_ok (by decide) (by decide +kernel) w_999 (by decide +kernel) rfl) (
    okc (ok_aload_n (k := 0) (by decide +kernel) rfl rfl) (
    okc (ok_getI (k := 11) (idx := 204) cX9_ok (by decide) (by decide +kernel) w_1002 (by decide +kernel) rfl) (
    okc (ok_iald (by decide +kernel) rfl) (
    okc (ok_putI (k := 13) (idx := 216) cX9_ok (by decide) rfl rfl w_1004 (by decide +kernel) rfl) (
    okc (ok_aload_n (k := 0) (by decide +kernel) rfl rfl) (
    okc (ok_aload_n (k := 0) (by decide +kernel) rfl rfl) (
    okc (ok_getI (k := 10) (idx := 201) cX9_ok (by decide) (by decide +kernel) w_1001 (by decide +kernel) rfl) (
    okc (ok_putI (k := 14) (idx := 207) cX9_ok (by decide) rfl rfl w_1005 (by decide +kernel) rfl) (
    okc (ok_goto (off := 152) (by decide +kernel) rfl) (
    okc (ok_aload_n (k := 0) (by decide +kernel) rfl rfl) (
    okc (ok_aload_n (k := 0) (by decide +kernel) rfl rfl) (
    okc (ok_getI (k := 11) (idx := 204) cX9_ok (by decide) (by decide +kernel) w_1002 (by decide +kernel) rfl) (
    okc (ok_callV (SPf_ok _ _ _ _ _ _) (mi := 200) (n := 1) (idx := 219) rfl m_M_isFigure (by decide) cX9_ok w_1345 w_1347 w_47 (by decide +kernel) rfl) (
    okc (ok_if_eq (off := 113) (by decide +kernel) rfl rfl) (
    okc (ok_aload_n (k := 0) (by decide +kernel) rfl rfl) (
    okc (ok_iconst (n := 0) (by decide +kernel) rfl rfl) (
    okc (ok_putI (k := 13) (idx := 216) cX9_ok (by decide) rfl rfl w_1004 (by decide +kernel) rfl) (
    okc (ok_aload_n (k := 0) (by decide +kernel) rfl rfl) (
    okc (ok_aload_n (k := 0) (by decide +kernel) rfl rfl) (
    okc (ok_getI (k := 10) (idx := 201) cX9_ok (by decide) (by decide +kernel) w_1001 (by decide +kernel) rfl) (
    okc (ok_callV (SPf_ok _ _ _ _ _ _) (mi := 200) (n := 1) (idx := 219) rfl m_M_isFigure (by decide) cX9_ok w_1345 w_1347 w_47 (by decide +kernel) rfl) (
    okc (ok_if_eq (off := 60) (by decide +kernel) rfl rfl) (
    okc (ok_aload_n (k := 0) (by decide +kernel) rfl rfl) (
    okc (ok_aload_n (k := 0) (by decide +kernel) rfl rfl) (
    okc (ok_getI (k := 10) (idx := 201) cX9_ok (by decide) (by decide +kernel) w_1001 (by decide +kernel) rfl) (
    okc (ok_aload_n (k := 0) (by decide +kernel) rfl rfl) (
    okc (ok_getI (k := 11) (idx := 204) cX9_ok (by decide) (by decide +kernel) w_1002 (by decide +kernel) rfl) (
    okc (ok_isub (by decide +kernel) rfl) (
    okc (ok_iconst (n := 4) (by decide +kernel) rfl rfl) (
    okc (ok_cmp_ge (off := 26) (by decide +kernel) rfl rfl) (
    okc (ok_bipush (n := 10) (by decide +kernel) (by decide +kernel) rfl) (
    okc (ok_aload_n (k := 0) (by decide +kernel) rfl rfl) (
    okc (ok_getI (k := 13) (idx := 216) cX9_ok (by decide) (by decide +kernel) w_1004 (by decide +kernel) rfl) (
    okc (ok_imul (by decide +kernel) rfl) (
    okc (ok_aload_n (k := 0) (by decide +kernel) rfl rfl) (
    okc (ok_getR (k := 8) (idx := 31) cX9_ok (by decide) (by decide +kernel) w_999 (by decide +kernel) rfl) (
    okc (ok_aload_n (k := 0) (by decide +kernel) rfl rfl) (
    okc (ok_getI (k := 10) (idx := 201) cX9_ok (by decide) (by decide +kernel) w_1001 (by decide +kernel) rfl) (
    okc (ok_iald (by decide +kernel) rfl) (
    okc (ok_iadd (by decide +kernel) rfl) (
    okc (ok_bipush (n := 48) (by decide +kernel) (by decide +kernel) rfl) (
    okc (ok_isub (by decide +kernel) rfl) (
    okc (ok_goto (off := 7) (by decide +kernel) rfl) (
    okc (ok_aload_n (k := 0) (by decide +kernel) rfl rfl) (
    okc (ok_getI (k := 13) (idx := 216) cX9_ok (by decide) (by decide +kernel) w_1004 (by decide +kernel) rfl) (
    okc (ok_putI (k := 13) (idx := 216) cX9_ok (by decide) rfl rfl w_1004 (by decide +kernel) rfl) (
    okc (ok_aload_n (k := 0) (by decide +kernel) rfl rfl) (
    okc (ok_dup (by decide +kernel) rfl) (
    okc (ok_getI (k := 10) (idx := 201) cX9_ok (by decide) (by decide +kernel) w_1001 (by decide +kernel) rfl) (
    okc (ok_iconst (n := 1) (by decide +kernel) rfl rfl) (
    okc (ok_iadd (by decide +kernel) rfl) (
    okc (ok_putI (k := 10) (idx := 201) cX9_ok (by decide) rfl rfl w_1001 (by decide +kernel) rfl) ( okn))))))))))))))))))))))))))))))))))))))))))))))))))))))))))))
def pl_M_go_3 : List (Nat × mA) := [(235, a_goto 170), (238, a_aload 0 239), (239, a_iload 1 240), (240, a_if (fun x => decide (x ≠ 0)) 256 243), (243, a_aload 0 244), (244, a_getI 9 36 10 247), (247, a_aload 0 248), (248, a_getI 9 36 11 251), (251, a_bin (fun x y => x - y) 252), (252, a_push 4 253), (253, a_cmp (fun x y => decide (x ≤ y)) 260 256), (256, a_push 4 257), (257, a_goto 261), (260, a_push 2 261), (261, a_putI 9 36 12 264), (264, a_aload 0 265), (265, a_aload 0 266), (266, a_getI 9 36 10 269), (269, a_putI 9 36 14 272), (272, a_goto 303), (275, a_aload 0 276), (276, a_push 3 277), (277, a_putI 9 36 12 280), (280, a_aload 0 281), (281, a_aload 0 282), (282, a_getR 9 36 8 285), (285, a_aload 0 286), (286, a_getI 9 36 11 289), (289, a_ald 0 290), (290, a_putI 9 36 13 293), (293, a_aload 0 294), (294, a_dup 295), (295, a_getI 9 36 10 298), (298, a_push 1 299), (299, a_bin (fun x y => x + y) 300), (300, a_putI 9 36 10 303), (303, a_ret)]
set_option maxRecDepth 20000 in
theorem ol_M_go_3 : okall B sp D cA (SPf B sp Ls xs adK adV) MT ⟨"WreckSkyModel", "go", "()V"⟩ prog_11_method_59_code 2 (Option.none : Option Jvm.ClassFile.FieldType) (pl_M_go_3) := by
  unfold pl_M_go_3
  exact
    okc (ok_goto (off := -65) (by decide +kernel) rfl) (
    okc (ok_aload_n (k := 0) (by decide +kernel) rfl rfl) (
    okc (ok_iload_n (k := 1) (by decide +kernel) rfl rfl) (
    okc (ok_if_ne (off := 16) (by decide +kernel) rfl rfl) (
    okc (ok_aload_n (k := 0) (by decide +kernel) rfl rfl) (
    okc (ok_getI (k := 10) (idx := 201) cX9_ok (by decide) (by decide +kernel) w_1001 (by decide +kernel) rfl) (
    okc (ok_aload_n (k := 0) (by decide +kernel) rfl rfl) (
    okc (ok_getI (k := 11) (idx := 204) cX9_ok (by decide) (by decide +kernel) w_1002 (by decide +kernel) rfl) (
    okc (ok_isub (by decide +kernel) rfl) (
    okc (ok_iconst (n := 4) (by decide +kernel) rfl rfl) (
    okc (ok_cmp_le (off := 7) (by decide +kernel) rfl rfl) (
    okc (ok_iconst (n := 4) (by decide +kernel) rfl rfl) (
    okc (ok_goto (off := 4) (by decide +kernel) rfl) (
    okc (ok_iconst (n := 2) (by decide +kernel) rfl rfl) (
    okc (ok_putI (k := 12) (idx := 210) cX9_ok (by decide) rfl rfl w_1003 (by decide +kernel) rfl) (
    okc (ok_aload_n (k := 0) (by decide +kernel) rfl rfl) (
    okc (ok_aload_n (k := 0) (by decide +kernel) rfl rfl) (
    okc (ok_getI (k := 10) (idx := 201) cX9_ok (by decide) (by decide +kernel) w_1001 (by decide +kernel) rfl) (
    okc (ok_putI (k := 14) (idx := 207) cX9_ok (by decide) rfl rfl w_1005 (by decide +kernel) rfl) (
    okc (ok_goto (off := 31) (by decide +kernel) rfl) (
    okc (ok_aload_n (k := 0) (by decide +kernel) rfl rfl) (
    okc (ok_iconst (n := 3) (by decide +kernel) rfl rfl) (
    okc (ok_putI (k := 12) (idx := 210) cX9_ok (by decide) rfl rfl w_1003 (by decide +kernel) rfl) (
    okc (ok_aload_n (k := 0) (by decide +kernel) rfl rfl) (
    okc (ok_aload_n (k := 0) (by decide +kernel) rfl rfl) (
    okc (ok_getR (k := 8) (idx := 31) cX9_ok (by decide) (by decide +kernel) w_999 (by decide +kernel) rfl) (
    okc (ok_aload_n (k := 0) (by decide +kernel) rfl rfl) (
    okc (ok_getI (k := 11) (idx := 204) cX9_ok (by decide) (by decide +kernel) w_1002 (by decide +kernel) rfl) (
    okc (ok_iald (by decide +kernel) rfl) (
    okc (ok_putI (k := 13) (idx := 216) cX9_ok (by decide) rfl rfl w_1004 (by decide +kernel) rfl) (
    okc (ok_aload_n (k := 0) (by decide +kernel) rfl rfl) (
    okc (ok_dup (by decide +kernel) rfl) (
    okc (ok_getI (k := 10) (idx := 201) cX9_ok (by decide) (by decide +kernel) w_1001 (by decide +kernel) rfl) (
    okc (ok_iconst (n := 1) (by decide +kernel) rfl rfl) (
    okc (ok_iadd (by decide +kernel) rfl) (
    okc (ok_putI (k := 10) (idx := 201) cX9_ok (by decide) rfl rfl w_1001 (by decide +kernel) rfl) (
    okc (ok_ret rfl (by decide +kernel)) ( okn)))))))))))))))))))))))))))))))))))))
def pl_M_go : List (Nat × mA) := pl_M_go_1 ++ (pl_M_go_2 ++ (pl_M_go_3))
theorem ol_M_go : okall B sp D cA (SPf B sp Ls xs adK adV) MT ⟨"WreckSkyModel", "go", "()V"⟩ prog_11_method_59_code 2 (Option.none : Option Jvm.ClassFile.FieldType) (pl_M_go) := oka ol_M_go_1 (oka ol_M_go_2 (ol_M_go_3))
def pl_M_takesKey_1 : List (Nat × mA) := [(0, a_aload 0 1), (1, a_getI 9 36 12 4), (4, a_push 1 5), (5, a_cmp (fun x y => decide (x = y)) 10 8), (8, a_push 0 9), (9, a_zret), (10, a_push 0 11), (11, a_istore 1 12), (12, a_iload 1 13), (13, a_push 3 14), (14, a_cmp (fun x y => decide (y ≤ x)) 127 17), (17, a_aload 0 18), (18, a_getR 9 36 17 21), (21, a_iload 1 22), (22, a_push 1 23), (23, a_bin (fun x y => x + y) 24), (24, a_ald 0 25), (25, a_aload 0 26), (26, a_getR 9 36 17 29), (29, a_iload 1 30), (30, a_ald 0 31), (31, a_bin (fun x y => x - y) 32), (32, a_istore 2 33), (33, a_iload 2 34), (34, a_aload 0 35), (35, a_getI 9 36 10 38), (38, a_aload 0 39), (39, a_getI 9 36 11 42), (42, a_bin (fun x y => x - y) 43), (43, a_cmp (fun x y => decide (x ≠ y)) 50 46), (46, a_push 1 47), (47, a_goto 51), (50, a_push 0 51), (51, a_istore 3 52), (52, a_push 0 53), (53, a_istore 4 55), (55, a_iload 4 57), (57, a_iload 2 58), (58, a_cmp (fun x y => decide (y ≤ x)) 106 61), (61, a_iload 3 62), (62, a_if (fun x => decide (x = 0)) 106 65), (65, a_aload 0 66), (66, a_getR 9 36 8 69), (69, a_aload 0 70), (70, a_getI 9 36 11 73), (73, a_iload 4 75), (75, a_bin (fun x y => x + y) 76), (76, a_ald 0 77), (77, a_aload 0 78), (78, a_getR 9 36 16 81), (81, a_aload 0 82), (82, a_getR 9 36 17 85), (85, a_iload 1 86), (86, a_ald 0 87), (87, a_iload 4 89), (89, a_bin (fun x y => x + y) 90), (90, a_ald 2 91), (91, a_cmp (fun x y => decide (x ≠ y)) 98 94), (94, a_push 1 95), (95, a_goto 99)]
set_option maxRecDepth 20000 in
theorem ol_M_takesKey_1 : okall B sp D cA (SPf B sp Ls xs adK adV) MT ⟨"WreckSkyModel", "takesKey", "()Z"⟩ prog_11_method_60_code 5 (Option.some Jvm.ClassFile.FieldType.boolean) (pl_M_takesKey_1) := by
  unfold pl_M_takesKey_1
  exact
    okc (ok_aload_n (k := 0) (by decide +kernel) rfl rfl) (
    okc (ok_getI (k := 12) (idx := 210) cX9_ok (by decide) (by decide +kernel) w_1003 (by decide +kernel) rfl) (
    okc (ok_iconst (n := 1) (by decide +kernel) rfl rfl) (
    okc (ok_cmp_eq (off := 5) (by decide +kernel) rfl rfl) (
    okc (ok_iconst (n := 0) (by decide +kernel) rfl rfl) (
    okc (ok_zret rfl (by decide +kernel)) (
    okc (ok_iconst (n := 0) (by decide +kernel) rfl rfl) (
    okc (ok_istore_n (k := 1) (by decide +kernel) rfl rfl) (
    okc (ok_iload_n (k := 1) (by decide +kernel) rfl rfl) (
    okc (ok_iconst (n := 3) (by decide +kernel) rfl rfl) (
    okc (ok_cmp_ge (off := 113) (by decide +kernel) rfl rfl) (
    okc (ok_aload_n (k := 0) (by decide +kernel) rfl rfl) (
    okc (ok_getR (k := 17) (idx := 38) cX9_ok (by decide) (by decide +kernel) w_1008 (by decide +kernel) rfl) (
    okc (ok_iload_n (k := 1) (by decide +kernel) rfl rfl) (
    okc (ok_iconst (n := 1) (by decide +kernel) rfl rfl) (
    okc (ok_iadd (by decide +kernel) rfl) (
    okc (ok_iald (by decide +kernel) rfl) (
    okc (ok_aload_n (k := 0) (by decide +kernel) rfl rfl) (
    okc (ok_getR (k := 17) (idx := 38) cX9_ok (by decide) (by decide +kernel) w_1008 (by decide +kernel) rfl) (
    okc (ok_iload_n (k := 1) (by decide +kernel) rfl rfl) (
    okc (ok_iald (by decide +kernel) rfl) (
    okc (ok_isub (by decide +kernel) rfl) (
    okc (ok_istore_n (k := 2) (by decide +kernel) rfl rfl) (
    okc (ok_iload_n (k := 2) (by decide +kernel) rfl rfl) (
    okc (ok_aload_n (k := 0) (by decide +kernel) rfl rfl) (
    okc (ok_getI (k := 10) (idx := 201) cX9_ok (by decide) (by decide +kernel) w_1001 (by decide +kernel) rfl) (
    okc (ok_aload_n (k := 0) (by decide +kernel) rfl rfl) (
    okc (ok_getI (k := 11) (idx := 204) cX9_ok (by decide) (by decide +kernel) w_1002 (by decide +kernel) rfl) (
    okc (ok_isub (by decide +kernel) rfl) (
    okc (ok_cmp_ne (off := 7) (by decide +kernel) rfl rfl) (
    okc (ok_iconst (n := 1) (by decide +kernel) rfl rfl) (
    okc (ok_goto (off := 4) (by decide +kernel) rfl) (
    okc (ok_iconst (n := 0) (by decide +kernel) rfl rfl) (
    okc (ok_istore_n (k := 3) (by decide +kernel) rfl rfl) (
    okc (ok_iconst (n := 0) (by decide +kernel) rfl rfl) (
    okc (ok_istore (by decide +kernel) rfl) (
    okc (ok_iload (by decide +kernel) rfl) (
    okc (ok_iload_n (k := 2) (by decide +kernel) rfl rfl) (
    okc (ok_cmp_ge (off := 48) (by decide +kernel) rfl rfl) (
    okc (ok_iload_n (k := 3) (by decide +kernel) rfl rfl) (
    okc (ok_if_eq (off := 44) (by decide +kernel) rfl rfl) (
    okc (ok_aload_n (k := 0) (by decide +kernel) rfl rfl) (
    okc (ok_getR (k := 8) (idx := 31) cX9_ok (by decide) (by decide +kernel) w_999 (by decide +kernel) rfl) (
    okc (ok_aload_n (k := 0) (by decide +kernel) rfl rfl) (
    okc (ok_getI (k := 11) (idx := 204) cX9_ok (by decide) (by decide +kernel) w_1002 (by decide +kernel) rfl) (
    okc (ok_iload (by decide +kernel) rfl) (
    okc (ok_iadd (by decide +kernel) rfl) (
    okc (ok_iald (by decide +kernel) rfl) (
    okc (ok_aload_n (k := 0) (by decide +kernel) rfl rfl) (
    okc (ok_getR (k := 16) (idx := 34) cX9_ok (by decide) (by decide +kernel) w_1007 (by decide +kernel) rfl) (
    okc (ok_aload_n (k := 0) (by decide +kernel) rfl rfl) (
    okc (ok_getR (k := 17) (idx := 38) cX9_ok (by decide) (by decide +kernel) w_1008 (by decide +kernel) rfl) (
    okc (ok_iload_n (k := 1) (by decide +kernel) rfl rfl) (
    okc (ok_iald (by decide +kernel) rfl) (
    okc (ok_iload (by decide +kernel) rfl) (
    okc (ok_iadd (by decide +kernel) rfl) (
    okc (ok_cald (by decide +kernel) rfl) (
    okc (ok_cmp_ne (off := 7) (by decide +kernel) rfl rfl) (
    okc (ok_iconst (n := 1) (by decide +kernel) rfl rfl) (
    okc (ok_goto (off := 4) (by decide +kernel) rfl) ( okn))))))))))))))))))))))))))))))))))))))))))))))))))))))))))))
def pl_M_takesKey_2 : List (Nat × mA) := [(98, a_push 0 99), (99, a_istore 3 100), (100, a_iinc 4 1 103), (103, a_goto 55), (106, a_iload 3 107), (107, a_if (fun x => decide (x = 0)) 121 110), (110, a_aload 0 111), (111, a_iload 1 112), (112, a_putI 9 36 15 115), (115, a_aload 0 116), (116, a_callO 9 36 157 0 119), (119, a_push 1 120), (120, a_zret), (121, a_iinc 1 1 124), (124, a_goto 12), (127, a_push 0 128), (128, a_zret)]
set_option maxRecDepth 20000 in
theorem ol_M_takesKey_2 : okall B sp D cA (SPf B sp Ls xs adK adV) MT ⟨"WreckSkyModel", "takesKey", "()Z"⟩ prog_11_method_60_code 5 (Option.some Jvm.ClassFile.FieldType.boolean) (pl_M_takesKey_2) := by
  unfold pl_M_takesKey_2
  exact
    okc (ok_iconst (n := 0) (by decide +kernel) rfl rfl) (
    okc (ok_istore_n (k := 3) (by decide +kernel) rfl rfl) (
    okc (ok_iinc (n := 1) (by decide +kernel) rfl rfl) (
    okc (ok_goto (off := -48) (by decide +kernel) rfl) (
    okc (ok_iload_n (k := 3) (by decide +kernel) rfl rfl) (
    okc (ok_if_eq (off := 14) (by decide +kernel) rfl rfl) (
    okc (ok_aload_n (k := 0) (by decide +kernel) rfl rfl) (
    okc (ok_iload_n (k := 1) (by decide +kernel) rfl rfl) (
    okc (ok_putI (k := 15) (idx := 222) cX9_ok (by decide) rfl rfl w_1006 (by decide +kernel) rfl) (
    okc (ok_aload_n (k := 0) (by decide +kernel) rfl rfl) (
    okc (ok_callV (SPf_ok _ _ _ _ _ _) (mi := 157) (n := 0) (idx := 225) rfl m_M_go (by decide) cX9_ok w_1337 w_1339 w_45 (by decide +kernel) rfl) (
    okc (ok_iconst (n := 1) (by decide +kernel) rfl rfl) (
    okc (ok_zret rfl (by decide +kernel)) (
    okc (ok_iinc (n := 1) (by decide +kernel) rfl rfl) (
    okc (ok_goto (off := -112) (by decide +kernel) rfl) (
    okc (ok_iconst (n := 0) (by decide +kernel) rfl rfl) (
    okc (ok_zret rfl (by decide +kernel)) ( okn)))))))))))))))))
def pl_M_takesKey : List (Nat × mA) := pl_M_takesKey_1 ++ (pl_M_takesKey_2)
theorem ol_M_takesKey : okall B sp D cA (SPf B sp Ls xs adK adV) MT ⟨"WreckSkyModel", "takesKey", "()Z"⟩ prog_11_method_60_code 5 (Option.some Jvm.ClassFile.FieldType.boolean) (pl_M_takesKey) := oka ol_M_takesKey_1 (ol_M_takesKey_2)
end PR

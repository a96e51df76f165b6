section PR
variable {B : Nat} {sp : Nat → Value} {D : va_G} {cA : Nat → ClassId} {Ls : Nat} {xs : Nat → Int32} {adK adV : Nat → Nat}
def pl_L_law_12 (Ls : Nat) (xs : Nat → Int32) : List (Nat × mA) := [(1018, a_iload 3 1019), (1019, a_push 1 1020), (1020, a_bin (fun x y => x + y) 1021), (1021, a_sld Ls xs 1022), (1022, a_callO 9 36 58 1 1025), (1025, a_cmp (fun x y => decide (x = y)) 1462 1028), (1028, a_push 0 1029), (1029, a_zret), (1030, a_aload 1 1031), (1031, a_aload 0 1032), (1032, a_iload 3 1033), (1033, a_push 1 1034), (1034, a_bin (fun x y => x + y) 1035), (1035, a_sld Ls xs 1036), (1036, a_aload 0 1037), (1037, a_iload 3 1038), (1038, a_push 2 1039), (1039, a_bin (fun x y => x + y) 1040), (1040, a_sld Ls xs 1041), (1041, a_aload 0 1042), (1042, a_iload 3 1043), (1043, a_push 3 1044), (1044, a_bin (fun x y => x + y) 1045), (1045, a_sld Ls xs 1046), (1046, a_callO 8 10 59 3 1049), (1049, a_aload 2 1050), (1050, a_aload 0 1051), (1051, a_iload 3 1052), (1052, a_push 1 1053), (1053, a_bin (fun x y => x + y) 1054), (1054, a_sld Ls xs 1055), (1055, a_aload 0 1056), (1056, a_iload 3 1057), (1057, a_push 2 1058), (1058, a_bin (fun x y => x + y) 1059), (1059, a_sld Ls xs 1060), (1060, a_aload 0 1061), (1061, a_iload 3 1062), (1062, a_push 3 1063), (1063, a_bin (fun x y => x + y) 1064), (1064, a_sld Ls xs 1065), (1065, a_callO 9 36 60 3 1068), (1068, a_cmp (fun x y => decide (x = y)) 1462 1071), (1071, a_push 0 1072), (1072, a_zret), (1073, a_aload 1 1074), (1074, a_aload 0 1075), (1075, a_iload 3 1076), (1076, a_push 1 1077), (1077, a_bin (fun x y => x + y) 1078), (1078, a_sld Ls xs 1079), (1079, a_aload 0 1080), (1080, a_iload 3 1081), (1081, a_push 2 1082), (1082, a_bin (fun x y => x + y) 1083), (1083, a_sld Ls xs 1084), (1084, a_aload 0 1085), (1085, a_iload 3 1086), (1086, a_push 3 1087), (1087, a_bin (fun x y => x + y) 1088)]
set_option maxRecDepth 20000 in
theorem ol_L_law_12 : okall B sp D cA (SPf B sp Ls xs adK adV) MT ⟨"WreckSkyLaw", "law", "([I)Z"⟩ code maxLocals ret (pl_L_law_12 Ls xs) := by
  unfold pl_L_law_12
  exact
    okc (ok_iload_n (k := 3) (by decide +kernel) rfl rfl) (
    okc (ok_iconst (n := 1) (by decide +kernel) rfl rfl) (
    okc (ok_iadd (by decide +kernel) rfl) (
    okc (ok_sld (by decide +kernel) rfl) (
    okc (ok_callV (SPf_ok _ _ _ _ _ _) (mi := 58) (n := 1) (idx := 129) rfl m_M_why (by decide) cX9_ok w_1384 w_1385 w_1386 (by decide +kernel) rfl) (
    okc (ok_cmp_eq (off := 437) (by decide +kernel) rfl rfl) (
    okc (ok_iconst (n := 0) (by decide +kernel) rfl rfl) (
    okc (ok_zret rfl (by decide +kernel)) (
    okc (ok_aload_n (k := 1) (by decide +kernel) rfl rfl) (
    okc (ok_aload_n (k := 0) (by decide +kernel) rfl rfl) (
    okc (ok_iload_n (k := 3) (by decide +kernel) rfl rfl) (
    okc (ok_iconst (n := 1) (by decide +kernel) rfl rfl) (
    okc (ok_iadd (by decide +kernel) rfl) (
    okc (ok_sld (by decide +kernel) rfl) (
    okc (ok_aload_n (k := 0) (by decide +kernel) rfl rfl) (
    okc (ok_iload_n (k := 3) (by decide +kernel) rfl rfl) (
    okc (ok_iconst (n := 2) (by decide +kernel) rfl rfl) (
    okc (ok_iadd (by decide +kernel) rfl) (
    okc (ok_sld (by decide +kernel) rfl) (
    okc (ok_aload_n (k := 0) (by decide +kernel) rfl rfl) (
    okc (ok_iload_n (k := 3) (by decide +kernel) rfl rfl) (
    okc (ok_iconst (n := 3) (by decide +kernel) rfl rfl) (
    okc (ok_iadd (by decide +kernel) rfl) (
    okc (ok_sld (by decide +kernel) rfl) (
    okc (ok_callV (SPf_ok _ _ _ _ _ _) (mi := 59) (n := 3) (idx := 130) rfl m_W_sheet (by decide) cX8_ok w_890 w_891 w_892 (by decide +kernel) rfl) (
    okc (ok_aload_n (k := 2) (by decide +kernel) rfl rfl) (
    okc (ok_aload_n (k := 0) (by decide +kernel) rfl rfl) (
    okc (ok_iload_n (k := 3) (by decide +kernel) rfl rfl) (
    okc (ok_iconst (n := 1) (by decide +kernel) rfl rfl) (
    okc (ok_iadd (by decide +kernel) rfl) (
    okc (ok_sld (by decide +kernel) rfl) (
    okc (ok_aload_n (k := 0) (by decide +kernel) rfl rfl) (
    okc (ok_iload_n (k := 3) (by decide +kernel) rfl rfl) (
    okc (ok_iconst (n := 2) (by decide +kernel) rfl rfl) (
    okc (ok_iadd (by decide +kernel) rfl) (
    okc (ok_sld (by decide +kernel) rfl) (
    okc (ok_aload_n (k := 0) (by decide +kernel) rfl rfl) (
    okc (ok_iload_n (k := 3) (by decide +kernel) rfl rfl) (
    okc (ok_iconst (n := 3) (by decide +kernel) rfl rfl) (
    okc (ok_iadd (by decide +kernel) rfl) (
    okc (ok_sld (by decide +kernel) rfl) (
    okc (ok_callV (SPf_ok _ _ _ _ _ _) (mi := 60) (n := 3) (idx := 133) rfl m_M_sheet (by decide) cX9_ok w_1388 w_1389 w_1390 (by decide +kernel) rfl) (
    okc (ok_cmp_eq (off := 394) (by decide +kernel) rfl rfl) (
    okc (ok_iconst (n := 0) (by decide +kernel) rfl rfl) (
    okc (ok_zret rfl (by decide +kernel)) (
    okc (ok_aload_n (k := 1) (by decide +kernel) rfl rfl) (
    okc (ok_aload_n (k := 0) (by decide +kernel) rfl rfl) (
    okc (ok_iload_n (k := 3) (by decide +kernel) rfl rfl) (
    okc (ok_iconst (n := 1) (by decide +kernel) rfl rfl) (
    okc (ok_iadd (by decide +kernel) rfl) (
    okc (ok_sld (by decide +kernel) rfl) (
    okc (ok_aload_n (k := 0) (by decide +kernel) rfl rfl) (
    okc (ok_iload_n (k := 3) (by decide +kernel) rfl rfl) (
    okc (ok_iconst (n := 2) (by decide +kernel) rfl rfl) (
    okc (ok_iadd (by decide +kernel) rfl) (
    okc (ok_sld (by decide +kernel) rfl) (
    okc (ok_aload_n (k := 0) (by decide +kernel) rfl rfl) (
    okc (ok_iload_n (k := 3) (by decide +kernel) rfl rfl) (
    okc (ok_iconst (n := 3) (by decide +kernel) rfl rfl) (
    okc (ok_iadd (by decide +kernel) rfl) ( okn))))))))))))))))))))))))))))))))))))))))))))))))))))))))))))
def pl_L_law_13 (Ls : Nat) (xs : Nat → Int32) : List (Nat × mA) := [(1088, a_sld Ls xs 1089), (1089, a_callO 8 10 61 3 1092), (1092, a_aload 2 1093), (1093, a_aload 0 1094), (1094, a_iload 3 1095), (1095, a_push 1 1096), (1096, a_bin (fun x y => x + y) 1097), (1097, a_sld Ls xs 1098), (1098, a_aload 0 1099), (1099, a_iload 3 1100), (1100, a_push 2 1101), (1101, a_bin (fun x y => x + y) 1102), (1102, a_sld Ls xs 1103), (1103, a_aload 0 1104), (1104, a_iload 3 1105), (1105, a_push 3 1106), (1106, a_bin (fun x y => x + y) 1107), (1107, a_sld Ls xs 1108), (1108, a_callO 9 36 62 3 1111), (1111, a_cmp (fun x y => decide (x = y)) 1462 1114), (1114, a_push 0 1115), (1115, a_zret), (1116, a_aload 1 1117), (1117, a_aload 0 1118), (1118, a_iload 3 1119), (1119, a_push 1 1120), (1120, a_bin (fun x y => x + y) 1121), (1121, a_sld Ls xs 1122), (1122, a_callO 8 10 63 1 1125), (1125, a_aload 2 1126), (1126, a_aload 0 1127), (1127, a_iload 3 1128), (1128, a_push 1 1129), (1129, a_bin (fun x y => x + y) 1130), (1130, a_sld Ls xs 1131), (1131, a_callO 9 36 64 1 1134), (1134, a_cmp (fun x y => decide (x = y)) 1462 1137), (1137, a_push 0 1138), (1138, a_zret), (1139, a_aload 1 1140), (1140, a_aload 0 1141), (1141, a_iload 3 1142), (1142, a_push 1 1143), (1143, a_bin (fun x y => x + y) 1144), (1144, a_sld Ls xs 1145), (1145, a_callO 8 10 65 1 1148), (1148, a_aload 2 1149), (1149, a_aload 0 1150), (1150, a_iload 3 1151), (1151, a_push 1 1152), (1152, a_bin (fun x y => x + y) 1153), (1153, a_sld Ls xs 1154), (1154, a_callO 9 36 66 1 1157), (1157, a_cmp (fun x y => decide (x = y)) 1462 1160), (1160, a_push 0 1161), (1161, a_zret), (1162, a_aload 1 1163), (1163, a_aload 0 1164), (1164, a_iload 3 1165), (1165, a_push 1 1166)]
set_option maxRecDepth 20000 in
theorem ol_L_law_13 : okall B sp D cA (SPf B sp Ls xs adK adV) MT ⟨"WreckSkyLaw", "law", "([I)Z"⟩ code maxLocals ret (pl_L_law_13 Ls xs) := by
  unfold pl_L_law_13
  exact
    okc (ok_sld (by decide +kernel) rfl) (
    okc (ok_callV (SPf_ok _ _ _ _ _ _) (mi := 61) (n := 3) (idx := 134) rfl m_W_mark (by decide) cX8_ok w_900 w_901 w_902 (by decide +kernel) rfl) (
    okc (ok_aload_n (k := 2) (by decide +kernel) rfl rfl) (
    okc (ok_aload_n (k := 0) (by decide +kernel) rfl rfl) (
    okc (ok_iload_n (k := 3) (by decide +kernel) rfl rfl) (
    okc (ok_iconst (n := 1) (by decide +kernel) rfl rfl) (
    okc (ok_iadd (by decide +kernel) rfl) (
    okc (ok_sld (by decide +kernel) rfl) (
    okc (ok_aload_n (k := 0) (by decide +kernel) rfl rfl) (
    okc (ok_iload_n (k := 3) (by decide +kernel) rfl rfl) (
    okc (ok_iconst (n := 2) (by decide +kernel) rfl rfl) (
    okc (ok_iadd (by decide +kernel) rfl) (
    okc (ok_sld (by decide +kernel) rfl) (
    okc (ok_aload_n (k := 0) (by decide +kernel) rfl rfl) (
    okc (ok_iload_n (k := 3) (by decide +kernel) rfl rfl) (
    okc (ok_iconst (n := 3) (by decide +kernel) rfl rfl) (
    okc (ok_iadd (by decide +kernel) rfl) (
    okc (ok_sld (by decide +kernel) rfl) (
    okc (ok_callV (SPf_ok _ _ _ _ _ _) (mi := 62) (n := 3) (idx := 137) rfl m_M_mark (by decide) cX9_ok w_1393 w_1394 w_1395 (by decide +kernel) rfl) (
    okc (ok_cmp_eq (off := 351) (by decide +kernel) rfl rfl) (
    okc (ok_iconst (n := 0) (by decide +kernel) rfl rfl) (
    okc (ok_zret rfl (by decide +kernel)) (
    okc (ok_aload_n (k := 1) (by decide +kernel) rfl rfl) (
    okc (ok_aload_n (k := 0) (by decide +kernel) rfl rfl) (
    okc (ok_iload_n (k := 3) (by decide +kernel) rfl rfl) (
    okc (ok_iconst (n := 1) (by decide +kernel) rfl rfl) (
    okc (ok_iadd (by decide +kernel) rfl) (
    okc (ok_sld (by decide +kernel) rfl) (
    okc (ok_callV (SPf_ok _ _ _ _ _ _) (mi := 63) (n := 1) (idx := 138) rfl m_W_pour (by decide) cX8_ok w_908 w_909 w_910 (by decide +kernel) rfl) (
    okc (ok_aload_n (k := 2) (by decide +kernel) rfl rfl) (
    okc (ok_aload_n (k := 0) (by decide +kernel) rfl rfl) (
    okc (ok_iload_n (k := 3) (by decide +kernel) rfl rfl) (
    okc (ok_iconst (n := 1) (by decide +kernel) rfl rfl) (
    okc (ok_iadd (by decide +kernel) rfl) (
    okc (ok_sld (by decide +kernel) rfl) (
    okc (ok_callV (SPf_ok _ _ _ _ _ _) (mi := 64) (n := 1) (idx := 141) rfl m_M_pour (by decide) cX9_ok w_1400 w_1401 w_1402 (by decide +kernel) rfl) (
    okc (ok_cmp_eq (off := 328) (by decide +kernel) rfl rfl) (
    okc (ok_iconst (n := 0) (by decide +kernel) rfl rfl) (
    okc (ok_zret rfl (by decide +kernel)) (
    okc (ok_aload_n (k := 1) (by decide +kernel) rfl rfl) (
    okc (ok_aload_n (k := 0) (by decide +kernel) rfl rfl) (
    okc (ok_iload_n (k := 3) (by decide +kernel) rfl rfl) (
    okc (ok_iconst (n := 1) (by decide +kernel) rfl rfl) (
    okc (ok_iadd (by decide +kernel) rfl) (
    okc (ok_sld (by decide +kernel) rfl) (
    okc (ok_callV (SPf_ok _ _ _ _ _ _) (mi := 65) (n := 1) (idx := 142) rfl m_W_reads (by decide) cX8_ok w_914 w_915 w_916 (by decide +kernel) rfl) (
    okc (ok_aload_n (k := 2) (by decide +kernel) rfl rfl) (
    okc (ok_aload_n (k := 0) (by decide +kernel) rfl rfl) (
    okc (ok_iload_n (k := 3) (by decide +kernel) rfl rfl) (
    okc (ok_iconst (n := 1) (by decide +kernel) rfl rfl) (
    okc (ok_iadd (by decide +kernel) rfl) (
    okc (ok_sld (by decide +kernel) rfl) (
    okc (ok_callV (SPf_ok _ _ _ _ _ _) (mi := 66) (n := 1) (idx := 145) rfl m_M_reads (by decide) cX9_ok w_1404 w_1405 w_1406 (by decide +kernel) rfl) (
    okc (ok_cmp_eq (off := 305) (by decide +kernel) rfl rfl) (
    okc (ok_iconst (n := 0) (by decide +kernel) rfl rfl) (
    okc (ok_zret rfl (by decide +kernel)) (
    okc (ok_aload_n (k := 1) (by decide +kernel) rfl rfl) (
    okc (ok_aload_n (k := 0) (by decide +kernel) rfl rfl) (
    okc (ok_iload_n (k := 3) (by decide +kernel) rfl rfl) (
    okc (ok_iconst (n := 1) (by decide +kernel) rfl rfl) ( okn))))))))))))))))))))))))))))))))))))))))))))))))))))))))))))
def pl_L_law_14 (Ls : Nat) (xs : Nat → Int32) : List (Nat × mA) := [(1166, a_bin (fun x y => x + y) 1167), (1167, a_sld Ls xs 1168), (1168, a_aload 0 1169), (1169, a_iload 3 1170), (1170, a_push 2 1171), (1171, a_bin (fun x y => x + y) 1172), (1172, a_sld Ls xs 1173), (1173, a_aload 0 1174), (1174, a_iload 3 1175), (1175, a_push 3 1176), (1176, a_bin (fun x y => x + y) 1177), (1177, a_sld Ls xs 1178), (1178, a_aload 0 1179), (1179, a_iload 3 1180), (1180, a_push 4 1181), (1181, a_bin (fun x y => x + y) 1182), (1182, a_sld Ls xs 1183), (1183, a_aload 0 1184), (1184, a_iload 3 1185), (1185, a_push 5 1186), (1186, a_bin (fun x y => x + y) 1187), (1187, a_sld Ls xs 1188), (1188, a_callO 8 10 67 5 1191), (1191, a_aload 2 1192), (1192, a_aload 0 1193), (1193, a_iload 3 1194), (1194, a_push 1 1195), (1195, a_bin (fun x y => x + y) 1196), (1196, a_sld Ls xs 1197), (1197, a_aload 0 1198), (1198, a_iload 3 1199), (1199, a_push 2 1200), (1200, a_bin (fun x y => x + y) 1201), (1201, a_sld Ls xs 1202), (1202, a_aload 0 1203), (1203, a_iload 3 1204), (1204, a_push 3 1205), (1205, a_bin (fun x y => x + y) 1206), (1206, a_sld Ls xs 1207), (1207, a_aload 0 1208), (1208, a_iload 3 1209), (1209, a_push 4 1210), (1210, a_bin (fun x y => x + y) 1211), (1211, a_sld Ls xs 1212), (1212, a_aload 0 1213), (1213, a_iload 3 1214), (1214, a_push 5 1215), (1215, a_bin (fun x y => x + y) 1216), (1216, a_sld Ls xs 1217), (1217, a_callO 9 36 68 5 1220), (1220, a_cmp (fun x y => decide (x = y)) 1462 1223), (1223, a_push 0 1224), (1224, a_zret), (1225, a_aload 1 1226), (1226, a_aload 0 1227), (1227, a_iload 3 1228), (1228, a_push 1 1229), (1229, a_bin (fun x y => x + y) 1230), (1230, a_sld Ls xs 1231), (1231, a_aload 0 1232)]
set_option maxRecDepth 20000 in
theorem ol_L_law_14 : okall B sp D cA (SPf B sp Ls xs adK adV) MT ⟨"WreckSkyLaw", "law", "([I)Z"⟩ code maxLocals ret (pl_L_law_14 Ls xs) := by
  unfold pl_L_law_14
  exact
    okc (ok_iadd (by decide +kernel) rfl) (
    okc (ok_sld (by decide +kernel) rfl) (
    okc (ok_aload_n (k := 0) (by decide +kernel) rfl rfl) (
    okc (ok_iload_n (k := 3) (by decide +kernel) rfl rfl) (
    okc (ok_iconst (n := 2) (by decide +kernel) rfl rfl) (
    okc (ok_iadd (by decide +kernel) rfl) (
    okc (ok_sld (by decide +kernel) rfl) (
    okc (ok_aload_n (k := 0) (by decide +kernel) rfl rfl) (
    okc (ok_iload_n (k := 3) (by decide +kernel) rfl rfl) (
    okc (ok_iconst (n := 3) (by decide +kernel) rfl rfl) (
    okc (ok_iadd (by decide +kernel) rfl) (
    okc (ok_sld (by decide +kernel) rfl) (
    okc (ok_aload_n (k := 0) (by decide +kernel) rfl rfl) (
    okc (ok_iload_n (k := 3) (by decide +kernel) rfl rfl) (
    okc (ok_iconst (n := 4) (by decide +kernel) rfl rfl) (
    okc (ok_iadd (by decide +kernel) rfl) (
    okc (ok_sld (by decide +kernel) rfl) (
    okc (ok_aload_n (k := 0) (by decide +kernel) rfl rfl) (
    okc (ok_iload_n (k := 3) (by decide +kernel) rfl rfl) (
    okc (ok_iconst (n := 5) (by decide +kernel) rfl rfl) (
    okc (ok_iadd (by decide +kernel) rfl) (
    okc (ok_sld (by decide +kernel) rfl) (
    okc (ok_callV (SPf_ok _ _ _ _ _ _) (mi := 67) (n := 5) (idx := 146) rfl m_W_copy (by decide) cX8_ok w_918 w_919 w_920 (by decide +kernel) rfl) (
    okc (ok_aload_n (k := 2) (by decide +kernel) rfl rfl) (
    okc (ok_aload_n (k := 0) (by decide +kernel) rfl rfl) (
    okc (ok_iload_n (k := 3) (by decide +kernel) rfl rfl) (
    okc (ok_iconst (n := 1) (by decide +kernel) rfl rfl) (
    okc (ok_iadd (by decide +kernel) rfl) (
    okc (ok_sld (by decide +kernel) rfl) (
    okc (ok_aload_n (k := 0) (by decide +kernel) rfl rfl) (
    okc (ok_iload_n (k := 3) (by decide +kernel) rfl rfl) (
    okc (ok_iconst (n := 2) (by decide +kernel) rfl rfl) (
    okc (ok_iadd (by decide +kernel) rfl) (
    okc (ok_sld (by decide +kernel) rfl) (
    okc (ok_aload_n (k := 0) (by decide +kernel) rfl rfl) (
    okc (ok_iload_n (k := 3) (by decide +kernel) rfl rfl) (
    okc (ok_iconst (n := 3) (by decide +kernel) rfl rfl) (
    okc (ok_iadd (by decide +kernel) rfl) (
    okc (ok_sld (by decide +kernel) rfl) (
    okc (ok_aload_n (k := 0) (by decide +kernel) rfl rfl) (
    okc (ok_iload_n (k := 3) (by decide +kernel) rfl rfl) (
    okc (ok_iconst (n := 4) (by decide +kernel) rfl rfl) (
    okc (ok_iadd (by decide +kernel) rfl) (
    okc (ok_sld (by decide +kernel) rfl) (
    okc (ok_aload_n (k := 0) (by decide +kernel) rfl rfl) (
    okc (ok_iload_n (k := 3) (by decide +kernel) rfl rfl) (
    okc (ok_iconst (n := 5) (by decide +kernel) rfl rfl) (
    okc (ok_iadd (by decide +kernel) rfl) (
    okc (ok_sld (by decide +kernel) rfl) (
    okc (ok_callV (SPf_ok _ _ _ _ _ _) (mi := 68) (n := 5) (idx := 149) rfl m_M_copy (by decide) cX9_ok w_1408 w_1409 w_1410 (by decide +kernel) rfl) (
    okc (ok_cmp_eq (off := 242) (by decide +kernel) rfl rfl) (
    okc (ok_iconst (n := 0) (by decide +kernel) rfl rfl) (
    okc (ok_zret rfl (by decide +kernel)) (
    okc (ok_aload_n (k := 1) (by decide +kernel) rfl rfl) (
    okc (ok_aload_n (k := 0) (by decide +kernel) rfl rfl) (
    okc (ok_iload_n (k := 3) (by decide +kernel) rfl rfl) (
    okc (ok_iconst (n := 1) (by decide +kernel) rfl rfl) (
    okc (ok_iadd (by decide +kernel) rfl) (
    okc (ok_sld (by decide +kernel) rfl) (
    okc (ok_aload_n (k := 0) (by decide +kernel) rfl rfl) ( okn))))))))))))))))))))))))))))))))))))))))))))))))))))))))))))
def pl_L_law_15 (Ls : Nat) (xs : Nat → Int32) : List (Nat × mA) := [(1232, a_iload 3 1233), (1233, a_push 2 1234), (1234, a_bin (fun x y => x + y) 1235), (1235, a_sld Ls xs 1236), (1236, a_aload 0 1237), (1237, a_iload 3 1238), (1238, a_push 3 1239), (1239, a_bin (fun x y => x + y) 1240), (1240, a_sld Ls xs 1241), (1241, a_callO 8 10 69 3 1244), (1244, a_aload 2 1245), (1245, a_aload 0 1246), (1246, a_iload 3 1247), (1247, a_push 1 1248), (1248, a_bin (fun x y => x + y) 1249), (1249, a_sld Ls xs 1250), (1250, a_aload 0 1251), (1251, a_iload 3 1252), (1252, a_push 2 1253), (1253, a_bin (fun x y => x + y) 1254), (1254, a_sld Ls xs 1255), (1255, a_aload 0 1256), (1256, a_iload 3 1257), (1257, a_push 3 1258), (1258, a_bin (fun x y => x + y) 1259), (1259, a_sld Ls xs 1260), (1260, a_callO 9 36 70 3 1263), (1263, a_cmp (fun x y => decide (x = y)) 1462 1266), (1266, a_push 0 1267), (1267, a_zret), (1268, a_aload 1 1269), (1269, a_aload 0 1270), (1270, a_iload 3 1271), (1271, a_push 1 1272), (1272, a_bin (fun x y => x + y) 1273), (1273, a_sld Ls xs 1274), (1274, a_aload 0 1275), (1275, a_iload 3 1276), (1276, a_push 2 1277), (1277, a_bin (fun x y => x + y) 1278), (1278, a_sld Ls xs 1279), (1279, a_callO 8 10 71 2 1282), (1282, a_aload 2 1283), (1283, a_aload 0 1284), (1284, a_iload 3 1285), (1285, a_push 1 1286), (1286, a_bin (fun x y => x + y) 1287), (1287, a_sld Ls xs 1288), (1288, a_aload 0 1289), (1289, a_iload 3 1290), (1290, a_push 2 1291), (1291, a_bin (fun x y => x + y) 1292), (1292, a_sld Ls xs 1293), (1293, a_callO 9 36 72 2 1296), (1296, a_cmp (fun x y => decide (x = y)) 1462 1299), (1299, a_push 0 1300), (1300, a_zret), (1301, a_aload 1 1302), (1302, a_aload 0 1303), (1303, a_iload 3 1304)]
set_option maxRecDepth 20000 in
theorem ol_L_law_15 : okall B sp D cA (SPf B sp Ls xs adK adV) MT ⟨"WreckSkyLaw", "law", "([I)Z"⟩ code maxLocals ret (pl_L_law_15 Ls xs) := by
  unfold pl_L_law_15
  exact
    okc (ok_iload_n (k := 3) (by decide +kernel) rfl rfl) (
    okc (ok_iconst (n := 2) (by decide +kernel) rfl rfl) (
    okc (ok_iadd (by decide +kernel) rfl) (
    okc (ok_sld (by decide +kernel) rfl) (
    okc (ok_aload_n (k := 0) (by decide +kernel) rfl rfl) (
    okc (ok_iload_n (k := 3) (by decide +kernel) rfl rfl) (
    okc (ok_iconst (n := 3) (by decide +kernel) rfl rfl) (
    okc (ok_iadd (by decide +kernel) rfl) (
    okc (ok_sld (by decide +kernel) rfl) (
    okc (ok_callV (SPf_ok _ _ _ _ _ _) (mi := 69) (n := 3) (idx := 150) rfl m_W_lay (by decide) cX8_ok w_927 w_928 w_929 (by decide +kernel) rfl) (
    okc (ok_aload_n (k := 2) (by decide +kernel) rfl rfl) (
    okc (ok_aload_n (k := 0) (by decide +kernel) rfl rfl) (
    okc (ok_iload_n (k := 3) (by decide +kernel) rfl rfl) (
    okc (ok_iconst (n := 1) (by decide +kernel) rfl rfl) (
    okc (ok_iadd (by decide +kernel) rfl) (
    okc (ok_sld (by decide +kernel) rfl) (
    okc (ok_aload_n (k := 0) (by decide +kernel) rfl rfl) (
    okc (ok_iload_n (k := 3) (by decide +kernel) rfl rfl) (
    okc (ok_iconst (n := 2) (by decide +kernel) rfl rfl) (
    okc (ok_iadd (by decide +kernel) rfl) (
    okc (ok_sld (by decide +kernel) rfl) (
    okc (ok_aload_n (k := 0) (by decide +kernel) rfl rfl) (
    okc (ok_iload_n (k := 3) (by decide +kernel) rfl rfl) (
    okc (ok_iconst (n := 3) (by decide +kernel) rfl rfl) (
    okc (ok_iadd (by decide +kernel) rfl) (
    okc (ok_sld (by decide +kernel) rfl) (
    okc (ok_callV (SPf_ok _ _ _ _ _ _) (mi := 70) (n := 3) (idx := 153) rfl m_M_lay (by decide) cX9_ok w_1412 w_1413 w_1414 (by decide +kernel) rfl) (
    okc (ok_cmp_eq (off := 199) (by decide +kernel) rfl rfl) (
    okc (ok_iconst (n := 0) (by decide +kernel) rfl rfl) (
    okc (ok_zret rfl (by decide +kernel)) (
    okc (ok_aload_n (k := 1) (by decide +kernel) rfl rfl) (
    okc (ok_aload_n (k := 0) (by decide +kernel) rfl rfl) (
    okc (ok_iload_n (k := 3) (by decide +kernel) rfl rfl) (
    okc (ok_iconst (n := 1) (by decide +kernel) rfl rfl) (
    okc (ok_iadd (by decide +kernel) rfl) (
    okc (ok_sld (by decide +kernel) rfl) (
    okc (ok_aload_n (k := 0) (by decide +kernel) rfl rfl) (
    okc (ok_iload_n (k := 3) (by decide +kernel) rfl rfl) (
    okc (ok_iconst (n := 2) (by decide +kernel) rfl rfl) (
    okc (ok_iadd (by decide +kernel) rfl) (
    okc (ok_sld (by decide +kernel) rfl) (
    okc (ok_callV (SPf_ok _ _ _ _ _ _) (mi := 71) (n := 2) (idx := 154) rfl m_W_ask (by decide) cX8_ok w_940 w_941 w_942 (by decide +kernel) rfl) (
    okc (ok_aload_n (k := 2) (by decide +kernel) rfl rfl) (
    okc (ok_aload_n (k := 0) (by decide +kernel) rfl rfl) (
    okc (ok_iload_n (k := 3) (by decide +kernel) rfl rfl) (
    okc (ok_iconst (n := 1) (by decide +kernel) rfl rfl) (
    okc (ok_iadd (by decide +kernel) rfl) (
    okc (ok_sld (by decide +kernel) rfl) (
    okc (ok_aload_n (k := 0) (by decide +kernel) rfl rfl) (
    okc (ok_iload_n (k := 3) (by decide +kernel) rfl rfl) (
    okc (ok_iconst (n := 2) (by decide +kernel) rfl rfl) (
    okc (ok_iadd (by decide +kernel) rfl) (
    okc (ok_sld (by decide +kernel) rfl) (
    okc (ok_callV (SPf_ok _ _ _ _ _ _) (mi := 72) (n := 2) (idx := 157) rfl m_M_ask (by decide) cX9_ok w_1419 w_1420 w_1421 (by decide +kernel) rfl) (
    okc (ok_cmp_eq (off := 166) (by decide +kernel) rfl rfl) (
    okc (ok_iconst (n := 0) (by decide +kernel) rfl rfl) (
    okc (ok_zret rfl (by decide +kernel)) (
    okc (ok_aload_n (k := 1) (by decide +kernel) rfl rfl) (
    okc (ok_aload_n (k := 0) (by decide +kernel) rfl rfl) (
    okc (ok_iload_n (k := 3) (by decide +kernel) rfl rfl) ( okn))))))))))))))))))))))))))))))))))))))))))))))))))))))))))))
def pl_L_law_16 (Ls : Nat) (xs : Nat → Int32) : List (Nat × mA) := [(1304, a_push 1 1305), (1305, a_bin (fun x y => x + y) 1306), (1306, a_sld Ls xs 1307), (1307, a_aload 0 1308), (1308, a_iload 3 1309), (1309, a_push 2 1310), (1310, a_bin (fun x y => x + y) 1311), (1311, a_sld Ls xs 1312), (1312, a_callO 8 10 73 2 1315), (1315, a_aload 2 1316), (1316, a_aload 0 1317), (1317, a_iload 3 1318), (1318, a_push 1 1319), (1319, a_bin (fun x y => x + y) 1320), (1320, a_sld Ls xs 1321), (1321, a_aload 0 1322), (1322, a_iload 3 1323), (1323, a_push 2 1324), (1324, a_bin (fun x y => x + y) 1325), (1325, a_sld Ls xs 1326), (1326, a_callO 9 36 74 2 1329), (1329, a_cmp (fun x y => decide (x = y)) 1462 1332), (1332, a_push 0 1333), (1333, a_zret), (1334, a_aload 1 1335), (1335, a_aload 0 1336), (1336, a_iload 3 1337), (1337, a_push 1 1338), (1338, a_bin (fun x y => x + y) 1339), (1339, a_sld Ls xs 1340), (1340, a_aload 0 1341), (1341, a_iload 3 1342), (1342, a_push 2 1343), (1343, a_bin (fun x y => x + y) 1344), (1344, a_sld Ls xs 1345), (1345, a_callO 8 10 75 2 1348), (1348, a_aload 2 1349), (1349, a_aload 0 1350), (1350, a_iload 3 1351), (1351, a_push 1 1352), (1352, a_bin (fun x y => x + y) 1353), (1353, a_sld Ls xs 1354), (1354, a_aload 0 1355), (1355, a_iload 3 1356), (1356, a_push 2 1357), (1357, a_bin (fun x y => x + y) 1358), (1358, a_sld Ls xs 1359), (1359, a_callO 9 36 76 2 1362), (1362, a_cmp (fun x y => decide (x = y)) 1462 1365), (1365, a_push 0 1366), (1366, a_zret), (1367, a_aload 1 1368), (1368, a_aload 0 1369), (1369, a_iload 3 1370), (1370, a_push 1 1371), (1371, a_bin (fun x y => x + y) 1372), (1372, a_sld Ls xs 1373), (1373, a_callO 8 10 77 1 1376), (1376, a_aload 2 1377), (1377, a_aload 0 1378)]
set_option maxRecDepth 20000 in
theorem ol_L_law_16 : okall B sp D cA (SPf B sp Ls xs adK adV) MT ⟨"WreckSkyLaw", "law", "([I)Z"⟩ code maxLocals ret (pl_L_law_16 Ls xs) := by
  unfold pl_L_law_16
  exact
    okc (ok_iconst (n := 1) (by decide +kernel) rfl rfl) (
    okc (ok_iadd (by decide +kernel) rfl) (
    okc (ok_sld (by decide +kernel) rfl) (
    okc (ok_aload_n (k := 0) (by decide +kernel) rfl rfl) (
    okc (ok_iload_n (k := 3) (by decide +kernel) rfl rfl) (
    okc (ok_iconst (n := 2) (by decide +kernel) rfl rfl) (
    okc (ok_iadd (by decide +kernel) rfl) (
    okc (ok_sld (by decide +kernel) rfl) (
    okc (ok_callV (SPf_ok _ _ _ _ _ _) (mi := 73) (n := 2) (idx := 158) rfl m_W_item (by decide) cX8_ok w_948 w_949 w_950 (by decide +kernel) rfl) (
    okc (ok_aload_n (k := 2) (by decide +kernel) rfl rfl) (
    okc (ok_aload_n (k := 0) (by decide +kernel) rfl rfl) (
    okc (ok_iload_n (k := 3) (by decide +kernel) rfl rfl) (
    okc (ok_iconst (n := 1) (by decide +kernel) rfl rfl) (
    okc (ok_iadd (by decide +kernel) rfl) (
    okc (ok_sld (by decide +kernel) rfl) (
    okc (ok_aload_n (k := 0) (by decide +kernel) rfl rfl) (
    okc (ok_iload_n (k := 3) (by decide +kernel) rfl rfl) (
    okc (ok_iconst (n := 2) (by decide +kernel) rfl rfl) (
    okc (ok_iadd (by decide +kernel) rfl) (
    okc (ok_sld (by decide +kernel) rfl) (
    okc (ok_callV (SPf_ok _ _ _ _ _ _) (mi := 74) (n := 2) (idx := 161) rfl m_M_item (by decide) cX9_ok w_1423 w_1424 w_1425 (by decide +kernel) rfl) (
    okc (ok_cmp_eq (off := 133) (by decide +kernel) rfl rfl) (
    okc (ok_iconst (n := 0) (by decide +kernel) rfl rfl) (
    okc (ok_zret rfl (by decide +kernel)) (
    okc (ok_aload_n (k := 1) (by decide +kernel) rfl rfl) (
    okc (ok_aload_n (k := 0) (by decide +kernel) rfl rfl) (
    okc (ok_iload_n (k := 3) (by decide +kernel) rfl rfl) (
    okc (ok_iconst (n := 1) (by decide +kernel) rfl rfl) (
    okc (ok_iadd (by decide +kernel) rfl) (
    okc (ok_sld (by decide +kernel) rfl) (
    okc (ok_aload_n (k := 0) (by decide +kernel) rfl rfl) (
    okc (ok_iload_n (k := 3) (by decide +kernel) rfl rfl) (
    okc (ok_iconst (n := 2) (by decide +kernel) rfl rfl) (
    okc (ok_iadd (by decide +kernel) rfl) (
    okc (ok_sld (by decide +kernel) rfl) (
    okc (ok_callV (SPf_ok _ _ _ _ _ _) (mi := 75) (n := 2) (idx := 162) rfl m_W_rest (by decide) cX8_ok w_952 w_953 w_954 (by decide +kernel) rfl) (
    okc (ok_aload_n (k := 2) (by decide +kernel) rfl rfl) (
    okc (ok_aload_n (k := 0) (by decide +kernel) rfl rfl) (
    okc (ok_iload_n (k := 3) (by decide +kernel) rfl rfl) (
    okc (ok_iconst (n := 1) (by decide +kernel) rfl rfl) (
    okc (ok_iadd (by decide +kernel) rfl) (
    okc (ok_sld (by decide +kernel) rfl) (
    okc (ok_aload_n (k := 0) (by decide +kernel) rfl rfl) (
    okc (ok_iload_n (k := 3) (by decide +kernel) rfl rfl) (
    okc (ok_iconst (n := 2) (by decide +kernel) rfl rfl) (
    okc (ok_iadd (by decide +kernel) rfl) (
    okc (ok_sld (by decide +kernel) rfl) (
    okc (ok_callV (SPf_ok _ _ _ _ _ _) (mi := 76) (n := 2) (idx := 165) rfl m_M_rest (by decide) cX9_ok w_1427 w_1428 w_1429 (by decide +kernel) rfl) (
    okc (ok_cmp_eq (off := 100) (by decide +kernel) rfl rfl) (
    okc (ok_iconst (n := 0) (by decide +kernel) rfl rfl) (
    okc (ok_zret rfl (by decide +kernel)) (
    okc (ok_aload_n (k := 1) (by decide +kernel) rfl rfl) (
    okc (ok_aload_n (k := 0) (by decide +kernel) rfl rfl) (
    okc (ok_iload_n (k := 3) (by decide +kernel) rfl rfl) (
    okc (ok_iconst (n := 1) (by decide +kernel) rfl rfl) (
    okc (ok_iadd (by decide +kernel) rfl) (
    okc (ok_sld (by decide +kernel) rfl) (
    okc (ok_callV (SPf_ok _ _ _ _ _ _) (mi := 77) (n := 1) (idx := 166) rfl m_W_tell (by decide) cX8_ok w_956 w_957 w_958 (by decide +kernel) rfl) (
    okc (ok_aload_n (k := 2) (by decide +kernel) rfl rfl) (
    okc (ok_aload_n (k := 0) (by decide +kernel) rfl rfl) ( okn))))))))))))))))))))))))))))))))))))))))))))))))))))))))))))
def pl_L_law_17 (Ls : Nat) (xs : Nat → Int32) : List (Nat × mA) := [(1378, a_iload 3 1379), (1379, a_push 1 1380), (1380, a_bin (fun x y => x + y) 1381), (1381, a_sld Ls xs 1382), (1382, a_callO 9 36 78 1 1385), (1385, a_cmp (fun x y => decide (x = y)) 1462 1388), (1388, a_push 0 1389), (1389, a_zret), (1390, a_aload 1 1391), (1391, a_aload 0 1392), (1392, a_iload 3 1393), (1393, a_push 1 1394), (1394, a_bin (fun x y => x + y) 1395), (1395, a_sld Ls xs 1396), (1396, a_callO 8 10 79 1 1399), (1399, a_aload 2 1400), (1400, a_aload 0 1401), (1401, a_iload 3 1402), (1402, a_push 1 1403), (1403, a_bin (fun x y => x + y) 1404), (1404, a_sld Ls xs 1405), (1405, a_callO 9 36 80 1 1408), (1408, a_cmp (fun x y => decide (x = y)) 1462 1411), (1411, a_push 0 1412), (1412, a_zret), (1413, a_aload 1 1414), (1414, a_callO 8 10 81 0 1417), (1417, a_aload 2 1418), (1418, a_callO 9 36 82 0 1421), (1421, a_cmp (fun x y => decide (x = y)) 1462 1424), (1424, a_push 0 1425), (1425, a_zret), (1426, a_aload 1 1427), (1427, a_callO 8 10 83 0 1430), (1430, a_aload 2 1431), (1431, a_callO 9 36 84 0 1434), (1434, a_cmp (fun x y => decide (x = y)) 1462 1437), (1437, a_push 0 1438), (1438, a_zret), (1439, a_aload 1 1440), (1440, a_aload 0 1441), (1441, a_iload 3 1442), (1442, a_push 1 1443), (1443, a_bin (fun x y => x + y) 1444), (1444, a_sld Ls xs 1445), (1445, a_callO 8 10 85 1 1448), (1448, a_aload 2 1449), (1449, a_aload 0 1450), (1450, a_iload 3 1451), (1451, a_push 1 1452), (1452, a_bin (fun x y => x + y) 1453), (1453, a_sld Ls xs 1454), (1454, a_callO 9 36 86 1 1457), (1457, a_cmp (fun x y => decide (x = y)) 1462 1460), (1460, a_push 0 1461), (1461, a_zret), (1462, a_iinc 3 6 1465), (1465, a_goto 18), (1468, a_push 1 1469), (1469, a_zret)]
set_option maxRecDepth 20000 in
theorem ol_L_law_17 : okall B sp D cA (SPf B sp Ls xs adK adV) MT ⟨"WreckSkyLaw", "law", "([I)Z"⟩ code maxLocals ret (pl_L_law_17 Ls xs) := by
  unfold pl_L_law_17
  exact
    okc (ok_iload_n (k := 3) (by decide +kernel) rfl rfl) (
    okc (ok_iconst (n := 1) (by decide +kernel) rfl rfl) (
    okc (ok_iadd (by decide +kernel) rfl) (
    okc (ok_sld (by decide +kernel) rfl) (
    okc (ok_callV (SPf_ok _ _ _ _ _ _) (mi := 78) (n := 1) (idx := 169) rfl m_M_tell (by decide) cX9_ok w_1431 w_1432 w_1433 (by decide +kernel) rfl) (
    okc (ok_cmp_eq (off := 77) (by decide +kernel) rfl rfl) (
    okc (ok_iconst (n := 0) (by decide +kernel) rfl rfl) (
    okc (ok_zret rfl (by decide +kernel)) (
    okc (ok_aload_n (k := 1) (by decide +kernel) rfl rfl) (
    okc (ok_aload_n (k := 0) (by decide +kernel) rfl rfl) (
    okc (ok_iload_n (k := 3) (by decide +kernel) rfl rfl) (
    okc (ok_iconst (n := 1) (by decide +kernel) rfl rfl) (
    okc (ok_iadd (by decide +kernel) rfl) (
    okc (ok_sld (by decide +kernel) rfl) (
    okc (ok_callV (SPf_ok _ _ _ _ _ _) (mi := 79) (n := 1) (idx := 170) rfl m_W_check (by decide) cX8_ok w_960 w_961 w_962 (by decide +kernel) rfl) (
    okc (ok_aload_n (k := 2) (by decide +kernel) rfl rfl) (
    okc (ok_aload_n (k := 0) (by decide +kernel) rfl rfl) (
    okc (ok_iload_n (k := 3) (by decide +kernel) rfl rfl) (
    okc (ok_iconst (n := 1) (by decide +kernel) rfl rfl) (
    okc (ok_iadd (by decide +kernel) rfl) (
    okc (ok_sld (by decide +kernel) rfl) (
    okc (ok_callV (SPf_ok _ _ _ _ _ _) (mi := 80) (n := 1) (idx := 173) rfl m_M_check (by decide) cX9_ok w_1435 w_1436 w_1437 (by decide +kernel) rfl) (
    okc (ok_cmp_eq (off := 54) (by decide +kernel) rfl rfl) (
    okc (ok_iconst (n := 0) (by decide +kernel) rfl rfl) (
    okc (ok_zret rfl (by decide +kernel)) (
    okc (ok_aload_n (k := 1) (by decide +kernel) rfl rfl) (
    okc (ok_callV (SPf_ok _ _ _ _ _ _) (mi := 81) (n := 0) (idx := 174) rfl m_W_keep (by decide) cX8_ok w_972 w_973 w_974 (by decide +kernel) rfl) (
    okc (ok_aload_n (k := 2) (by decide +kernel) rfl rfl) (
    okc (ok_callV (SPf_ok _ _ _ _ _ _) (mi := 82) (n := 0) (idx := 177) rfl m_M_keep (by decide) cX9_ok w_1442 w_1443 w_1444 (by decide +kernel) rfl) (
    okc (ok_cmp_eq (off := 41) (by decide +kernel) rfl rfl) (
    okc (ok_iconst (n := 0) (by decide +kernel) rfl rfl) (
    okc (ok_zret rfl (by decide +kernel)) (
    okc (ok_aload_n (k := 1) (by decide +kernel) rfl rfl) (
    okc (ok_callV (SPf_ok _ _ _ _ _ _) (mi := 83) (n := 0) (idx := 178) rfl m_W_back (by decide) cX8_ok w_977 w_978 w_979 (by decide +kernel) rfl) (
    okc (ok_aload_n (k := 2) (by decide +kernel) rfl rfl) (
    okc (ok_callV (SPf_ok _ _ _ _ _ _) (mi := 84) (n := 0) (idx := 181) rfl m_M_back (by decide) cX9_ok w_1446 w_1447 w_1448 (by decide +kernel) rfl) (
    okc (ok_cmp_eq (off := 28) (by decide +kernel) rfl rfl) (
    okc (ok_iconst (n := 0) (by decide +kernel) rfl rfl) (
    okc (ok_zret rfl (by decide +kernel)) (
    okc (ok_aload_n (k := 1) (by decide +kernel) rfl rfl) (
    okc (ok_aload_n (k := 0) (by decide +kernel) rfl rfl) (
    okc (ok_iload_n (k := 3) (by decide +kernel) rfl rfl) (
    okc (ok_iconst (n := 1) (by decide +kernel) rfl rfl) (
    okc (ok_iadd (by decide +kernel) rfl) (
    okc (ok_sld (by decide +kernel) rfl) (
    okc (ok_callV (SPf_ok _ _ _ _ _ _) (mi := 85) (n := 1) (idx := 182) rfl m_W_count (by decide) cX8_ok w_981 w_982 w_983 (by decide +kernel) rfl) (
    okc (ok_aload_n (k := 2) (by decide +kernel) rfl rfl) (
    okc (ok_aload_n (k := 0) (by decide +kernel) rfl rfl) (
    okc (ok_iload_n (k := 3) (by decide +kernel) rfl rfl) (
    okc (ok_iconst (n := 1) (by decide +kernel) rfl rfl) (
    okc (ok_iadd (by decide +kernel) rfl) (
    okc (ok_sld (by decide +kernel) rfl) (
    okc (ok_callV (SPf_ok _ _ _ _ _ _) (mi := 86) (n := 1) (idx := 185) rfl m_M_count (by decide) cX9_ok w_1450 w_1451 w_1452 (by decide +kernel) rfl) (
    okc (ok_cmp_eq (off := 5) (by decide +kernel) rfl rfl) (
    okc (ok_iconst (n := 0) (by decide +kernel) rfl rfl) (
    okc (ok_zret rfl (by decide +kernel)) (
    okc (ok_iinc (n := 6) (by decide +kernel) rfl rfl) (
    okc (ok_goto (off := -1447) (by decide +kernel) rfl) (
    okc (ok_iconst (n := 1) (by decide +kernel) rfl rfl) (
    okc (ok_zret rfl (by decide +kernel)) ( okn))))))))))))))))))))))))))))))))))))))))))))))))))))))))))))
def pl_L_law (Ls : Nat) (xs : Nat → Int32) : List (Nat × mA) := pl_L_law_1 Ls xs ++ (pl_L_law_2 Ls xs ++ (pl_L_law_3 Ls xs ++ (pl_L_law_4 Ls xs ++ (pl_L_law_5 Ls xs ++ (pl_L_law_6 Ls xs ++ (pl_L_law_7 Ls xs ++ (pl_L_law_8 Ls xs ++ (pl_L_law_9 Ls xs ++ (pl_L_law_10 Ls xs ++ (pl_L_law_11 Ls xs ++ (pl_L_law_12 Ls xs ++ (pl_L_law_13 Ls xs ++ (pl_L_law_14 Ls xs ++ (pl_L_law_15 Ls xs ++ (pl_L_law_16 Ls xs ++ (pl_L_law_17 Ls xs))))))))))))))))
theorem ol_L_law : okall B sp D cA (SPf B sp Ls xs adK adV) MT ⟨"WreckSkyLaw", "law", "([I)Z"⟩ code maxLocals ret (pl_L_law Ls xs) := oka ol_L_law_1 (oka ol_L_law_2 (oka ol_L_law_3 (oka ol_L_law_4 (oka ol_L_law_5 (oka ol_L_law_6 (oka ol_L_law_7 (oka ol_L_law_8 (oka ol_L_law_9 (oka ol_L_law_10 (oka ol_L_law_11 (oka ol_L_law_12 (oka ol_L_law_13 (oka ol_L_law_14 (oka ol_L_law_15 (oka ol_L_law_16 (ol_L_law_17))))))))))))))))
def pl_W_init_1 : List (Nat × mA) := [(0, a_aload 0 1), (1, a_obj 4), (4, a_aload 0 5), (5, a_new 3 11 8), (8, a_dup 9), (9, a_callO 3 11 87 0 12), (12, a_putR 8 10 0 15), (15, a_aload 0 16), (16, a_new 3 11 19), (19, a_dup 20), (20, a_callO 3 11 87 0 23), (23, a_putR 8 10 1 26), (26, a_aload 0 27), (27, a_new 0 5 30), (30, a_dup 31), (31, a_callO 0 5 88 0 34), (34, a_putR 8 10 2 37), (37, a_aload 0 38), (38, a_new 5 2 41), (41, a_dup 42), (42, a_callO 5 2 89 0 45), (45, a_putR 8 10 3 48), (48, a_aload 0 49), (49, a_new 1 10 52), (52, a_dup 53), (53, a_aload 0 54), (54, a_getR 8 10 3 57), (57, a_callO 1 10 90 1 60), (60, a_putR 8 10 4 63), (63, a_aload 0 64), (64, a_push 4 65), (65, a_newa 6 68), (68, a_putR 8 10 5 71), (71, a_aload 0 72), (72, a_push 5 73), (73, a_newa 7 76), (76, a_putR 8 10 6 79), (79, a_aload 0 80), (80, a_push 60 82), (82, a_newa 0 84), (84, a_putR 8 10 7 87), (87, a_aload 0 88), (88, a_push 0 89), (89, a_putI 8 10 8 92), (92, a_aload 0 93), (93, a_push 0 94), (94, a_putZ 8 10 9 97), (97, a_push 0 98), (98, a_istore 1 99), (99, a_iload 1 100), (100, a_push 4 101), (101, a_cmp (fun x y => decide (y ≤ x)) 123 104), (104, a_aload 0 105), (105, a_getR 8 10 5 108), (108, a_iload 1 109), (109, a_new 2 3 112), (112, a_dup 113), (113, a_callO 2 3 91 0 116), (116, a_aast 6 2 3 117), (117, a_iinc 1 1 120)]
set_option maxRecDepth 20000 in
theorem ol_W_init_1 : okall B sp D cA (SPf B sp Ls xs adK adV) MT ⟨"WreckSky", "<init>", "()V"⟩ prog_1_method_1_code 2 (Option.none : Option Jvm.ClassFile.FieldType) (pl_W_init_1) := by
  unfold pl_W_init_1
  exact
    okc (ok_aload_n (k := 0) (by decide +kernel) rfl rfl) (
    okc (ok_obj (idx := 1) w_80 w_81 w_obj (by decide +kernel) rfl) (
    okc (ok_aload_n (k := 0) (by decide +kernel) rfl rfl) (
    okc (ok_new (idx := 7) cX3_ok dX3_ok w_83 w_84 w_57 (by decide +kernel) rfl) (
    okc (ok_dup (by decide +kernel) rfl) (
    okc (ok_callI (SPf_ok _ _ _ _ _ _) (mi := 87) (n := 0) (idx := 9) rfl m_S_init (by decide) rfl w_85 w_86 (by decide +kernel) rfl) (
    okc (ok_putRF (k := 0) (idx := 10) cX8_ok (by decide) (by decide +kernel) rfl rfl rfl w_313 (by decide +kernel) rfl) (
    okc (ok_aload_n (k := 0) (by decide +kernel) rfl rfl) (
    okc (ok_new (idx := 7) cX3_ok dX3_ok w_83 w_84 w_57 (by decide +kernel) rfl) (
    okc (ok_dup (by decide +kernel) rfl) (
    okc (ok_callI (SPf_ok _ _ _ _ _ _) (mi := 87) (n := 0) (idx := 9) rfl m_S_init (by decide) rfl w_85 w_86 (by decide +kernel) rfl) (
    okc (ok_putRF (k := 1) (idx := 16) cX8_ok (by decide) (by decide +kernel) rfl rfl rfl w_314 (by decide +kernel) rfl) (
    okc (ok_aload_n (k := 0) (by decide +kernel) rfl rfl) (
    okc (ok_new (idx := 19) cX0_ok dX0_ok w_182 w_183 w_59 (by decide +kernel) rfl) (
    okc (ok_dup (by decide +kernel) rfl) (
    okc (ok_callI (SPf_ok _ _ _ _ _ _) (mi := 88) (n := 0) (idx := 21) rfl m_F_init (by decide) rfl w_184 w_185 (by decide +kernel) rfl) (
    okc (ok_putRF (k := 2) (idx := 22) cX8_ok (by decide) (by decide +kernel) rfl rfl rfl w_315 (by decide +kernel) rfl) (
    okc (ok_aload_n (k := 0) (by decide +kernel) rfl rfl) (
    okc (ok_new (idx := 26) cX5_ok dX5_ok w_207 w_208 w_60 (by decide +kernel) rfl) (
    okc (ok_dup (by decide +kernel) rfl) (
    okc (ok_callI (SPf_ok _ _ _ _ _ _) (mi := 89) (n := 0) (idx := 28) rfl m_T_init (by decide) rfl w_209 w_210 (by decide +kernel) rfl) (
    okc (ok_putRF (k := 3) (idx := 29) cX8_ok (by decide) (by decide +kernel) rfl rfl rfl w_316 (by decide +kernel) rfl) (
    okc (ok_aload_n (k := 0) (by decide +kernel) rfl rfl) (
    okc (ok_new (idx := 33) cX1_ok dX1_ok w_223 w_224 w_61 (by decide +kernel) rfl) (
    okc (ok_dup (by decide +kernel) rfl) (
    okc (ok_aload_n (k := 0) (by decide +kernel) rfl rfl) (
    okc (ok_getR (k := 3) (idx := 29) cX8_ok (by decide) (by decide +kernel) w_316 (by decide +kernel) rfl) (
    okc (ok_callI (SPf_ok _ _ _ _ _ _) (mi := 90) (n := 1) (idx := 35) rfl m_R_init (by decide) rfl w_225 w_226 (by decide +kernel) rfl) (
    okc (ok_putRF (k := 4) (idx := 38) cX8_ok (by decide) (by decide +kernel) rfl rfl rfl w_317 (by decide +kernel) rfl) (
    okc (ok_aload_n (k := 0) (by decide +kernel) rfl rfl) (
    okc (ok_iconst (n := 4) (by decide +kernel) rfl rfl) (
    okc (ok_anew (idx := 42) (C := "WreckSky$Sheet") (by decide) (fun _ => rfl) w_263 (fun _ h => h.2.2.2.2.2.2.2.2.2.2.2.2.2.1) (by decide +kernel) rfl) (
    okc (ok_putRF (k := 5) (idx := 44) cX8_ok (by decide) (by decide +kernel) rfl rfl rfl w_318 (by decide +kernel) rfl) (
    okc (ok_aload_n (k := 0) (by decide +kernel) rfl rfl) (
    okc (ok_iconst (n := 5) (by decide +kernel) rfl rfl) (
    okc (ok_anew (idx := 48) (C := "WreckSky$Slot") (by decide) (fun _ => rfl) w_265 (fun _ h => h.2.2.2.2.2.2.2.2.2.2.2.2.2.2) (by decide +kernel) rfl) (
    okc (ok_putRF (k := 6) (idx := 50) cX8_ok (by decide) (by decide +kernel) rfl rfl rfl w_319 (by decide +kernel) rfl) (
    okc (ok_aload_n (k := 0) (by decide +kernel) rfl rfl) (
    okc (ok_bipush (n := 60) (by decide +kernel) (by decide +kernel) rfl) (
    okc (ok_newa (t := 0) (atype := .int) (ty := .int) (by decide) rfl (fun _ => rfl) (fun _ _ => rfl) rfl (by decide) w_133 (by decide +kernel) rfl) (
    okc (ok_putRF (k := 7) (idx := 54) cX8_ok (by decide) (by decide +kernel) rfl rfl rfl w_320 (by decide +kernel) rfl) (
    okc (ok_aload_n (k := 0) (by decide +kernel) rfl rfl) (
    okc (ok_iconst (n := 0) (by decide +kernel) rfl rfl) (
    okc (ok_putI (k := 8) (idx := 58) cX8_ok (by decide) rfl rfl w_321 (by decide +kernel) rfl) (
    okc (ok_aload_n (k := 0) (by decide +kernel) rfl rfl) (
    okc (ok_iconst (n := 0) (by decide +kernel) rfl rfl) (
    okc (ok_putZ (k := 9) (idx := 62) cX8_ok (by decide) rfl rfl w_322 (by decide +kernel) rfl) (
    okc (ok_iconst (n := 0) (by decide +kernel) rfl rfl) (
    okc (ok_istore_n (k := 1) (by decide +kernel) rfl rfl) (
    okc (ok_iload_n (k := 1) (by decide +kernel) rfl rfl) (
    okc (ok_iconst (n := 4) (by decide +kernel) rfl rfl) (
    okc (ok_cmp_ge (off := 22) (by decide +kernel) rfl rfl) (
    okc (ok_aload_n (k := 0) (by decide +kernel) rfl rfl) (
    okc (ok_getR (k := 5) (idx := 44) cX8_ok (by decide) (by decide +kernel) w_318 (by decide +kernel) rfl) (
    okc (ok_iload_n (k := 1) (by decide +kernel) rfl rfl) (
    okc (ok_new (idx := 42) cX2_ok dX2_ok w_263 w_267 w_62 (by decide +kernel) rfl) (
    okc (ok_dup (by decide +kernel) rfl) (
    okc (ok_callI (SPf_ok _ _ _ _ _ _) (mi := 91) (n := 0) (idx := 66) rfl m_H_init (by decide) rfl w_268 w_269 (by decide +kernel) rfl) (
    okc (ok_aast (by decide) (fun _ => rfl) cX2_ok (by decide +kernel) rfl) (
    okc (ok_iinc (n := 1) (by decide +kernel) rfl rfl) ( okn))))))))))))))))))))))))))))))))))))))))))))))))))))))))))))
def pl_W_init_2 : List (Nat × mA) := [(120, a_goto 99), (123, a_push 0 124), (124, a_istore 1 125), (125, a_iload 1 126), (126, a_push 5 127), (127, a_cmp (fun x y => decide (y ≤ x)) 149 130), (130, a_aload 0 131), (131, a_getR 8 10 6 134), (134, a_iload 1 135), (135, a_new 4 4 138), (138, a_dup 139), (139, a_callO 4 4 92 0 142), (142, a_aast 7 4 4 143), (143, a_iinc 1 1 146), (146, a_goto 125), (149, a_ret)]
set_option maxRecDepth 20000 in
theorem ol_W_init_2 : okall B sp D cA (SPf B sp Ls xs adK adV) MT ⟨"WreckSky", "<init>", "()V"⟩ prog_1_method_1_code 2 (Option.none : Option Jvm.ClassFile.FieldType) (pl_W_init_2) := by
  unfold pl_W_init_2
  exact
    okc (ok_goto (off := -21) (by decide +kernel) rfl) (
    okc (ok_iconst (n := 0) (by decide +kernel) rfl rfl) (
    okc (ok_istore_n (k := 1) (by decide +kernel) rfl rfl) (
    okc (ok_iload_n (k := 1) (by decide +kernel) rfl rfl) (
    okc (ok_iconst (n := 5) (by decide +kernel) rfl rfl) (
    okc (ok_cmp_ge (off := 22) (by decide +kernel) rfl rfl) (
    okc (ok_aload_n (k := 0) (by decide +kernel) rfl rfl) (
    okc (ok_getR (k := 6) (idx := 50) cX8_ok (by decide) (by decide +kernel) w_319 (by decide +kernel) rfl) (
    okc (ok_iload_n (k := 1) (by decide +kernel) rfl rfl) (
    okc (ok_new (idx := 48) cX4_ok dX4_ok w_265 w_287 w_63 (by decide +kernel) rfl) (
    okc (ok_dup (by decide +kernel) rfl) (
    okc (ok_callI (SPf_ok _ _ _ _ _ _) (mi := 92) (n := 0) (idx := 67) rfl m_O_init (by decide) rfl w_288 w_289 (by decide +kernel) rfl) (
    okc (ok_aast (by decide) (fun _ => rfl) cX4_ok (by decide +kernel) rfl) (
    okc (ok_iinc (n := 1) (by decide +kernel) rfl rfl) (
    okc (ok_goto (off := -21) (by decide +kernel) rfl) (
    okc (ok_ret rfl (by decide +kernel)) ( okn))))))))))))))))
def pl_W_init : List (Nat × mA) := pl_W_init_1 ++ (pl_W_init_2)
theorem ol_W_init : okall B sp D cA (SPf B sp Ls xs adK adV) MT ⟨"WreckSky", "<init>", "()V"⟩ prog_1_method_1_code 2 (Option.none : Option Jvm.ClassFile.FieldType) (pl_W_init) := oka ol_W_init_1 (ol_W_init_2)
def pl_M_init_1 : List (Nat × mA) := [(0, a_aload 0 1), (1, a_obj 4), (4, a_aload 0 5), (5, a_push 1464 8), (8, a_newa 0 10), (10, a_putR 9 36 0 13), (13, a_aload 0 14), (14, a_push 1464 17), (17, a_newa 0 19), (19, a_putR 9 36 1 22), (22, a_aload 0 23), (23, a_push 1464 26), (26, a_newa 0 28), (28, a_putR 9 36 2 31), (31, a_aload 0 32), (32, a_push 92 34), (34, a_newa 0 36), (36, a_putR 9 36 4 39), (39, a_aload 0 40), (40, a_push 544 43), (43, a_newa 0 45), (45, a_putR 9 36 5 48), (48, a_aload 0 49), (49, a_push 30 51), (51, a_newa 0 53), (53, a_putR 9 36 6 56), (56, a_aload 0 57), (57, a_push 14 59), (59, a_newa 0 61), (61, a_putR 9 36 7 64), (64, a_aload 0 65), (65, a_push 96 67), (67, a_newa 0 69), (69, a_putR 9 36 8 72), (72, a_aload 0 73), (73, a_push 11 75), (75, a_newa 2 77), (77, a_dup 78), (78, a_push 0 79), (79, a_push 104 81), (81, a_ast 2 (vp_nar .char) 82), (82, a_dup 83), (83, a_push 1 84), (84, a_push 97 86), (86, a_ast 2 (vp_nar .char) 87), (87, a_dup 88), (88, a_push 2 89), (89, a_push 114 91), (91, a_ast 2 (vp_nar .char) 92), (92, a_dup 93), (93, a_push 3 94), (94, a_push 100 96), (96, a_ast 2 (vp_nar .char) 97), (97, a_dup 98), (98, a_push 4 99), (99, a_push 102 101), (101, a_ast 2 (vp_nar .char) 102), (102, a_dup 103), (103, a_push 5 104), (104, a_push 101 106)]
set_option maxRecDepth 20000 in
theorem ol_M_init_1 : okall B sp D cA (SPf B sp Ls xs adK adV) MT ⟨"WreckSkyModel", "<init>", "()V"⟩ prog_11_method_1_code 1 (Option.none : Option Jvm.ClassFile.FieldType) (pl_M_init_1) := by
  unfold pl_M_init_1
  exact
    okc (ok_aload_n (k := 0) (by decide +kernel) rfl rfl) (
    okc (ok_obj (idx := 1) w_990 w_81 w_obj (by decide +kernel) rfl) (
    okc (ok_aload_n (k := 0) (by decide +kernel) rfl rfl) (
    okc (ok_sipush (n := 1464) (by decide +kernel) (by decide +kernel) rfl) (
    okc (ok_newa (t := 0) (atype := .int) (ty := .int) (by decide) rfl (fun _ => rfl) (fun _ _ => rfl) rfl (by decide) w_133 (by decide +kernel) rfl) (
    okc (ok_putRF (k := 0) (idx := 9) cX9_ok (by decide) (by decide +kernel) rfl rfl rfl w_991 (by decide +kernel) rfl) (
    okc (ok_aload_n (k := 0) (by decide +kernel) rfl rfl) (
    okc (ok_sipush (n := 1464) (by decide +kernel) (by decide +kernel) rfl) (
    okc (ok_newa (t := 0) (atype := .int) (ty := .int) (by decide) rfl (fun _ => rfl) (fun _ _ => rfl) rfl (by decide) w_133 (by decide +kernel) rfl) (
    okc (ok_putRF (k := 1) (idx := 13) cX9_ok (by decide) (by decide +kernel) rfl rfl rfl w_992 (by decide +kernel) rfl) (
    okc (ok_aload_n (k := 0) (by decide +kernel) rfl rfl) (
    okc (ok_sipush (n := 1464) (by decide +kernel) (by decide +kernel) rfl) (
    okc (ok_newa (t := 0) (atype := .int) (ty := .int) (by decide) rfl (fun _ => rfl) (fun _ _ => rfl) rfl (by decide) w_133 (by decide +kernel) rfl) (
    okc (ok_putRF (k := 2) (idx := 16) cX9_ok (by decide) (by decide +kernel) rfl rfl rfl w_993 (by decide +kernel) rfl) (
    okc (ok_aload_n (k := 0) (by decide +kernel) rfl rfl) (
    okc (ok_bipush (n := 92) (by decide +kernel) (by decide +kernel) rfl) (
    okc (ok_newa (t := 0) (atype := .int) (ty := .int) (by decide) rfl (fun _ => rfl) (fun _ _ => rfl) rfl (by decide) w_133 (by decide +kernel) rfl) (
    okc (ok_putRF (k := 4) (idx := 19) cX9_ok (by decide) (by decide +kernel) rfl rfl rfl w_995 (by decide +kernel) rfl) (
    okc (ok_aload_n (k := 0) (by decide +kernel) rfl rfl) (
    okc (ok_sipush (n := 544) (by decide +kernel) (by decide +kernel) rfl) (
    okc (ok_newa (t := 0) (atype := .int) (ty := .int) (by decide) rfl (fun _ => rfl) (fun _ _ => rfl) rfl (by decide) w_133 (by decide +kernel) rfl) (
    okc (ok_putRF (k := 5) (idx := 22) cX9_ok (by decide) (by decide +kernel) rfl rfl rfl w_996 (by decide +kernel) rfl) (
    okc (ok_aload_n (k := 0) (by decide +kernel) rfl rfl) (
    okc (ok_bipush (n := 30) (by decide +kernel) (by decide +kernel) rfl) (
    okc (ok_newa (t := 0) (atype := .int) (ty := .int) (by decide) rfl (fun _ => rfl) (fun _ _ => rfl) rfl (by decide) w_133 (by decide +kernel) rfl) (
    okc (ok_putRF (k := 6) (idx := 25) cX9_ok (by decide) (by decide +kernel) rfl rfl rfl w_997 (by decide +kernel) rfl) (
    okc (ok_aload_n (k := 0) (by decide +kernel) rfl rfl) (
    okc (ok_bipush (n := 14) (by decide +kernel) (by decide +kernel) rfl) (
    okc (ok_newa (t := 0) (atype := .int) (ty := .int) (by decide) rfl (fun _ => rfl) (fun _ _ => rfl) rfl (by decide) w_133 (by decide +kernel) rfl) (
    okc (ok_putRF (k := 7) (idx := 28) cX9_ok (by decide) (by decide +kernel) rfl rfl rfl w_998 (by decide +kernel) rfl) (
    okc (ok_aload_n (k := 0) (by decide +kernel) rfl rfl) (
    okc (ok_bipush (n := 96) (by decide +kernel) (by decide +kernel) rfl) (
    okc (ok_newa (t := 0) (atype := .int) (ty := .int) (by decide) rfl (fun _ => rfl) (fun _ _ => rfl) rfl (by decide) w_133 (by decide +kernel) rfl) (
    okc (ok_putRF (k := 8) (idx := 31) cX9_ok (by decide) (by decide +kernel) rfl rfl rfl w_999 (by decide +kernel) rfl) (
    okc (ok_aload_n (k := 0) (by decide +kernel) rfl rfl) (
    okc (ok_bipush (n := 11) (by decide +kernel) (by decide +kernel) rfl) (
    okc (ok_newa (t := 2) (atype := .char) (ty := .char) (by decide) rfl (fun _ => rfl) (fun _ _ => rfl) rfl (by decide) w_1100 (by decide +kernel) rfl) (
    okc (ok_dup (by decide +kernel) rfl) (
    okc (ok_iconst (n := 0) (by decide +kernel) rfl rfl) (
    okc (ok_bipush (n := 104) (by decide +kernel) (by decide +kernel) rfl) (
    okc (ok_cast (by decide +kernel) rfl) (
    okc (ok_dup (by decide +kernel) rfl) (
    okc (ok_iconst (n := 1) (by decide +kernel) rfl rfl) (
    okc (ok_bipush (n := 97) (by decide +kernel) (by decide +kernel) rfl) (
    okc (ok_cast (by decide +kernel) rfl) (
    okc (ok_dup (by decide +kernel) rfl) (
    okc (ok_iconst (n := 2) (by decide +kernel) rfl rfl) (
    okc (ok_bipush (n := 114) (by decide +kernel) (by decide +kernel) rfl) (
    okc (ok_cast (by decide +kernel) rfl) (
    okc (ok_dup (by decide +kernel) rfl) (
    okc (ok_iconst (n := 3) (by decide +kernel) rfl rfl) (
    okc (ok_bipush (n := 100) (by decide +kernel) (by decide +kernel) rfl) (
    okc (ok_cast (by decide +kernel) rfl) (
    okc (ok_dup (by decide +kernel) rfl) (
    okc (ok_iconst (n := 4) (by decide +kernel) rfl rfl) (
    okc (ok_bipush (n := 102) (by decide +kernel) (by decide +kernel) rfl) (
    okc (ok_cast (by decide +kernel) rfl) (
    okc (ok_dup (by decide +kernel) rfl) (
    okc (ok_iconst (n := 5) (by decide +kernel) rfl rfl) (
    okc (ok_bipush (n := 101) (by decide +kernel) (by decide +kernel) rfl) ( okn))))))))))))))))))))))))))))))))))))))))))))))))))))))))))))
def pl_M_init_2 : List (Nat × mA) := [(106, a_ast 2 (vp_nar .char) 107), (107, a_dup 108), (108, a_push 6 110), (110, a_push 101 112), (112, a_ast 2 (vp_nar .char) 113), (113, a_dup 114), (114, a_push 7 116), (116, a_push 102 118), (118, a_ast 2 (vp_nar .char) 119), (119, a_dup 120), (120, a_push 8 122), (122, a_push 105 124), (124, a_ast 2 (vp_nar .char) 125), (125, a_dup 126), (126, a_push 9 128), (128, a_push 110 130), (130, a_ast 2 (vp_nar .char) 131), (131, a_dup 132), (132, a_push 10 134), (134, a_push 101 136), (136, a_ast 2 (vp_nar .char) 137), (137, a_putR 9 36 16 140), (140, a_aload 0 141), (141, a_push 4 142), (142, a_newa 0 144), (144, a_dup 145), (145, a_push 0 146), (146, a_push 0 147), (147, a_ast 0 (fun x => x) 148), (148, a_dup 149), (149, a_push 1 150), (150, a_push 4 151), (151, a_ast 0 (fun x => x) 152), (152, a_dup 153), (153, a_push 2 154), (154, a_push 7 156), (156, a_ast 0 (fun x => x) 157), (157, a_dup 158), (158, a_push 3 159), (159, a_push 11 161), (161, a_ast 0 (fun x => x) 162), (162, a_putR 9 36 17 165), (165, a_aload 0 166), (166, a_push 96 168), (168, a_newa 0 170), (170, a_putR 9 36 18 173), (173, a_aload 0 174), (174, a_push 96 176), (176, a_newa 0 178), (178, a_putR 9 36 21 181), (181, a_aload 0 182), (182, a_push 10 184), (184, a_newa 1 186), (186, a_putR 9 36 23 189), (189, a_aload 0 190), (190, a_push 96 192), (192, a_newa 0 194), (194, a_putR 9 36 24 197), (197, a_aload 0 198), (198, a_push 4 199)]
set_option maxRecDepth 20000 in
theorem ol_M_init_2 : okall B sp D cA (SPf B sp Ls xs adK adV) MT ⟨"WreckSkyModel", "<init>", "()V"⟩ prog_11_method_1_code 1 (Option.none : Option Jvm.ClassFile.FieldType) (pl_M_init_2) := by
  unfold pl_M_init_2
  exact
    okc (ok_cast (by decide +kernel) rfl) (
    okc (ok_dup (by decide +kernel) rfl) (
    okc (ok_bipush (n := 6) (by decide +kernel) (by decide +kernel) rfl) (
    okc (ok_bipush (n := 101) (by decide +kernel) (by decide +kernel) rfl) (
    okc (ok_cast (by decide +kernel) rfl) (
    okc (ok_dup (by decide +kernel) rfl) (
    okc (ok_bipush (n := 7) (by decide +kernel) (by decide +kernel) rfl) (
    okc (ok_bipush (n := 102) (by decide +kernel) (by decide +kernel) rfl) (
    okc (ok_cast (by decide +kernel) rfl) (
    okc (ok_dup (by decide +kernel) rfl) (
    okc (ok_bipush (n := 8) (by decide +kernel) (by decide +kernel) rfl) (
    okc (ok_bipush (n := 105) (by decide +kernel) (by decide +kernel) rfl) (
    okc (ok_cast (by decide +kernel) rfl) (
    okc (ok_dup (by decide +kernel) rfl) (
    okc (ok_bipush (n := 9) (by decide +kernel) (by decide +kernel) rfl) (
    okc (ok_bipush (n := 110) (by decide +kernel) (by decide +kernel) rfl) (
    okc (ok_cast (by decide +kernel) rfl) (
    okc (ok_dup (by decide +kernel) rfl) (
    okc (ok_bipush (n := 10) (by decide +kernel) (by decide +kernel) rfl) (
    okc (ok_bipush (n := 101) (by decide +kernel) (by decide +kernel) rfl) (
    okc (ok_cast (by decide +kernel) rfl) (
    okc (ok_putRF (k := 16) (idx := 34) cX9_ok (by decide) (by decide +kernel) rfl rfl rfl w_1007 (by decide +kernel) rfl) (
    okc (ok_aload_n (k := 0) (by decide +kernel) rfl rfl) (
    okc (ok_iconst (n := 4) (by decide +kernel) rfl rfl) (
    okc (ok_newa (t := 0) (atype := .int) (ty := .int) (by decide) rfl (fun _ => rfl) (fun _ _ => rfl) rfl (by decide) w_133 (by decide +kernel) rfl) (
    okc (ok_dup (by decide +kernel) rfl) (
    okc (ok_iconst (n := 0) (by decide +kernel) rfl rfl) (
    okc (ok_iconst (n := 0) (by decide +kernel) rfl rfl) (
    okc (ok_iast (by decide +kernel) rfl) (
    okc (ok_dup (by decide +kernel) rfl) (
    okc (ok_iconst (n := 1) (by decide +kernel) rfl rfl) (
    okc (ok_iconst (n := 4) (by decide +kernel) rfl rfl) (
    okc (ok_iast (by decide +kernel) rfl) (
    okc (ok_dup (by decide +kernel) rfl) (
    okc (ok_iconst (n := 2) (by decide +kernel) rfl rfl) (
    okc (ok_bipush (n := 7) (by decide +kernel) (by decide +kernel) rfl) (
    okc (ok_iast (by decide +kernel) rfl) (
    okc (ok_dup (by decide +kernel) rfl) (
    okc (ok_iconst (n := 3) (by decide +kernel) rfl rfl) (
    okc (ok_bipush (n := 11) (by decide +kernel) (by decide +kernel) rfl) (
    okc (ok_iast (by decide +kernel) rfl) (
    okc (ok_putRF (k := 17) (idx := 38) cX9_ok (by decide) (by decide +kernel) rfl rfl rfl w_1008 (by decide +kernel) rfl) (
    okc (ok_aload_n (k := 0) (by decide +kernel) rfl rfl) (
    okc (ok_bipush (n := 96) (by decide +kernel) (by decide +kernel) rfl) (
    okc (ok_newa (t := 0) (atype := .int) (ty := .int) (by decide) rfl (fun _ => rfl) (fun _ _ => rfl) rfl (by decide) w_133 (by decide +kernel) rfl) (
    okc (ok_putRF (k := 18) (idx := 41) cX9_ok (by decide) (by decide +kernel) rfl rfl rfl w_1009 (by decide +kernel) rfl) (
    okc (ok_aload_n (k := 0) (by decide +kernel) rfl rfl) (
    okc (ok_bipush (n := 96) (by decide +kernel) (by decide +kernel) rfl) (
    okc (ok_newa (t := 0) (atype := .int) (ty := .int) (by decide) rfl (fun _ => rfl) (fun _ _ => rfl) rfl (by decide) w_133 (by decide +kernel) rfl) (
    okc (ok_putRF (k := 21) (idx := 44) cX9_ok (by decide) (by decide +kernel) rfl rfl rfl w_1012 (by decide +kernel) rfl) (
    okc (ok_aload_n (k := 0) (by decide +kernel) rfl rfl) (
    okc (ok_bipush (n := 10) (by decide +kernel) (by decide +kernel) rfl) (
    okc (ok_newa (t := 1) (atype := .boolean) (ty := .boolean) (by decide) rfl (fun _ => rfl) (fun _ _ => rfl) rfl (by decide) w_1101 (by decide +kernel) rfl) (
    okc (ok_putRF (k := 23) (idx := 47) cX9_ok (by decide) (by decide +kernel) rfl rfl rfl w_1014 (by decide +kernel) rfl) (
    okc (ok_aload_n (k := 0) (by decide +kernel) rfl rfl) (
    okc (ok_bipush (n := 96) (by decide +kernel) (by decide +kernel) rfl) (
    okc (ok_newa (t := 0) (atype := .int) (ty := .int) (by decide) rfl (fun _ => rfl) (fun _ _ => rfl) rfl (by decide) w_133 (by decide +kernel) rfl) (
    okc (ok_putRF (k := 24) (idx := 51) cX9_ok (by decide) (by decide +kernel) rfl rfl rfl w_1015 (by decide +kernel) rfl) (
    okc (ok_aload_n (k := 0) (by decide +kernel) rfl rfl) (
    okc (ok_iconst (n := 4) (by decide +kernel) rfl rfl) ( okn))))))))))))))))))))))))))))))))))))))))))))))))))))))))))))
def pl_M_init_3 : List (Nat × mA) := [(199, a_newa 0 201), (201, a_putR 9 36 25 204), (204, a_aload 0 205), (205, a_push 4 206), (206, a_newa 0 208), (208, a_dup 209), (209, a_push 0 210), (210, a_push (-1) 211), (211, a_ast 0 (fun x => x) 212), (212, a_dup 213), (213, a_push 1 214), (214, a_push (-1) 215), (215, a_ast 0 (fun x => x) 216), (216, a_dup 217), (217, a_push 2 218), (218, a_push (-1) 219), (219, a_ast 0 (fun x => x) 220), (220, a_dup 221), (221, a_push 3 222), (222, a_push (-1) 223), (223, a_ast 0 (fun x => x) 224), (224, a_putR 9 36 26 227), (227, a_aload 0 228), (228, a_push 4 229), (229, a_newa 0 231), (231, a_putR 9 36 27 234), (234, a_aload 0 235), (235, a_push 96 237), (237, a_newa 0 239), (239, a_putR 9 36 28 242), (242, a_aload 0 243), (243, a_push 5 244), (244, a_newa 0 246), (246, a_putR 9 36 29 249), (249, a_aload 0 250), (250, a_push 5 251), (251, a_newa 0 253), (253, a_putR 9 36 30 256), (256, a_aload 0 257), (257, a_push 5 258), (258, a_newa 0 260), (260, a_putR 9 36 31 263), (263, a_aload 0 264), (264, a_push 120 266), (266, a_newa 0 268), (268, a_putR 9 36 32 271), (271, a_aload 0 272), (272, a_push 24 274), (274, a_newa 0 276), (276, a_putR 9 36 33 279), (279, a_aload 0 280), (280, a_push 60 282), (282, a_newa 0 284), (284, a_putR 9 36 34 287), (287, a_aload 0 288), (288, a_getR 9 36 0 291), (291, a_push 0 292), (292, a_push 1 293), (293, a_ast 0 (fun x => x) 294), (294, a_ret)]
set_option maxRecDepth 20000 in
theorem ol_M_init_3 : okall B sp D cA (SPf B sp Ls xs adK adV) MT ⟨"WreckSkyModel", "<init>", "()V"⟩ prog_11_method_1_code 1 (Option.none : Option Jvm.ClassFile.FieldType) (pl_M_init_3) := by
  unfold pl_M_init_3
  exact
    okc (ok_newa (t := 0) (atype := .int) (ty := .int) (by decide) rfl (fun _ => rfl) (fun _ _ => rfl) rfl (by decide) w_133 (by decide +kernel) rfl) (
    okc (ok_putRF (k := 25) (idx := 54) cX9_ok (by decide) (by decide +kernel) rfl rfl rfl w_1016 (by decide +kernel) rfl) (
    okc (ok_aload_n (k := 0) (by decide +kernel) rfl rfl) (
    okc (ok_iconst (n := 4) (by decide +kernel) rfl rfl) (
    okc (ok_newa (t := 0) (atype := .int) (ty := .int) (by decide) rfl (fun _ => rfl) (fun _ _ => rfl) rfl (by decide) w_133 (by decide +kernel) rfl) (
    okc (ok_dup (by decide +kernel) rfl) (
    okc (ok_iconst (n := 0) (by decide +kernel) rfl rfl) (
    okc (ok_iconst (n := -1) (by decide +kernel) rfl rfl) (
    okc (ok_iast (by decide +kernel) rfl) (
    okc (ok_dup (by decide +kernel) rfl) (
    okc (ok_iconst (n := 1) (by decide +kernel) rfl rfl) (
    okc (ok_iconst (n := -1) (by decide +kernel) rfl rfl) (
    okc (ok_iast (by decide +kernel) rfl) (
    okc (ok_dup (by decide +kernel) rfl) (
    okc (ok_iconst (n := 2) (by decide +kernel) rfl rfl) (
    okc (ok_iconst (n := -1) (by decide +kernel) rfl rfl) (
    okc (ok_iast (by decide +kernel) rfl) (
    okc (ok_dup (by decide +kernel) rfl) (
    okc (ok_iconst (n := 3) (by decide +kernel) rfl rfl) (
    okc (ok_iconst (n := -1) (by decide +kernel) rfl rfl) (
    okc (ok_iast (by decide +kernel) rfl) (
    okc (ok_putRF (k := 26) (idx := 57) cX9_ok (by decide) (by decide +kernel) rfl rfl rfl w_1017 (by decide +kernel) rfl) (
    okc (ok_aload_n (k := 0) (by decide +kernel) rfl rfl) (
    okc (ok_iconst (n := 4) (by decide +kernel) rfl rfl) (
    okc (ok_newa (t := 0) (atype := .int) (ty := .int) (by decide) rfl (fun _ => rfl) (fun _ _ => rfl) rfl (by decide) w_133 (by decide +kernel) rfl) (
    okc (ok_putRF (k := 27) (idx := 60) cX9_ok (by decide) (by decide +kernel) rfl rfl rfl w_1018 (by decide +kernel) rfl) (
    okc (ok_aload_n (k := 0) (by decide +kernel) rfl rfl) (
    okc (ok_bipush (n := 96) (by decide +kernel) (by decide +kernel) rfl) (
    okc (ok_newa (t := 0) (atype := .int) (ty := .int) (by decide) rfl (fun _ => rfl) (fun _ _ => rfl) rfl (by decide) w_133 (by decide +kernel) rfl) (
    okc (ok_putRF (k := 28) (idx := 63) cX9_ok (by decide) (by decide +kernel) rfl rfl rfl w_1019 (by decide +kernel) rfl) (
    okc (ok_aload_n (k := 0) (by decide +kernel) rfl rfl) (
    okc (ok_iconst (n := 5) (by decide +kernel) rfl rfl) (
    okc (ok_newa (t := 0) (atype := .int) (ty := .int) (by decide) rfl (fun _ => rfl) (fun _ _ => rfl) rfl (by decide) w_133 (by decide +kernel) rfl) (
    okc (ok_putRF (k := 29) (idx := 66) cX9_ok (by decide) (by decide +kernel) rfl rfl rfl w_1020 (by decide +kernel) rfl) (
    okc (ok_aload_n (k := 0) (by decide +kernel) rfl rfl) (
    okc (ok_iconst (n := 5) (by decide +kernel) rfl rfl) (
    okc (ok_newa (t := 0) (atype := .int) (ty := .int) (by decide) rfl (fun _ => rfl) (fun _ _ => rfl) rfl (by decide) w_133 (by decide +kernel) rfl) (
    okc (ok_putRF (k := 30) (idx := 69) cX9_ok (by decide) (by decide +kernel) rfl rfl rfl w_1021 (by decide +kernel) rfl) (
    okc (ok_aload_n (k := 0) (by decide +kernel) rfl rfl) (
    okc (ok_iconst (n := 5) (by decide +kernel) rfl rfl) (
    okc (ok_newa (t := 0) (atype := .int) (ty := .int) (by decide) rfl (fun _ => rfl) (fun _ _ => rfl) rfl (by decide) w_133 (by decide +kernel) rfl) (
    okc (ok_putRF (k := 31) (idx := 72) cX9_ok (by decide) (by decide +kernel) rfl rfl rfl w_1022 (by decide +kernel) rfl) (
    okc (ok_aload_n (k := 0) (by decide +kernel) rfl rfl) (
    okc (ok_bipush (n := 120) (by decide +kernel) (by decide +kernel) rfl) (
    okc (ok_newa (t := 0) (atype := .int) (ty := .int) (by decide) rfl (fun _ => rfl) (fun _ _ => rfl) rfl (by decide) w_133 (by decide +kernel) rfl) (
    okc (ok_putRF (k := 32) (idx := 75) cX9_ok (by decide) (by decide +kernel) rfl rfl rfl w_1023 (by decide +kernel) rfl) (
    okc (ok_aload_n (k := 0) (by decide +kernel) rfl rfl) (
    okc (ok_bipush (n := 24) (by decide +kernel) (by decide +kernel) rfl) (
    okc (ok_newa (t := 0) (atype := .int) (ty := .int) (by decide) rfl (fun _ => rfl) (fun _ _ => rfl) rfl (by decide) w_133 (by decide +kernel) rfl) (
    okc (ok_putRF (k := 33) (idx := 78) cX9_ok (by decide) (by decide +kernel) rfl rfl rfl w_1024 (by decide +kernel) rfl) (
    okc (ok_aload_n (k := 0) (by decide +kernel) rfl rfl) (
    okc (ok_bipush (n := 60) (by decide +kernel) (by decide +kernel) rfl) (
    okc (ok_newa (t := 0) (atype := .int) (ty := .int) (by decide) rfl (fun _ => rfl) (fun _ _ => rfl) rfl (by decide) w_133 (by decide +kernel) rfl) (
    okc (ok_putRF (k := 34) (idx := 81) cX9_ok (by decide) (by decide +kernel) rfl rfl rfl w_1025 (by decide +kernel) rfl) (
    okc (ok_aload_n (k := 0) (by decide +kernel) rfl rfl) (
    okc (ok_getR (k := 0) (idx := 9) cX9_ok (by decide) (by decide +kernel) w_991 (by decide +kernel) rfl) (
    okc (ok_iconst (n := 0) (by decide +kernel) rfl rfl) (
    okc (ok_iconst (n := 1) (by decide +kernel) rfl rfl) (
    okc (ok_iast (by decide +kernel) rfl) (
    okc (ok_ret rfl (by decide +kernel)) ( okn))))))))))))))))))))))))))))))))))))))))))))))))))))))))))))
def pl_M_init : List (Nat × mA) := pl_M_init_1 ++ (pl_M_init_2 ++ (pl_M_init_3))
theorem ol_M_init : okall B sp D cA (SPf B sp Ls xs adK adV) MT ⟨"WreckSkyModel", "<init>", "()V"⟩ prog_11_method_1_code 1 (Option.none : Option Jvm.ClassFile.FieldType) (pl_M_init) := oka ol_M_init_1 (oka ol_M_init_2 (ol_M_init_3))
def pl_W_wreck : List (Nat × mA) := [(0, a_iload 1 1), (1, a_call 93 1 4), (4, a_if (fun x => decide (x = 0)) 24 7), (7, a_iload 2 8), (8, a_push 0 9), (9, a_push 7 11), (11, a_call 94 3 14), (14, a_if (fun x => decide (x = 0)) 24 17), (17, a_iload 3 18), (18, a_call 95 1 21), (21, a_if (fun x => decide (x ≠ 0)) 27 24), (24, a_push (-1000000001) 26), (26, a_iret), (27, a_iload 4 29), (29, a_push (-9) 31), (31, a_push 9 33), (33, a_call 94 3 36), (36, a_if (fun x => decide (x = 0)) 50 39), (39, a_iload 5 41), (41, a_push 1 42), (42, a_push 99 44), (44, a_call 94 3 47), (47, a_if (fun x => decide (x ≠ 0)) 53 50), (50, a_push (-1000000001) 52), (52, a_iret), (53, a_aload 0 54), (54, a_getR 8 10 0 57), (57, a_iload 1 58), (58, a_iload 2 59), (59, a_iload 3 60), (60, a_iload 4 62), (62, a_iload 5 64), (64, a_callO 3 11 96 5 67), (67, a_if (fun x => decide (x = 0)) 82 70), (70, a_aload 0 71), (71, a_getR 8 10 0 74), (74, a_getI 3 11 3 77), (77, a_push 1 78), (78, a_bin (fun x y => x - y) 79), (79, a_goto 84), (82, a_push (-1000000003) 84), (84, a_iret)]
set_option maxRecDepth 20000 in
theorem ol_W_wreck : okall B sp D cA (SPf B sp Ls xs adK adV) MT ⟨"WreckSky", "wreck", "(IIIII)I"⟩ prog_1_method_2_code 6 (Option.some Jvm.ClassFile.FieldType.int) (pl_W_wreck) := by
  unfold pl_W_wreck
  exact
    okc (ok_iload_n (k := 1) (by decide +kernel) rfl rfl) (
    okc (ok_callS (SPf_ok _ _ _ _ _ _) (mi := 93) (n := 1) (idx := 68) rfl m_W_isKind (by decide) w_348 w_349 (by decide +kernel) rfl) (
    okc (ok_if_eq (off := 20) (by decide +kernel) rfl rfl) (
    okc (ok_iload_n (k := 2) (by decide +kernel) rfl rfl) (
    okc (ok_iconst (n := 0) (by decide +kernel) rfl rfl) (
    okc (ok_bipush (n := 7) (by decide +kernel) (by decide +kernel) rfl) (
    okc (ok_callS (SPf_ok _ _ _ _ _ _) (mi := 94) (n := 3) (idx := 72) rfl m_W_within (by decide) w_351 w_352 (by decide +kernel) rfl) (
    okc (ok_if_eq (off := 10) (by decide +kernel) rfl rfl) (
    okc (ok_iload_n (k := 3) (by decide +kernel) rfl rfl) (
    okc (ok_callS (SPf_ok _ _ _ _ _ _) (mi := 95) (n := 1) (idx := 76) rfl m_W_isPlace (by decide) w_354 w_355 (by decide +kernel) rfl) (
    okc (ok_if_ne (off := 6) (by decide +kernel) rfl rfl) (
    okc (ok_ldc (i := 79) w_357 (by decide +kernel) rfl) (
    okc (ok_iret rfl (by decide +kernel)) (
    okc (ok_iload (by decide +kernel) rfl) (
    okc (ok_bipush (n := -9) (by decide +kernel) (by decide +kernel) rfl) (
    okc (ok_bipush (n := 9) (by decide +kernel) (by decide +kernel) rfl) (
    okc (ok_callS (SPf_ok _ _ _ _ _ _) (mi := 94) (n := 3) (idx := 72) rfl m_W_within (by decide) w_351 w_352 (by decide +kernel) rfl) (
    okc (ok_if_eq (off := 14) (by decide +kernel) rfl rfl) (
    okc (ok_iload (by decide +kernel) rfl) (
    okc (ok_iconst (n := 1) (by decide +kernel) rfl rfl) (
    okc (ok_bipush (n := 99) (by decide +kernel) (by decide +kernel) rfl) (
    okc (ok_callS (SPf_ok _ _ _ _ _ _) (mi := 94) (n := 3) (idx := 72) rfl m_W_within (by decide) w_351 w_352 (by decide +kernel) rfl) (
    okc (ok_if_ne (off := 6) (by decide +kernel) rfl rfl) (
    okc (ok_ldc (i := 79) w_357 (by decide +kernel) rfl) (
    okc (ok_iret rfl (by decide +kernel)) (
    okc (ok_aload_n (k := 0) (by decide +kernel) rfl rfl) (
    okc (ok_getR (k := 0) (idx := 10) cX8_ok (by decide) (by decide +kernel) w_313 (by decide +kernel) rfl) (
    okc (ok_iload_n (k := 1) (by decide +kernel) rfl rfl) (
    okc (ok_iload_n (k := 2) (by decide +kernel) rfl rfl) (
    okc (ok_iload_n (k := 3) (by decide +kernel) rfl rfl) (
    okc (ok_iload (by decide +kernel) rfl) (
    okc (ok_iload (by decide +kernel) rfl) (
    okc (ok_callV (SPf_ok _ _ _ _ _ _) (mi := 96) (n := 5) (idx := 80) rfl m_S_addWreck (by decide) cX3_ok w_358 w_359 w_360 (by decide +kernel) rfl) (
    okc (ok_if_eq (off := 15) (by decide +kernel) rfl rfl) (
    okc (ok_aload_n (k := 0) (by decide +kernel) rfl rfl) (
    okc (ok_getR (k := 0) (idx := 10) cX8_ok (by decide) (by decide +kernel) w_313 (by decide +kernel) rfl) (
    okc (ok_getI (k := 3) (idx := 84) cX3_ok (by decide) (by decide +kernel) w_142 (by decide +kernel) rfl) (
    okc (ok_iconst (n := 1) (by decide +kernel) rfl rfl) (
    okc (ok_isub (by decide +kernel) rfl) (
    okc (ok_goto (off := 5) (by decide +kernel) rfl) (
    okc (ok_ldc (i := 87) w_362 (by decide +kernel) rfl) (
    okc (ok_iret rfl (by decide +kernel)) ( okn))))))))))))))))))))))))))))))))))))))))))
def pl_M_wreck : List (Nat × mA) := [(0, a_iload 1 1), (1, a_push 0 2), (2, a_push 5 3), (3, a_call 97 3 6), (6, a_if (fun x => decide (x = 0)) 43 9), (9, a_push 1 10), (10, a_iload 2 11), (11, a_call 98 2 14), (14, a_if (fun x => decide (x = 0)) 43 17), (17, a_push 2 18), (18, a_iload 3 19), (19, a_call 98 2 22), (22, a_if (fun x => decide (x = 0)) 43 25), (25, a_push 3 26), (26, a_iload 4 28), (28, a_call 98 2 31), (31, a_if (fun x => decide (x = 0)) 43 34), (34, a_push 4 35), (35, a_iload 5 37), (37, a_call 98 2 40), (40, a_if (fun x => decide (x ≠ 0)) 46 43), (43, a_push (-1000000001) 45), (45, a_iret), (46, a_aload 0 47), (47, a_getR 9 36 0 50), (50, a_push 1 51), (51, a_ald 0 52), (52, a_push 14 54), (54, a_cmp (fun x y => decide (x ≠ y)) 62 57), (57, a_push (-1000000003) 59), (59, a_goto 73), (62, a_aload 0 63), (63, a_iload 1 64), (64, a_iload 2 65), (65, a_iload 3 66), (66, a_iload 4 68), (68, a_iload 5 70), (70, a_callO 9 36 99 5 73), (73, a_iret)]
set_option maxRecDepth 20000 in
theorem ol_M_wreck : okall B sp D cA (SPf B sp Ls xs adK adV) MT ⟨"WreckSkyModel", "wreck", "(IIIII)I"⟩ prog_11_method_13_code 6 (Option.some Jvm.ClassFile.FieldType.int) (pl_M_wreck) := by
  unfold pl_M_wreck
  exact
    okc (ok_iload_n (k := 1) (by decide +kernel) rfl rfl) (
    okc (ok_iconst (n := 0) (by decide +kernel) rfl rfl) (
    okc (ok_iconst (n := 5) (by decide +kernel) rfl rfl) (
    okc (ok_callS (SPf_ok _ _ _ _ _ _) (mi := 97) (n := 3) (idx := 84) rfl m_M_in (by decide) w_1106 w_1107 (by decide +kernel) rfl) (
    okc (ok_if_eq (off := 37) (by decide +kernel) rfl rfl) (
    okc (ok_iconst (n := 1) (by decide +kernel) rfl rfl) (
    okc (ok_iload_n (k := 2) (by decide +kernel) rfl rfl) (
    okc (ok_callS (SPf_ok _ _ _ _ _ _) (mi := 98) (n := 2) (idx := 96) rfl m_M_isOf (by decide) w_1109 w_1110 (by decide +kernel) rfl) (
    okc (ok_if_eq (off := 29) (by decide +kernel) rfl rfl) (
    okc (ok_iconst (n := 2) (by decide +kernel) rfl rfl) (
    okc (ok_iload_n (k := 3) (by decide +kernel) rfl rfl) (
    okc (ok_callS (SPf_ok _ _ _ _ _ _) (mi := 98) (n := 2) (idx := 96) rfl m_M_isOf (by decide) w_1109 w_1110 (by decide +kernel) rfl) (
    okc (ok_if_eq (off := 21) (by decide +kernel) rfl rfl) (
    okc (ok_iconst (n := 3) (by decide +kernel) rfl rfl) (
    okc (ok_iload (by decide +kernel) rfl) (
    okc (ok_callS (SPf_ok _ _ _ _ _ _) (mi := 98) (n := 2) (idx := 96) rfl m_M_isOf (by decide) w_1109 w_1110 (by decide +kernel) rfl) (
    okc (ok_if_eq (off := 12) (by decide +kernel) rfl rfl) (
    okc (ok_iconst (n := 4) (by decide +kernel) rfl rfl) (
    okc (ok_iload (by decide +kernel) rfl) (
    okc (ok_callS (SPf_ok _ _ _ _ _ _) (mi := 98) (n := 2) (idx := 96) rfl m_M_isOf (by decide) w_1109 w_1110 (by decide +kernel) rfl) (
    okc (ok_if_ne (off := 6) (by decide +kernel) rfl rfl) (
    okc (ok_ldc (i := 100) w_1112 (by decide +kernel) rfl) (
    okc (ok_iret rfl (by decide +kernel)) (
    okc (ok_aload_n (k := 0) (by decide +kernel) rfl rfl) (
    okc (ok_getR (k := 0) (idx := 9) cX9_ok (by decide) (by decide +kernel) w_991 (by decide +kernel) rfl) (
    okc (ok_iconst (n := 1) (by decide +kernel) rfl rfl) (
    okc (ok_iald (by decide +kernel) rfl) (
    okc (ok_bipush (n := 14) (by decide +kernel) (by decide +kernel) rfl) (
    okc (ok_cmp_ne (off := 8) (by decide +kernel) rfl rfl) (
    okc (ok_ldc (i := 101) w_1113 (by decide +kernel) rfl) (
    okc (ok_goto (off := 14) (by decide +kernel) rfl) (
    okc (ok_aload_n (k := 0) (by decide +kernel) rfl rfl) (
    okc (ok_iload_n (k := 1) (by decide +kernel) rfl rfl) (
    okc (ok_iload_n (k := 2) (by decide +kernel) rfl rfl) (
    okc (ok_iload_n (k := 3) (by decide +kernel) rfl rfl) (
    okc (ok_iload (by decide +kernel) rfl) (
    okc (ok_iload (by decide +kernel) rfl) (
    okc (ok_callV (SPf_ok _ _ _ _ _ _) (mi := 99) (n := 5) (idx := 102) rfl m_M_comes (by decide) cX9_ok w_1114 w_1116 w_20 (by decide +kernel) rfl) (
    okc (ok_iret rfl (by decide +kernel)) ( okn)))))))))))))))))))))))))))))))))))))))
end PR

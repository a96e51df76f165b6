section PR
variable {B : Nat} {sp : Nat → Value} {D : va_G} {cA : Nat → ClassId} {Ls : Nat} {xs : Nat → Int32} {adK adV : Nat → Nat}
def pl_L_law_1 (Ls : Nat) (xs : Nat → Int32) : List (Nat × mA) := [(0, a_new 8 10 3), (3, a_dup 4), (4, a_callO 8 10 1 0 7), (7, a_astore 1 8), (8, a_new 9 36 11), (11, a_dup 12), (12, a_callO 9 36 2 0 15), (15, a_astore 2 16), (16, a_push 0 17), (17, a_istore 3 18), (18, a_iload 3 19), (19, a_aload 0 20), (20, a_slen Ls 21), (21, a_push 6 23), (23, a_bin (fun x y => x - y) 24), (24, a_cmp (fun x y => decide (y < x)) 1468 27), (27, a_aload 0 28), (28, a_iload 3 29), (29, a_sld Ls xs 30), (30, a_push 63 32), (32, a_bin (fun x y => x &&& y) 33), (33, a_sw (t_sw 0 [216, 279, 312, 345, 378, 421, 444, 467, 500, 523, 546, 569, 592, 625, 638, 661, 684, 717, 760, 793, 826, 859, 872, 895, 938, 961, 974, 1007, 1030, 1073, 1116, 1139, 1162, 1225, 1268, 1301, 1334, 1367, 1390, 1413, 1426, 1439] 1462)), (216, a_aload 1 217), (217, a_aload 0 218), (218, a_iload 3 219), (219, a_push 1 220), (220, a_bin (fun x y => x + y) 221), (221, a_sld Ls xs 222), (222, a_aload 0 223), (223, a_iload 3 224), (224, a_push 2 225), (225, a_bin (fun x y => x + y) 226), (226, a_sld Ls xs 227), (227, a_aload 0 228), (228, a_iload 3 229), (229, a_push 3 230), (230, a_bin (fun x y => x + y) 231), (231, a_sld Ls xs 232), (232, a_aload 0 233), (233, a_iload 3 234), (234, a_push 4 235), (235, a_bin (fun x y => x + y) 236), (236, a_sld Ls xs 237), (237, a_aload 0 238), (238, a_iload 3 239), (239, a_push 5 240), (240, a_bin (fun x y => x + y) 241), (241, a_sld Ls xs 242), (242, a_callO 8 10 3 5 245), (245, a_aload 2 246), (246, a_aload 0 247), (247, a_iload 3 248), (248, a_push 1 249), (249, a_bin (fun x y => x + y) 250), (250, a_sld Ls xs 251), (251, a_aload 0 252), (252, a_iload 3 253), (253, a_push 2 254), (254, a_bin (fun x y => x + y) 255), (255, a_sld Ls xs 256)]
set_option maxRecDepth 20000 in
theorem ol_L_law_1 : okall B sp D cA (SPf B sp Ls xs adK adV) MT ⟨"WreckSkyLaw", "law", "([I)Z"⟩ code maxLocals ret (pl_L_law_1 Ls xs) := by
  unfold pl_L_law_1
  exact
    okc (ok_new (idx := 7) cX8_ok dX8_ok w_75 w_76 w_56 (by decide +kernel) rfl) (
    okc (ok_dup (by decide +kernel) rfl) (
    okc (ok_callI (SPf_ok _ _ _ _ _ _) (mi := 1) (n := 0) (idx := 9) rfl m_W_init (by decide) rfl w_77 w_78 (by decide +kernel) rfl) (
    okc (ok_astore_n (k := 1) (by decide +kernel) rfl rfl) (
    okc (ok_new (idx := 10) cX9_ok dX9_ok w_985 w_986 w_64 (by decide +kernel) rfl) (
    okc (ok_dup (by decide +kernel) rfl) (
    okc (ok_callI (SPf_ok _ _ _ _ _ _) (mi := 2) (n := 0) (idx := 12) rfl m_M_init (by decide) rfl w_987 w_988 (by decide +kernel) rfl) (
    okc (ok_astore_n (k := 2) (by decide +kernel) rfl rfl) (
    okc (ok_iconst (n := 0) (by decide +kernel) rfl rfl) (
    okc (ok_istore_n (k := 3) (by decide +kernel) rfl rfl) (
    okc (ok_iload_n (k := 3) (by decide +kernel) rfl rfl) (
    okc (ok_aload_n (k := 0) (by decide +kernel) rfl rfl) (
    okc (ok_slen (by decide +kernel) rfl) (
    okc (ok_bipush (n := 6) (by decide +kernel) (by decide +kernel) rfl) (
    okc (ok_isub (by decide +kernel) rfl) (
    okc (ok_cmp_gt (off := 1444) (by decide +kernel) rfl rfl) (
    okc (ok_aload_n (k := 0) (by decide +kernel) rfl rfl) (
    okc (ok_iload_n (k := 3) (by decide +kernel) rfl rfl) (
    okc (ok_sld (by decide +kernel) rfl) (
    okc (ok_bipush (n := 63) (by decide +kernel) (by decide +kernel) rfl) (
    okc (ok_iand (by decide +kernel) rfl) (
    okc (ok_tab (dflt := 1429) (lo := 0) (hi := 41) (offs := #[183, 246, 279, 312, 345, 388, 411, 434, 467, 490, 513, 536, 559, 592, 605, 628, 651, 684, 727, 760, 793, 826, 839, 862, 905, 928, 941, 974, 997, 1040, 1083, 1106, 1129, 1192, 1235, 1268, 1301, 1334, 1357, 1380, 1393, 1406]) (len := 183) (by decide +kernel) rfl rfl rfl) (
    okc (ok_aload_n (k := 1) (by decide +kernel) rfl rfl) (
    okc (ok_aload_n (k := 0) (by decide +kernel) rfl rfl) (
    okc (ok_iload_n (k := 3) (by decide +kernel) rfl rfl) (
    okc (ok_iconst (n := 1) (by decide +kernel) rfl rfl) (
    okc (ok_iadd (by decide +kernel) rfl) (
    okc (ok_sld (by decide +kernel) rfl) (
    okc (ok_aload_n (k := 0) (by decide +kernel) rfl rfl) (
    okc (ok_iload_n (k := 3) (by decide +kernel) rfl rfl) (
    okc (ok_iconst (n := 2) (by decide +kernel) rfl rfl) (
    okc (ok_iadd (by decide +kernel) rfl) (
    okc (ok_sld (by decide +kernel) rfl) (
    okc (ok_aload_n (k := 0) (by decide +kernel) rfl rfl) (
    okc (ok_iload_n (k := 3) (by decide +kernel) rfl rfl) (
    okc (ok_iconst (n := 3) (by decide +kernel) rfl rfl) (
    okc (ok_iadd (by decide +kernel) rfl) (
    okc (ok_sld (by decide +kernel) rfl) (
    okc (ok_aload_n (k := 0) (by decide +kernel) rfl rfl) (
    okc (ok_iload_n (k := 3) (by decide +kernel) rfl rfl) (
    okc (ok_iconst (n := 4) (by decide +kernel) rfl rfl) (
    okc (ok_iadd (by decide +kernel) rfl) (
    okc (ok_sld (by decide +kernel) rfl) (
    okc (ok_aload_n (k := 0) (by decide +kernel) rfl rfl) (
    okc (ok_iload_n (k := 3) (by decide +kernel) rfl rfl) (
    okc (ok_iconst (n := 5) (by decide +kernel) rfl rfl) (
    okc (ok_iadd (by decide +kernel) rfl) (
    okc (ok_sld (by decide +kernel) rfl) (
    okc (ok_callV (SPf_ok _ _ _ _ _ _) (mi := 3) (n := 5) (idx := 13) rfl m_W_wreck (by decide) cX8_ok w_344 w_345 w_346 (by decide +kernel) rfl) (
    okc (ok_aload_n (k := 2) (by decide +kernel) rfl rfl) (
    okc (ok_aload_n (k := 0) (by decide +kernel) rfl rfl) (
    okc (ok_iload_n (k := 3) (by decide +kernel) rfl rfl) (
    okc (ok_iconst (n := 1) (by decide +kernel) rfl rfl) (
    okc (ok_iadd (by decide +kernel) rfl) (
    okc (ok_sld (by decide +kernel) rfl) (
    okc (ok_aload_n (k := 0) (by decide +kernel) rfl rfl) (
    okc (ok_iload_n (k := 3) (by decide +kernel) rfl rfl) (
    okc (ok_iconst (n := 2) (by decide +kernel) rfl rfl) (
    okc (ok_iadd (by decide +kernel) rfl) (
    okc (ok_sld (by decide +kernel) rfl) ( okn))))))))))))))))))))))))))))))))))))))))))))))))))))))))))))
def pl_L_law_2 (Ls : Nat) (xs : Nat → Int32) : List (Nat × mA) := [(256, a_aload 0 257), (257, a_iload 3 258), (258, a_push 3 259), (259, a_bin (fun x y => x + y) 260), (260, a_sld Ls xs 261), (261, a_aload 0 262), (262, a_iload 3 263), (263, a_push 4 264), (264, a_bin (fun x y => x + y) 265), (265, a_sld Ls xs 266), (266, a_aload 0 267), (267, a_iload 3 268), (268, a_push 5 269), (269, a_bin (fun x y => x + y) 270), (270, a_sld Ls xs 271), (271, a_callO 9 36 4 5 274), (274, a_cmp (fun x y => decide (x = y)) 1462 277), (277, a_push 0 278), (278, a_zret), (279, a_aload 1 280), (280, a_aload 0 281), (281, a_iload 3 282), (282, a_push 1 283), (283, a_bin (fun x y => x + y) 284), (284, a_sld Ls xs 285), (285, a_aload 0 286), (286, a_iload 3 287), (287, a_push 2 288), (288, a_bin (fun x y => x + y) 289), (289, a_sld Ls xs 290), (290, a_callO 8 10 5 2 293), (293, a_aload 2 294), (294, a_aload 0 295), (295, a_iload 3 296), (296, a_push 1 297), (297, a_bin (fun x y => x + y) 298), (298, a_sld Ls xs 299), (299, a_aload 0 300), (300, a_iload 3 301), (301, a_push 2 302), (302, a_bin (fun x y => x + y) 303), (303, a_sld Ls xs 304), (304, a_callO 9 36 6 2 307), (307, a_cmp (fun x y => decide (x = y)) 1462 310), (310, a_push 0 311), (311, a_zret), (312, a_aload 1 313), (313, a_aload 0 314), (314, a_iload 3 315), (315, a_push 1 316), (316, a_bin (fun x y => x + y) 317), (317, a_sld Ls xs 318), (318, a_aload 0 319), (319, a_iload 3 320), (320, a_push 2 321), (321, a_bin (fun x y => x + y) 322), (322, a_sld Ls xs 323), (323, a_callO 8 10 7 2 326), (326, a_aload 2 327), (327, a_aload 0 328)]
set_option maxRecDepth 20000 in
theorem ol_L_law_2 : okall B sp D cA (SPf B sp Ls xs adK adV) MT ⟨"WreckSkyLaw", "law", "([I)Z"⟩ code maxLocals ret (pl_L_law_2 Ls xs) := by
  unfold pl_L_law_2
  exact
    okc (ok_aload_n (k := 0) (by decide +kernel) rfl rfl) (
    okc (ok_iload_n (k := 3) (by decide +kernel) rfl rfl) (
    okc (ok_iconst (n := 3) (by decide +kernel) rfl rfl) (
    okc (ok_iadd (by decide +kernel) rfl) (
    okc (ok_sld (by decide +kernel) rfl) (
    okc (ok_aload_n (k := 0) (by decide +kernel) rfl rfl) (
    okc (ok_iload_n (k := 3) (by decide +kernel) rfl rfl) (
    okc (ok_iconst (n := 4) (by decide +kernel) rfl rfl) (
    okc (ok_iadd (by decide +kernel) rfl) (
    okc (ok_sld (by decide +kernel) rfl) (
    okc (ok_aload_n (k := 0) (by decide +kernel) rfl rfl) (
    okc (ok_iload_n (k := 3) (by decide +kernel) rfl rfl) (
    okc (ok_iconst (n := 5) (by decide +kernel) rfl rfl) (
    okc (ok_iadd (by decide +kernel) rfl) (
    okc (ok_sld (by decide +kernel) rfl) (
    okc (ok_callV (SPf_ok _ _ _ _ _ _) (mi := 4) (n := 5) (idx := 17) rfl m_M_wreck (by decide) cX9_ok w_1102 w_1103 w_1104 (by decide +kernel) rfl) (
    okc (ok_cmp_eq (off := 1188) (by decide +kernel) rfl rfl) (
    okc (ok_iconst (n := 0) (by decide +kernel) rfl rfl) (
    okc (ok_zret rfl (by decide +kernel)) (
    okc (ok_aload_n (k := 1) (by decide +kernel) rfl rfl) (
    okc (ok_aload_n (k := 0) (by decide +kernel) rfl rfl) (
    okc (ok_iload_n (k := 3) (by decide +kernel) rfl rfl) (
    okc (ok_iconst (n := 1) (by decide +kernel) rfl rfl) (
    okc (ok_iadd (by decide +kernel) rfl) (
    okc (ok_sld (by decide +kernel) rfl) (
    okc (ok_aload_n (k := 0) (by decide +kernel) rfl rfl) (
    okc (ok_iload_n (k := 3) (by decide +kernel) rfl rfl) (
    okc (ok_iconst (n := 2) (by decide +kernel) rfl rfl) (
    okc (ok_iadd (by decide +kernel) rfl) (
    okc (ok_sld (by decide +kernel) rfl) (
    okc (ok_callV (SPf_ok _ _ _ _ _ _) (mi := 5) (n := 2) (idx := 18) rfl m_W_told (by decide) cX8_ok w_363 w_364 w_365 (by decide +kernel) rfl) (
    okc (ok_aload_n (k := 2) (by decide +kernel) rfl rfl) (
    okc (ok_aload_n (k := 0) (by decide +kernel) rfl rfl) (
    okc (ok_iload_n (k := 3) (by decide +kernel) rfl rfl) (
    okc (ok_iconst (n := 1) (by decide +kernel) rfl rfl) (
    okc (ok_iadd (by decide +kernel) rfl) (
    okc (ok_sld (by decide +kernel) rfl) (
    okc (ok_aload_n (k := 0) (by decide +kernel) rfl rfl) (
    okc (ok_iload_n (k := 3) (by decide +kernel) rfl rfl) (
    okc (ok_iconst (n := 2) (by decide +kernel) rfl rfl) (
    okc (ok_iadd (by decide +kernel) rfl) (
    okc (ok_sld (by decide +kernel) rfl) (
    okc (ok_callV (SPf_ok _ _ _ _ _ _) (mi := 6) (n := 2) (idx := 22) rfl m_M_told (by decide) cX9_ok w_1122 w_1123 w_1124 (by decide +kernel) rfl) (
    okc (ok_cmp_eq (off := 1155) (by decide +kernel) rfl rfl) (
    okc (ok_iconst (n := 0) (by decide +kernel) rfl rfl) (
    okc (ok_zret rfl (by decide +kernel)) (
    okc (ok_aload_n (k := 1) (by decide +kernel) rfl rfl) (
    okc (ok_aload_n (k := 0) (by decide +kernel) rfl rfl) (
    okc (ok_iload_n (k := 3) (by decide +kernel) rfl rfl) (
    okc (ok_iconst (n := 1) (by decide +kernel) rfl rfl) (
    okc (ok_iadd (by decide +kernel) rfl) (
    okc (ok_sld (by decide +kernel) rfl) (
    okc (ok_aload_n (k := 0) (by decide +kernel) rfl rfl) (
    okc (ok_iload_n (k := 3) (by decide +kernel) rfl rfl) (
    okc (ok_iconst (n := 2) (by decide +kernel) rfl rfl) (
    okc (ok_iadd (by decide +kernel) rfl) (
    okc (ok_sld (by decide +kernel) rfl) (
    okc (ok_callV (SPf_ok _ _ _ _ _ _) (mi := 7) (n := 2) (idx := 23) rfl m_W_as (by decide) cX8_ok w_412 w_413 w_414 (by decide +kernel) rfl) (
    okc (ok_aload_n (k := 2) (by decide +kernel) rfl rfl) (
    okc (ok_aload_n (k := 0) (by decide +kernel) rfl rfl) ( okn))))))))))))))))))))))))))))))))))))))))))))))))))))))))))))
def pl_L_law_3 (Ls : Nat) (xs : Nat → Int32) : List (Nat × mA) := [(328, a_iload 3 329), (329, a_push 1 330), (330, a_bin (fun x y => x + y) 331), (331, a_sld Ls xs 332), (332, a_aload 0 333), (333, a_iload 3 334), (334, a_push 2 335), (335, a_bin (fun x y => x + y) 336), (336, a_sld Ls xs 337), (337, a_callO 9 36 8 2 340), (340, a_cmp (fun x y => decide (x = y)) 1462 343), (343, a_push 0 344), (344, a_zret), (345, a_aload 1 346), (346, a_aload 0 347), (347, a_iload 3 348), (348, a_push 1 349), (349, a_bin (fun x y => x + y) 350), (350, a_sld Ls xs 351), (351, a_aload 0 352), (352, a_iload 3 353), (353, a_push 2 354), (354, a_bin (fun x y => x + y) 355), (355, a_sld Ls xs 356), (356, a_callO 8 10 9 2 359), (359, a_aload 2 360), (360, a_aload 0 361), (361, a_iload 3 362), (362, a_push 1 363), (363, a_bin (fun x y => x + y) 364), (364, a_sld Ls xs 365), (365, a_aload 0 366), (366, a_iload 3 367), (367, a_push 2 368), (368, a_bin (fun x y => x + y) 369), (369, a_sld Ls xs 370), (370, a_callO 9 36 10 2 373), (373, a_cmp (fun x y => decide (x = y)) 1462 376), (376, a_push 0 377), (377, a_zret), (378, a_aload 1 379), (379, a_aload 0 380), (380, a_iload 3 381), (381, a_push 1 382), (382, a_bin (fun x y => x + y) 383), (383, a_sld Ls xs 384), (384, a_aload 0 385), (385, a_iload 3 386), (386, a_push 2 387), (387, a_bin (fun x y => x + y) 388), (388, a_sld Ls xs 389), (389, a_aload 0 390), (390, a_iload 3 391), (391, a_push 3 392), (392, a_bin (fun x y => x + y) 393), (393, a_sld Ls xs 394), (394, a_callO 8 10 11 3 397), (397, a_aload 2 398), (398, a_aload 0 399), (399, a_iload 3 400)]
set_option maxRecDepth 20000 in
theorem ol_L_law_3 : okall B sp D cA (SPf B sp Ls xs adK adV) MT ⟨"WreckSkyLaw", "law", "([I)Z"⟩ code maxLocals ret (pl_L_law_3 Ls xs) := by
  unfold pl_L_law_3
  exact
    okc (ok_iload_n (k := 3) (by decide +kernel) rfl rfl) (
    okc (ok_iconst (n := 1) (by decide +kernel) rfl rfl) (
    okc (ok_iadd (by decide +kernel) rfl) (
    okc (ok_sld (by decide +kernel) rfl) (
    okc (ok_aload_n (k := 0) (by decide +kernel) rfl rfl) (
    okc (ok_iload_n (k := 3) (by decide +kernel) rfl rfl) (
    okc (ok_iconst (n := 2) (by decide +kernel) rfl rfl) (
    okc (ok_iadd (by decide +kernel) rfl) (
    okc (ok_sld (by decide +kernel) rfl) (
    okc (ok_callV (SPf_ok _ _ _ _ _ _) (mi := 8) (n := 2) (idx := 26) rfl m_M_as (by decide) cX9_ok w_1160 w_1161 w_1162 (by decide +kernel) rfl) (
    okc (ok_cmp_eq (off := 1122) (by decide +kernel) rfl rfl) (
    okc (ok_iconst (n := 0) (by decide +kernel) rfl rfl) (
    okc (ok_zret rfl (by decide +kernel)) (
    okc (ok_aload_n (k := 1) (by decide +kernel) rfl rfl) (
    okc (ok_aload_n (k := 0) (by decide +kernel) rfl rfl) (
    okc (ok_iload_n (k := 3) (by decide +kernel) rfl rfl) (
    okc (ok_iconst (n := 1) (by decide +kernel) rfl rfl) (
    okc (ok_iadd (by decide +kernel) rfl) (
    okc (ok_sld (by decide +kernel) rfl) (
    okc (ok_aload_n (k := 0) (by decide +kernel) rfl rfl) (
    okc (ok_iload_n (k := 3) (by decide +kernel) rfl rfl) (
    okc (ok_iconst (n := 2) (by decide +kernel) rfl rfl) (
    okc (ok_iadd (by decide +kernel) rfl) (
    okc (ok_sld (by decide +kernel) rfl) (
    okc (ok_callV (SPf_ok _ _ _ _ _ _) (mi := 9) (n := 2) (idx := 27) rfl m_W_turns (by decide) cX8_ok w_423 w_424 w_425 (by decide +kernel) rfl) (
    okc (ok_aload_n (k := 2) (by decide +kernel) rfl rfl) (
    okc (ok_aload_n (k := 0) (by decide +kernel) rfl rfl) (
    okc (ok_iload_n (k := 3) (by decide +kernel) rfl rfl) (
    okc (ok_iconst (n := 1) (by decide +kernel) rfl rfl) (
    okc (ok_iadd (by decide +kernel) rfl) (
    okc (ok_sld (by decide +kernel) rfl) (
    okc (ok_aload_n (k := 0) (by decide +kernel) rfl rfl) (
    okc (ok_iload_n (k := 3) (by decide +kernel) rfl rfl) (
    okc (ok_iconst (n := 2) (by decide +kernel) rfl rfl) (
    okc (ok_iadd (by decide +kernel) rfl) (
    okc (ok_sld (by decide +kernel) rfl) (
    okc (ok_callV (SPf_ok _ _ _ _ _ _) (mi := 10) (n := 2) (idx := 30) rfl m_M_turns (by decide) cX9_ok w_1168 w_1169 w_1170 (by decide +kernel) rfl) (
    okc (ok_cmp_eq (off := 1089) (by decide +kernel) rfl rfl) (
    okc (ok_iconst (n := 0) (by decide +kernel) rfl rfl) (
    okc (ok_zret rfl (by decide +kernel)) (
    okc (ok_aload_n (k := 1) (by decide +kernel) rfl rfl) (
    okc (ok_aload_n (k := 0) (by decide +kernel) rfl rfl) (
    okc (ok_iload_n (k := 3) (by decide +kernel) rfl rfl) (
    okc (ok_iconst (n := 1) (by decide +kernel) rfl rfl) (
    okc (ok_iadd (by decide +kernel) rfl) (
    okc (ok_sld (by decide +kernel) rfl) (
    okc (ok_aload_n (k := 0) (by decide +kernel) rfl rfl) (
    okc (ok_iload_n (k := 3) (by decide +kernel) rfl rfl) (
    okc (ok_iconst (n := 2) (by decide +kernel) rfl rfl) (
    okc (ok_iadd (by decide +kernel) rfl) (
    okc (ok_sld (by decide +kernel) rfl) (
    okc (ok_aload_n (k := 0) (by decide +kernel) rfl rfl) (
    okc (ok_iload_n (k := 3) (by decide +kernel) rfl rfl) (
    okc (ok_iconst (n := 3) (by decide +kernel) rfl rfl) (
    okc (ok_iadd (by decide +kernel) rfl) (
    okc (ok_sld (by decide +kernel) rfl) (
    okc (ok_callV (SPf_ok _ _ _ _ _ _) (mi := 11) (n := 3) (idx := 31) rfl m_W_set (by decide) cX8_ok w_427 w_428 w_429 (by decide +kernel) rfl) (
    okc (ok_aload_n (k := 2) (by decide +kernel) rfl rfl) (
    okc (ok_aload_n (k := 0) (by decide +kernel) rfl rfl) (
    okc (ok_iload_n (k := 3) (by decide +kernel) rfl rfl) ( okn))))))))))))))))))))))))))))))))))))))))))))))))))))))))))))
def pl_L_law_4 (Ls : Nat) (xs : Nat → Int32) : List (Nat × mA) := [(400, a_push 1 401), (401, a_bin (fun x y => x + y) 402), (402, a_sld Ls xs 403), (403, a_aload 0 404), (404, a_iload 3 405), (405, a_push 2 406), (406, a_bin (fun x y => x + y) 407), (407, a_sld Ls xs 408), (408, a_aload 0 409), (409, a_iload 3 410), (410, a_push 3 411), (411, a_bin (fun x y => x + y) 412), (412, a_sld Ls xs 413), (413, a_callO 9 36 12 3 416), (416, a_cmp (fun x y => decide (x = y)) 1462 419), (419, a_push 0 420), (420, a_zret), (421, a_aload 1 422), (422, a_aload 0 423), (423, a_iload 3 424), (424, a_push 1 425), (425, a_bin (fun x y => x + y) 426), (426, a_sld Ls xs 427), (427, a_callO 8 10 13 1 430), (430, a_aload 2 431), (431, a_aload 0 432), (432, a_iload 3 433), (433, a_push 1 434), (434, a_bin (fun x y => x + y) 435), (435, a_sld Ls xs 436), (436, a_callO 9 36 14 1 439), (439, a_cmp (fun x y => decide (x = y)) 1462 442), (442, a_push 0 443), (443, a_zret), (444, a_aload 1 445), (445, a_aload 0 446), (446, a_iload 3 447), (447, a_push 1 448), (448, a_bin (fun x y => x + y) 449), (449, a_sld Ls xs 450), (450, a_callO 8 10 15 1 453), (453, a_aload 2 454), (454, a_aload 0 455), (455, a_iload 3 456), (456, a_push 1 457), (457, a_bin (fun x y => x + y) 458), (458, a_sld Ls xs 459), (459, a_callO 9 36 16 1 462), (462, a_cmp (fun x y => decide (x = y)) 1462 465), (465, a_push 0 466), (466, a_zret), (467, a_aload 1 468), (468, a_aload 0 469), (469, a_iload 3 470), (470, a_push 1 471), (471, a_bin (fun x y => x + y) 472), (472, a_sld Ls xs 473), (473, a_aload 0 474), (474, a_iload 3 475), (475, a_push 2 476)]
set_option maxRecDepth 20000 in
theorem ol_L_law_4 : okall B sp D cA (SPf B sp Ls xs adK adV) MT ⟨"WreckSkyLaw", "law", "([I)Z"⟩ code maxLocals ret (pl_L_law_4 Ls xs) := by
  unfold pl_L_law_4
  exact
    okc (ok_iconst (n := 1) (by decide +kernel) rfl rfl) (
    okc (ok_iadd (by decide +kernel) rfl) (
    okc (ok_sld (by decide +kernel) rfl) (
    okc (ok_aload_n (k := 0) (by decide +kernel) rfl rfl) (
    okc (ok_iload_n (k := 3) (by decide +kernel) rfl rfl) (
    okc (ok_iconst (n := 2) (by decide +kernel) rfl rfl) (
    okc (ok_iadd (by decide +kernel) rfl) (
    okc (ok_sld (by decide +kernel) rfl) (
    okc (ok_aload_n (k := 0) (by decide +kernel) rfl rfl) (
    okc (ok_iload_n (k := 3) (by decide +kernel) rfl rfl) (
    okc (ok_iconst (n := 3) (by decide +kernel) rfl rfl) (
    okc (ok_iadd (by decide +kernel) rfl) (
    okc (ok_sld (by decide +kernel) rfl) (
    okc (ok_callV (SPf_ok _ _ _ _ _ _) (mi := 12) (n := 3) (idx := 35) rfl m_M_set (by decide) cX9_ok w_1176 w_1177 w_1178 (by decide +kernel) rfl) (
    okc (ok_cmp_eq (off := 1046) (by decide +kernel) rfl rfl) (
    okc (ok_iconst (n := 0) (by decide +kernel) rfl rfl) (
    okc (ok_zret rfl (by decide +kernel)) (
    okc (ok_aload_n (k := 1) (by decide +kernel) rfl rfl) (
    okc (ok_aload_n (k := 0) (by decide +kernel) rfl rfl) (
    okc (ok_iload_n (k := 3) (by decide +kernel) rfl rfl) (
    okc (ok_iconst (n := 1) (by decide +kernel) rfl rfl) (
    okc (ok_iadd (by decide +kernel) rfl) (
    okc (ok_sld (by decide +kernel) rfl) (
    okc (ok_callV (SPf_ok _ _ _ _ _ _) (mi := 13) (n := 1) (idx := 36) rfl m_W_sweep (by decide) cX8_ok w_435 w_436 w_437 (by decide +kernel) rfl) (
    okc (ok_aload_n (k := 2) (by decide +kernel) rfl rfl) (
    okc (ok_aload_n (k := 0) (by decide +kernel) rfl rfl) (
    okc (ok_iload_n (k := 3) (by decide +kernel) rfl rfl) (
    okc (ok_iconst (n := 1) (by decide +kernel) rfl rfl) (
    okc (ok_iadd (by decide +kernel) rfl) (
    okc (ok_sld (by decide +kernel) rfl) (
    okc (ok_callV (SPf_ok _ _ _ _ _ _) (mi := 14) (n := 1) (idx := 40) rfl m_M_sweep (by decide) cX9_ok w_1180 w_1181 w_1182 (by decide +kernel) rfl) (
    okc (ok_cmp_eq (off := 1023) (by decide +kernel) rfl rfl) (
    okc (ok_iconst (n := 0) (by decide +kernel) rfl rfl) (
    okc (ok_zret rfl (by decide +kernel)) (
    okc (ok_aload_n (k := 1) (by decide +kernel) rfl rfl) (
    okc (ok_aload_n (k := 0) (by decide +kernel) rfl rfl) (
    okc (ok_iload_n (k := 3) (by decide +kernel) rfl rfl) (
    okc (ok_iconst (n := 1) (by decide +kernel) rfl rfl) (
    okc (ok_iadd (by decide +kernel) rfl) (
    okc (ok_sld (by decide +kernel) rfl) (
    okc (ok_callV (SPf_ok _ _ _ _ _ _) (mi := 15) (n := 1) (idx := 41) rfl m_W_drag (by decide) cX8_ok w_440 w_441 w_442 (by decide +kernel) rfl) (
    okc (ok_aload_n (k := 2) (by decide +kernel) rfl rfl) (
    okc (ok_aload_n (k := 0) (by decide +kernel) rfl rfl) (
    okc (ok_iload_n (k := 3) (by decide +kernel) rfl rfl) (
    okc (ok_iconst (n := 1) (by decide +kernel) rfl rfl) (
    okc (ok_iadd (by decide +kernel) rfl) (
    okc (ok_sld (by decide +kernel) rfl) (
    okc (ok_callV (SPf_ok _ _ _ _ _ _) (mi := 16) (n := 1) (idx := 44) rfl m_M_drag (by decide) cX9_ok w_1189 w_1190 w_1191 (by decide +kernel) rfl) (
    okc (ok_cmp_eq (off := 1000) (by decide +kernel) rfl rfl) (
    okc (ok_iconst (n := 0) (by decide +kernel) rfl rfl) (
    okc (ok_zret rfl (by decide +kernel)) (
    okc (ok_aload_n (k := 1) (by decide +kernel) rfl rfl) (
    okc (ok_aload_n (k := 0) (by decide +kernel) rfl rfl) (
    okc (ok_iload_n (k := 3) (by decide +kernel) rfl rfl) (
    okc (ok_iconst (n := 1) (by decide +kernel) rfl rfl) (
    okc (ok_iadd (by decide +kernel) rfl) (
    okc (ok_sld (by decide +kernel) rfl) (
    okc (ok_aload_n (k := 0) (by decide +kernel) rfl rfl) (
    okc (ok_iload_n (k := 3) (by decide +kernel) rfl rfl) (
    okc (ok_iconst (n := 2) (by decide +kernel) rfl rfl) ( okn))))))))))))))))))))))))))))))))))))))))))))))))))))))))))))
def pl_L_law_5 (Ls : Nat) (xs : Nat → Int32) : List (Nat × mA) := [(476, a_bin (fun x y => x + y) 477), (477, a_sld Ls xs 478), (478, a_callO 8 10 17 2 481), (481, a_aload 2 482), (482, a_aload 0 483), (483, a_iload 3 484), (484, a_push 1 485), (485, a_bin (fun x y => x + y) 486), (486, a_sld Ls xs 487), (487, a_aload 0 488), (488, a_iload 3 489), (489, a_push 2 490), (490, a_bin (fun x y => x + y) 491), (491, a_sld Ls xs 492), (492, a_callO 9 36 18 2 495), (495, a_cmp (fun x y => decide (x = y)) 1462 498), (498, a_push 0 499), (499, a_zret), (500, a_aload 1 501), (501, a_aload 0 502), (502, a_iload 3 503), (503, a_push 1 504), (504, a_bin (fun x y => x + y) 505), (505, a_sld Ls xs 506), (506, a_callO 8 10 19 1 509), (509, a_aload 2 510), (510, a_aload 0 511), (511, a_iload 3 512), (512, a_push 1 513), (513, a_bin (fun x y => x + y) 514), (514, a_sld Ls xs 515), (515, a_callO 9 36 20 1 518), (518, a_cmp (fun x y => decide (x = y)) 1462 521), (521, a_push 0 522), (522, a_zret), (523, a_aload 1 524), (524, a_aload 0 525), (525, a_iload 3 526), (526, a_push 1 527), (527, a_bin (fun x y => x + y) 528), (528, a_sld Ls xs 529), (529, a_callO 8 10 21 1 532), (532, a_aload 2 533), (533, a_aload 0 534), (534, a_iload 3 535), (535, a_push 1 536), (536, a_bin (fun x y => x + y) 537), (537, a_sld Ls xs 538), (538, a_callO 9 36 22 1 541), (541, a_cmp (fun x y => decide (x = y)) 1462 544), (544, a_push 0 545), (545, a_zret), (546, a_aload 1 547), (547, a_aload 0 548), (548, a_iload 3 549), (549, a_push 1 550), (550, a_bin (fun x y => x + y) 551), (551, a_sld Ls xs 552), (552, a_callO 8 10 23 1 555), (555, a_aload 2 556)]
set_option maxRecDepth 20000 in
theorem ol_L_law_5 : okall B sp D cA (SPf B sp Ls xs adK adV) MT ⟨"WreckSkyLaw", "law", "([I)Z"⟩ code maxLocals ret (pl_L_law_5 Ls xs) := by
  unfold pl_L_law_5
  exact
    okc (ok_iadd (by decide +kernel) rfl) (
    okc (ok_sld (by decide +kernel) rfl) (
    okc (ok_callV (SPf_ok _ _ _ _ _ _) (mi := 17) (n := 2) (idx := 45) rfl m_W_at (by decide) cX8_ok w_444 w_445 w_446 (by decide +kernel) rfl) (
    okc (ok_aload_n (k := 2) (by decide +kernel) rfl rfl) (
    okc (ok_aload_n (k := 0) (by decide +kernel) rfl rfl) (
    okc (ok_iload_n (k := 3) (by decide +kernel) rfl rfl) (
    okc (ok_iconst (n := 1) (by decide +kernel) rfl rfl) (
    okc (ok_iadd (by decide +kernel) rfl) (
    okc (ok_sld (by decide +kernel) rfl) (
    okc (ok_aload_n (k := 0) (by decide +kernel) rfl rfl) (
    okc (ok_iload_n (k := 3) (by decide +kernel) rfl rfl) (
    okc (ok_iconst (n := 2) (by decide +kernel) rfl rfl) (
    okc (ok_iadd (by decide +kernel) rfl) (
    okc (ok_sld (by decide +kernel) rfl) (
    okc (ok_callV (SPf_ok _ _ _ _ _ _) (mi := 18) (n := 2) (idx := 48) rfl m_M_at (by decide) cX9_ok w_1193 w_1194 w_1195 (by decide +kernel) rfl) (
    okc (ok_cmp_eq (off := 967) (by decide +kernel) rfl rfl) (
    okc (ok_iconst (n := 0) (by decide +kernel) rfl rfl) (
    okc (ok_zret rfl (by decide +kernel)) (
    okc (ok_aload_n (k := 1) (by decide +kernel) rfl rfl) (
    okc (ok_aload_n (k := 0) (by decide +kernel) rfl rfl) (
    okc (ok_iload_n (k := 3) (by decide +kernel) rfl rfl) (
    okc (ok_iconst (n := 1) (by decide +kernel) rfl rfl) (
    okc (ok_iadd (by decide +kernel) rfl) (
    okc (ok_sld (by decide +kernel) rfl) (
    okc (ok_callV (SPf_ok _ _ _ _ _ _) (mi := 19) (n := 1) (idx := 49) rfl m_W_deal (by decide) cX8_ok w_448 w_449 w_450 (by decide +kernel) rfl) (
    okc (ok_aload_n (k := 2) (by decide +kernel) rfl rfl) (
    okc (ok_aload_n (k := 0) (by decide +kernel) rfl rfl) (
    okc (ok_iload_n (k := 3) (by decide +kernel) rfl rfl) (
    okc (ok_iconst (n := 1) (by decide +kernel) rfl rfl) (
    okc (ok_iadd (by decide +kernel) rfl) (
    okc (ok_sld (by decide +kernel) rfl) (
    okc (ok_callV (SPf_ok _ _ _ _ _ _) (mi := 20) (n := 1) (idx := 52) rfl m_M_deal (by decide) cX9_ok w_1201 w_1202 w_1203 (by decide +kernel) rfl) (
    okc (ok_cmp_eq (off := 944) (by decide +kernel) rfl rfl) (
    okc (ok_iconst (n := 0) (by decide +kernel) rfl rfl) (
    okc (ok_zret rfl (by decide +kernel)) (
    okc (ok_aload_n (k := 1) (by decide +kernel) rfl rfl) (
    okc (ok_aload_n (k := 0) (by decide +kernel) rfl rfl) (
    okc (ok_iload_n (k := 3) (by decide +kernel) rfl rfl) (
    okc (ok_iconst (n := 1) (by decide +kernel) rfl rfl) (
    okc (ok_iadd (by decide +kernel) rfl) (
    okc (ok_sld (by decide +kernel) rfl) (
    okc (ok_callV (SPf_ok _ _ _ _ _ _) (mi := 21) (n := 1) (idx := 53) rfl m_W_seed (by decide) cX8_ok w_462 w_463 w_464 (by decide +kernel) rfl) (
    okc (ok_aload_n (k := 2) (by decide +kernel) rfl rfl) (
    okc (ok_aload_n (k := 0) (by decide +kernel) rfl rfl) (
    okc (ok_iload_n (k := 3) (by decide +kernel) rfl rfl) (
    okc (ok_iconst (n := 1) (by decide +kernel) rfl rfl) (
    okc (ok_iadd (by decide +kernel) rfl) (
    okc (ok_sld (by decide +kernel) rfl) (
    okc (ok_callV (SPf_ok _ _ _ _ _ _) (mi := 22) (n := 1) (idx := 56) rfl m_M_seed (by decide) cX9_ok w_1210 w_1211 w_1212 (by decide +kernel) rfl) (
    okc (ok_cmp_eq (off := 921) (by decide +kernel) rfl rfl) (
    okc (ok_iconst (n := 0) (by decide +kernel) rfl rfl) (
    okc (ok_zret rfl (by decide +kernel)) (
    okc (ok_aload_n (k := 1) (by decide +kernel) rfl rfl) (
    okc (ok_aload_n (k := 0) (by decide +kernel) rfl rfl) (
    okc (ok_iload_n (k := 3) (by decide +kernel) rfl rfl) (
    okc (ok_iconst (n := 1) (by decide +kernel) rfl rfl) (
    okc (ok_iadd (by decide +kernel) rfl) (
    okc (ok_sld (by decide +kernel) rfl) (
    okc (ok_callV (SPf_ok _ _ _ _ _ _) (mi := 23) (n := 1) (idx := 57) rfl m_W_hours (by decide) cX8_ok w_466 w_467 w_468 (by decide +kernel) rfl) (
    okc (ok_aload_n (k := 2) (by decide +kernel) rfl rfl) ( okn))))))))))))))))))))))))))))))))))))))))))))))))))))))))))))
def pl_L_law_6 (Ls : Nat) (xs : Nat → Int32) : List (Nat × mA) := [(556, a_aload 0 557), (557, a_iload 3 558), (558, a_push 1 559), (559, a_bin (fun x y => x + y) 560), (560, a_sld Ls xs 561), (561, a_callO 9 36 24 1 564), (564, a_cmp (fun x y => decide (x = y)) 1462 567), (567, a_push 0 568), (568, a_zret), (569, a_aload 1 570), (570, a_aload 0 571), (571, a_iload 3 572), (572, a_push 1 573), (573, a_bin (fun x y => x + y) 574), (574, a_sld Ls xs 575), (575, a_callO 8 10 25 1 578), (578, a_aload 2 579), (579, a_aload 0 580), (580, a_iload 3 581), (581, a_push 1 582), (582, a_bin (fun x y => x + y) 583), (583, a_sld Ls xs 584), (584, a_callO 9 36 26 1 587), (587, a_cmp (fun x y => decide (x = y)) 1462 590), (590, a_push 0 591), (591, a_zret), (592, a_aload 1 593), (593, a_aload 0 594), (594, a_iload 3 595), (595, a_push 1 596), (596, a_bin (fun x y => x + y) 597), (597, a_sld Ls xs 598), (598, a_aload 0 599), (599, a_iload 3 600), (600, a_push 2 601), (601, a_bin (fun x y => x + y) 602), (602, a_sld Ls xs 603), (603, a_callO 8 10 27 2 606), (606, a_aload 2 607), (607, a_aload 0 608), (608, a_iload 3 609), (609, a_push 1 610), (610, a_bin (fun x y => x + y) 611), (611, a_sld Ls xs 612), (612, a_aload 0 613), (613, a_iload 3 614), (614, a_push 2 615), (615, a_bin (fun x y => x + y) 616), (616, a_sld Ls xs 617), (617, a_callO 9 36 28 2 620), (620, a_cmp (fun x y => decide (x = y)) 1462 623), (623, a_push 0 624), (624, a_zret), (625, a_aload 1 626), (626, a_callO 8 10 29 0 629), (629, a_aload 2 630), (630, a_callO 9 36 30 0 633), (633, a_cmp (fun x y => decide (x = y)) 1462 636), (636, a_push 0 637), (637, a_zret)]
set_option maxRecDepth 20000 in
theorem ol_L_law_6 : okall B sp D cA (SPf B sp Ls xs adK adV) MT ⟨"WreckSkyLaw", "law", "([I)Z"⟩ code maxLocals ret (pl_L_law_6 Ls xs) := by
  unfold pl_L_law_6
  exact
    okc (ok_aload_n (k := 0) (by decide +kernel) rfl rfl) (
    okc (ok_iload_n (k := 3) (by decide +kernel) rfl rfl) (
    okc (ok_iconst (n := 1) (by decide +kernel) rfl rfl) (
    okc (ok_iadd (by decide +kernel) rfl) (
    okc (ok_sld (by decide +kernel) rfl) (
    okc (ok_callV (SPf_ok _ _ _ _ _ _) (mi := 24) (n := 1) (idx := 60) rfl m_M_hours (by decide) cX9_ok w_1214 w_1215 w_1216 (by decide +kernel) rfl) (
    okc (ok_cmp_eq (off := 898) (by decide +kernel) rfl rfl) (
    okc (ok_iconst (n := 0) (by decide +kernel) rfl rfl) (
    okc (ok_zret rfl (by decide +kernel)) (
    okc (ok_aload_n (k := 1) (by decide +kernel) rfl rfl) (
    okc (ok_aload_n (k := 0) (by decide +kernel) rfl rfl) (
    okc (ok_iload_n (k := 3) (by decide +kernel) rfl rfl) (
    okc (ok_iconst (n := 1) (by decide +kernel) rfl rfl) (
    okc (ok_iadd (by decide +kernel) rfl) (
    okc (ok_sld (by decide +kernel) rfl) (
    okc (ok_callV (SPf_ok _ _ _ _ _ _) (mi := 25) (n := 1) (idx := 61) rfl m_W_sky (by decide) cX8_ok w_496 w_497 w_498 (by decide +kernel) rfl) (
    okc (ok_aload_n (k := 2) (by decide +kernel) rfl rfl) (
    okc (ok_aload_n (k := 0) (by decide +kernel) rfl rfl) (
    okc (ok_iload_n (k := 3) (by decide +kernel) rfl rfl) (
    okc (ok_iconst (n := 1) (by decide +kernel) rfl rfl) (
    okc (ok_iadd (by decide +kernel) rfl) (
    okc (ok_sld (by decide +kernel) rfl) (
    okc (ok_callV (SPf_ok _ _ _ _ _ _) (mi := 26) (n := 1) (idx := 64) rfl m_M_sky (by decide) cX9_ok w_1241 w_1242 w_1243 (by decide +kernel) rfl) (
    okc (ok_cmp_eq (off := 875) (by decide +kernel) rfl rfl) (
    okc (ok_iconst (n := 0) (by decide +kernel) rfl rfl) (
    okc (ok_zret rfl (by decide +kernel)) (
    okc (ok_aload_n (k := 1) (by decide +kernel) rfl rfl) (
    okc (ok_aload_n (k := 0) (by decide +kernel) rfl rfl) (
    okc (ok_iload_n (k := 3) (by decide +kernel) rfl rfl) (
    okc (ok_iconst (n := 1) (by decide +kernel) rfl rfl) (
    okc (ok_iadd (by decide +kernel) rfl) (
    okc (ok_sld (by decide +kernel) rfl) (
    okc (ok_aload_n (k := 0) (by decide +kernel) rfl rfl) (
    okc (ok_iload_n (k := 3) (by decide +kernel) rfl rfl) (
    okc (ok_iconst (n := 2) (by decide +kernel) rfl rfl) (
    okc (ok_iadd (by decide +kernel) rfl) (
    okc (ok_sld (by decide +kernel) rfl) (
    okc (ok_callV (SPf_ok _ _ _ _ _ _) (mi := 27) (n := 2) (idx := 65) rfl m_W_behind (by decide) cX8_ok w_512 w_513 w_514 (by decide +kernel) rfl) (
    okc (ok_aload_n (k := 2) (by decide +kernel) rfl rfl) (
    okc (ok_aload_n (k := 0) (by decide +kernel) rfl rfl) (
    okc (ok_iload_n (k := 3) (by decide +kernel) rfl rfl) (
    okc (ok_iconst (n := 1) (by decide +kernel) rfl rfl) (
    okc (ok_iadd (by decide +kernel) rfl) (
    okc (ok_sld (by decide +kernel) rfl) (
    okc (ok_aload_n (k := 0) (by decide +kernel) rfl rfl) (
    okc (ok_iload_n (k := 3) (by decide +kernel) rfl rfl) (
    okc (ok_iconst (n := 2) (by decide +kernel) rfl rfl) (
    okc (ok_iadd (by decide +kernel) rfl) (
    okc (ok_sld (by decide +kernel) rfl) (
    okc (ok_callV (SPf_ok _ _ _ _ _ _) (mi := 28) (n := 2) (idx := 68) rfl m_M_behind (by decide) cX9_ok w_1249 w_1250 w_1251 (by decide +kernel) rfl) (
    okc (ok_cmp_eq (off := 842) (by decide +kernel) rfl rfl) (
    okc (ok_iconst (n := 0) (by decide +kernel) rfl rfl) (
    okc (ok_zret rfl (by decide +kernel)) (
    okc (ok_aload_n (k := 1) (by decide +kernel) rfl rfl) (
    okc (ok_callV (SPf_ok _ _ _ _ _ _) (mi := 29) (n := 0) (idx := 69) rfl m_W_first (by decide) cX8_ok w_535 w_536 w_537 (by decide +kernel) rfl) (
    okc (ok_aload_n (k := 2) (by decide +kernel) rfl rfl) (
    okc (ok_callV (SPf_ok _ _ _ _ _ _) (mi := 30) (n := 0) (idx := 73) rfl m_M_first (by decide) cX9_ok w_1261 w_1262 w_1263 (by decide +kernel) rfl) (
    okc (ok_cmp_eq (off := 829) (by decide +kernel) rfl rfl) (
    okc (ok_iconst (n := 0) (by decide +kernel) rfl rfl) (
    okc (ok_zret rfl (by decide +kernel)) ( okn))))))))))))))))))))))))))))))))))))))))))))))))))))))))))))
def pl_L_law_7 (Ls : Nat) (xs : Nat → Int32) : List (Nat × mA) := [(638, a_aload 1 639), (639, a_aload 0 640), (640, a_iload 3 641), (641, a_push 1 642), (642, a_bin (fun x y => x + y) 643), (643, a_sld Ls xs 644), (644, a_callO 8 10 31 1 647), (647, a_aload 2 648), (648, a_aload 0 649), (649, a_iload 3 650), (650, a_push 1 651), (651, a_bin (fun x y => x + y) 652), (652, a_sld Ls xs 653), (653, a_callO 9 36 32 1 656), (656, a_cmp (fun x y => decide (x = y)) 1462 659), (659, a_push 0 660), (660, a_zret), (661, a_aload 1 662), (662, a_aload 0 663), (663, a_iload 3 664), (664, a_push 1 665), (665, a_bin (fun x y => x + y) 666), (666, a_sld Ls xs 667), (667, a_callO 8 10 33 1 670), (670, a_aload 2 671), (671, a_aload 0 672), (672, a_iload 3 673), (673, a_push 1 674), (674, a_bin (fun x y => x + y) 675), (675, a_sld Ls xs 676), (676, a_callO 9 36 34 1 679), (679, a_cmp (fun x y => decide (x = y)) 1462 682), (682, a_push 0 683), (683, a_zret), (684, a_aload 1 685), (685, a_aload 0 686), (686, a_iload 3 687), (687, a_push 1 688), (688, a_bin (fun x y => x + y) 689), (689, a_sld Ls xs 690), (690, a_aload 0 691), (691, a_iload 3 692), (692, a_push 2 693), (693, a_bin (fun x y => x + y) 694), (694, a_sld Ls xs 695), (695, a_callO 8 10 35 2 698), (698, a_aload 2 699), (699, a_aload 0 700), (700, a_iload 3 701), (701, a_push 1 702), (702, a_bin (fun x y => x + y) 703), (703, a_sld Ls xs 704), (704, a_aload 0 705), (705, a_iload 3 706), (706, a_push 2 707), (707, a_bin (fun x y => x + y) 708), (708, a_sld Ls xs 709), (709, a_callO 9 36 36 2 712), (712, a_cmp (fun x y => decide (x = y)) 1462 715), (715, a_push 0 716)]
set_option maxRecDepth 20000 in
theorem ol_L_law_7 : okall B sp D cA (SPf B sp Ls xs adK adV) MT ⟨"WreckSkyLaw", "law", "([I)Z"⟩ code maxLocals ret (pl_L_law_7 Ls xs) := by
  unfold pl_L_law_7
  exact
    okc (ok_aload_n (k := 1) (by decide +kernel) rfl rfl) (
    okc (ok_aload_n (k := 0) (by decide +kernel) rfl rfl) (
    okc (ok_iload_n (k := 3) (by decide +kernel) rfl rfl) (
    okc (ok_iconst (n := 1) (by decide +kernel) rfl rfl) (
    okc (ok_iadd (by decide +kernel) rfl) (
    okc (ok_sld (by decide +kernel) rfl) (
    okc (ok_callV (SPf_ok _ _ _ _ _ _) (mi := 31) (n := 1) (idx := 74) rfl m_W_hole (by decide) cX8_ok w_543 w_544 w_545 (by decide +kernel) rfl) (
    okc (ok_aload_n (k := 2) (by decide +kernel) rfl rfl) (
    okc (ok_aload_n (k := 0) (by decide +kernel) rfl rfl) (
    okc (ok_iload_n (k := 3) (by decide +kernel) rfl rfl) (
    okc (ok_iconst (n := 1) (by decide +kernel) rfl rfl) (
    okc (ok_iadd (by decide +kernel) rfl) (
    okc (ok_sld (by decide +kernel) rfl) (
    okc (ok_callV (SPf_ok _ _ _ _ _ _) (mi := 32) (n := 1) (idx := 77) rfl m_M_hole (by decide) cX9_ok w_1266 w_1267 w_1268 (by decide +kernel) rfl) (
    okc (ok_cmp_eq (off := 806) (by decide +kernel) rfl rfl) (
    okc (ok_iconst (n := 0) (by decide +kernel) rfl rfl) (
    okc (ok_zret rfl (by decide +kernel)) (
    okc (ok_aload_n (k := 1) (by decide +kernel) rfl rfl) (
    okc (ok_aload_n (k := 0) (by decide +kernel) rfl rfl) (
    okc (ok_iload_n (k := 3) (by decide +kernel) rfl rfl) (
    okc (ok_iconst (n := 1) (by decide +kernel) rfl rfl) (
    okc (ok_iadd (by decide +kernel) rfl) (
    okc (ok_sld (by decide +kernel) rfl) (
    okc (ok_callV (SPf_ok _ _ _ _ _ _) (mi := 33) (n := 1) (idx := 78) rfl m_W_open (by decide) cX8_ok w_563 w_564 w_565 (by decide +kernel) rfl) (
    okc (ok_aload_n (k := 2) (by decide +kernel) rfl rfl) (
    okc (ok_aload_n (k := 0) (by decide +kernel) rfl rfl) (
    okc (ok_iload_n (k := 3) (by decide +kernel) rfl rfl) (
    okc (ok_iconst (n := 1) (by decide +kernel) rfl rfl) (
    okc (ok_iadd (by decide +kernel) rfl) (
    okc (ok_sld (by decide +kernel) rfl) (
    okc (ok_callV (SPf_ok _ _ _ _ _ _) (mi := 34) (n := 1) (idx := 81) rfl m_M_open (by decide) cX9_ok w_1278 w_1279 w_1280 (by decide +kernel) rfl) (
    okc (ok_cmp_eq (off := 783) (by decide +kernel) rfl rfl) (
    okc (ok_iconst (n := 0) (by decide +kernel) rfl rfl) (
    okc (ok_zret rfl (by decide +kernel)) (
    okc (ok_aload_n (k := 1) (by decide +kernel) rfl rfl) (
    okc (ok_aload_n (k := 0) (by decide +kernel) rfl rfl) (
    okc (ok_iload_n (k := 3) (by decide +kernel) rfl rfl) (
    okc (ok_iconst (n := 1) (by decide +kernel) rfl rfl) (
    okc (ok_iadd (by decide +kernel) rfl) (
    okc (ok_sld (by decide +kernel) rfl) (
    okc (ok_aload_n (k := 0) (by decide +kernel) rfl rfl) (
    okc (ok_iload_n (k := 3) (by decide +kernel) rfl rfl) (
    okc (ok_iconst (n := 2) (by decide +kernel) rfl rfl) (
    okc (ok_iadd (by decide +kernel) rfl) (
    okc (ok_sld (by decide +kernel) rfl) (
    okc (ok_callV (SPf_ok _ _ _ _ _ _) (mi := 35) (n := 2) (idx := 82) rfl m_W_best (by decide) cX8_ok w_567 w_568 w_569 (by decide +kernel) rfl) (
    okc (ok_aload_n (k := 2) (by decide +kernel) rfl rfl) (
    okc (ok_aload_n (k := 0) (by decide +kernel) rfl rfl) (
    okc (ok_iload_n (k := 3) (by decide +kernel) rfl rfl) (
    okc (ok_iconst (n := 1) (by decide +kernel) rfl rfl) (
    okc (ok_iadd (by decide +kernel) rfl) (
    okc (ok_sld (by decide +kernel) rfl) (
    okc (ok_aload_n (k := 0) (by decide +kernel) rfl rfl) (
    okc (ok_iload_n (k := 3) (by decide +kernel) rfl rfl) (
    okc (ok_iconst (n := 2) (by decide +kernel) rfl rfl) (
    okc (ok_iadd (by decide +kernel) rfl) (
    okc (ok_sld (by decide +kernel) rfl) (
    okc (ok_callV (SPf_ok _ _ _ _ _ _) (mi := 36) (n := 2) (idx := 85) rfl m_M_best (by decide) cX9_ok w_1282 w_1283 w_1284 (by decide +kernel) rfl) (
    okc (ok_cmp_eq (off := 750) (by decide +kernel) rfl rfl) (
    okc (ok_iconst (n := 0) (by decide +kernel) rfl rfl) ( okn))))))))))))))))))))))))))))))))))))))))))))))))))))))))))))
def pl_L_law_8 (Ls : Nat) (xs : Nat → Int32) : List (Nat × mA) := [(716, a_zret), (717, a_aload 1 718), (718, a_aload 0 719), (719, a_iload 3 720), (720, a_push 1 721), (721, a_bin (fun x y => x + y) 722), (722, a_sld Ls xs 723), (723, a_aload 0 724), (724, a_iload 3 725), (725, a_push 2 726), (726, a_bin (fun x y => x + y) 727), (727, a_sld Ls xs 728), (728, a_aload 0 729), (729, a_iload 3 730), (730, a_push 3 731), (731, a_bin (fun x y => x + y) 732), (732, a_sld Ls xs 733), (733, a_callO 8 10 37 3 736), (736, a_aload 2 737), (737, a_aload 0 738), (738, a_iload 3 739), (739, a_push 1 740), (740, a_bin (fun x y => x + y) 741), (741, a_sld Ls xs 742), (742, a_aload 0 743), (743, a_iload 3 744), (744, a_push 2 745), (745, a_bin (fun x y => x + y) 746), (746, a_sld Ls xs 747), (747, a_aload 0 748), (748, a_iload 3 749), (749, a_push 3 750), (750, a_bin (fun x y => x + y) 751), (751, a_sld Ls xs 752), (752, a_callO 9 36 38 3 755), (755, a_cmp (fun x y => decide (x = y)) 1462 758), (758, a_push 0 759), (759, a_zret), (760, a_aload 1 761), (761, a_aload 0 762), (762, a_iload 3 763), (763, a_push 1 764), (764, a_bin (fun x y => x + y) 765), (765, a_sld Ls xs 766), (766, a_aload 0 767), (767, a_iload 3 768), (768, a_push 2 769), (769, a_bin (fun x y => x + y) 770), (770, a_sld Ls xs 771), (771, a_callO 8 10 39 2 774), (774, a_aload 2 775), (775, a_aload 0 776), (776, a_iload 3 777), (777, a_push 1 778), (778, a_bin (fun x y => x + y) 779), (779, a_sld Ls xs 780), (780, a_aload 0 781), (781, a_iload 3 782), (782, a_push 2 783), (783, a_bin (fun x y => x + y) 784)]
set_option maxRecDepth 20000 in
theorem ol_L_law_8 : okall B sp D cA (SPf B sp Ls xs adK adV) MT ⟨"WreckSkyLaw", "law", "([I)Z"⟩ code maxLocals ret (pl_L_law_8 Ls xs) := by
  unfold pl_L_law_8
  exact
    okc (ok_zret rfl (by decide +kernel)) (
    okc (ok_aload_n (k := 1) (by decide +kernel) rfl rfl) (
    okc (ok_aload_n (k := 0) (by decide +kernel) rfl rfl) (
    okc (ok_iload_n (k := 3) (by decide +kernel) rfl rfl) (
    okc (ok_iconst (n := 1) (by decide +kernel) rfl rfl) (
    okc (ok_iadd (by decide +kernel) rfl) (
    okc (ok_sld (by decide +kernel) rfl) (
    okc (ok_aload_n (k := 0) (by decide +kernel) rfl rfl) (
    okc (ok_iload_n (k := 3) (by decide +kernel) rfl rfl) (
    okc (ok_iconst (n := 2) (by decide +kernel) rfl rfl) (
    okc (ok_iadd (by decide +kernel) rfl) (
    okc (ok_sld (by decide +kernel) rfl) (
    okc (ok_aload_n (k := 0) (by decide +kernel) rfl rfl) (
    okc (ok_iload_n (k := 3) (by decide +kernel) rfl rfl) (
    okc (ok_iconst (n := 3) (by decide +kernel) rfl rfl) (
    okc (ok_iadd (by decide +kernel) rfl) (
    okc (ok_sld (by decide +kernel) rfl) (
    okc (ok_callV (SPf_ok _ _ _ _ _ _) (mi := 37) (n := 3) (idx := 86) rfl m_W_push (by decide) cX8_ok w_587 w_588 w_589 (by decide +kernel) rfl) (
    okc (ok_aload_n (k := 2) (by decide +kernel) rfl rfl) (
    okc (ok_aload_n (k := 0) (by decide +kernel) rfl rfl) (
    okc (ok_iload_n (k := 3) (by decide +kernel) rfl rfl) (
    okc (ok_iconst (n := 1) (by decide +kernel) rfl rfl) (
    okc (ok_iadd (by decide +kernel) rfl) (
    okc (ok_sld (by decide +kernel) rfl) (
    okc (ok_aload_n (k := 0) (by decide +kernel) rfl rfl) (
    okc (ok_iload_n (k := 3) (by decide +kernel) rfl rfl) (
    okc (ok_iconst (n := 2) (by decide +kernel) rfl rfl) (
    okc (ok_iadd (by decide +kernel) rfl) (
    okc (ok_sld (by decide +kernel) rfl) (
    okc (ok_aload_n (k := 0) (by decide +kernel) rfl rfl) (
    okc (ok_iload_n (k := 3) (by decide +kernel) rfl rfl) (
    okc (ok_iconst (n := 3) (by decide +kernel) rfl rfl) (
    okc (ok_iadd (by decide +kernel) rfl) (
    okc (ok_sld (by decide +kernel) rfl) (
    okc (ok_callV (SPf_ok _ _ _ _ _ _) (mi := 38) (n := 3) (idx := 89) rfl m_M_push (by decide) cX9_ok w_1290 w_1291 w_1292 (by decide +kernel) rfl) (
    okc (ok_cmp_eq (off := 707) (by decide +kernel) rfl rfl) (
    okc (ok_iconst (n := 0) (by decide +kernel) rfl rfl) (
    okc (ok_zret rfl (by decide +kernel)) (
    okc (ok_aload_n (k := 1) (by decide +kernel) rfl rfl) (
    okc (ok_aload_n (k := 0) (by decide +kernel) rfl rfl) (
    okc (ok_iload_n (k := 3) (by decide +kernel) rfl rfl) (
    okc (ok_iconst (n := 1) (by decide +kernel) rfl rfl) (
    okc (ok_iadd (by decide +kernel) rfl) (
    okc (ok_sld (by decide +kernel) rfl) (
    okc (ok_aload_n (k := 0) (by decide +kernel) rfl rfl) (
    okc (ok_iload_n (k := 3) (by decide +kernel) rfl rfl) (
    okc (ok_iconst (n := 2) (by decide +kernel) rfl rfl) (
    okc (ok_iadd (by decide +kernel) rfl) (
    okc (ok_sld (by decide +kernel) rfl) (
    okc (ok_callV (SPf_ok _ _ _ _ _ _) (mi := 39) (n := 2) (idx := 90) rfl m_W_under (by decide) cX8_ok w_595 w_596 w_597 (by decide +kernel) rfl) (
    okc (ok_aload_n (k := 2) (by decide +kernel) rfl rfl) (
    okc (ok_aload_n (k := 0) (by decide +kernel) rfl rfl) (
    okc (ok_iload_n (k := 3) (by decide +kernel) rfl rfl) (
    okc (ok_iconst (n := 1) (by decide +kernel) rfl rfl) (
    okc (ok_iadd (by decide +kernel) rfl) (
    okc (ok_sld (by decide +kernel) rfl) (
    okc (ok_aload_n (k := 0) (by decide +kernel) rfl rfl) (
    okc (ok_iload_n (k := 3) (by decide +kernel) rfl rfl) (
    okc (ok_iconst (n := 2) (by decide +kernel) rfl rfl) (
    okc (ok_iadd (by decide +kernel) rfl) ( okn))))))))))))))))))))))))))))))))))))))))))))))))))))))))))))
def pl_L_law_9 (Ls : Nat) (xs : Nat → Int32) : List (Nat × mA) := [(784, a_sld Ls xs 785), (785, a_callO 9 36 40 2 788), (788, a_cmp (fun x y => decide (x = y)) 1462 791), (791, a_push 0 792), (792, a_zret), (793, a_aload 1 794), (794, a_aload 0 795), (795, a_iload 3 796), (796, a_push 1 797), (797, a_bin (fun x y => x + y) 798), (798, a_sld Ls xs 799), (799, a_aload 0 800), (800, a_iload 3 801), (801, a_push 2 802), (802, a_bin (fun x y => x + y) 803), (803, a_sld Ls xs 804), (804, a_callO 8 10 41 2 807), (807, a_aload 2 808), (808, a_aload 0 809), (809, a_iload 3 810), (810, a_push 1 811), (811, a_bin (fun x y => x + y) 812), (812, a_sld Ls xs 813), (813, a_aload 0 814), (814, a_iload 3 815), (815, a_push 2 816), (816, a_bin (fun x y => x + y) 817), (817, a_sld Ls xs 818), (818, a_callO 9 36 42 2 821), (821, a_cmp (fun x y => decide (x = y)) 1462 824), (824, a_push 0 825), (825, a_zret), (826, a_aload 1 827), (827, a_aload 0 828), (828, a_iload 3 829), (829, a_push 1 830), (830, a_bin (fun x y => x + y) 831), (831, a_sld Ls xs 832), (832, a_aload 0 833), (833, a_iload 3 834), (834, a_push 2 835), (835, a_bin (fun x y => x + y) 836), (836, a_sld Ls xs 837), (837, a_callO 8 10 43 2 840), (840, a_aload 2 841), (841, a_aload 0 842), (842, a_iload 3 843), (843, a_push 1 844), (844, a_bin (fun x y => x + y) 845), (845, a_sld Ls xs 846), (846, a_aload 0 847), (847, a_iload 3 848), (848, a_push 2 849), (849, a_bin (fun x y => x + y) 850), (850, a_sld Ls xs 851), (851, a_callO 9 36 44 2 854), (854, a_cmp (fun x y => decide (x = y)) 1462 857), (857, a_push 0 858), (858, a_zret), (859, a_aload 1 860)]
set_option maxRecDepth 20000 in
theorem ol_L_law_9 : okall B sp D cA (SPf B sp Ls xs adK adV) MT ⟨"WreckSkyLaw", "law", "([I)Z"⟩ code maxLocals ret (pl_L_law_9 Ls xs) := by
  unfold pl_L_law_9
  exact
    okc (ok_sld (by decide +kernel) rfl) (
    okc (ok_callV (SPf_ok _ _ _ _ _ _) (mi := 40) (n := 2) (idx := 93) rfl m_M_under (by decide) cX9_ok w_1294 w_1295 w_1296 (by decide +kernel) rfl) (
    okc (ok_cmp_eq (off := 674) (by decide +kernel) rfl rfl) (
    okc (ok_iconst (n := 0) (by decide +kernel) rfl rfl) (
    okc (ok_zret rfl (by decide +kernel)) (
    okc (ok_aload_n (k := 1) (by decide +kernel) rfl rfl) (
    okc (ok_aload_n (k := 0) (by decide +kernel) rfl rfl) (
    okc (ok_iload_n (k := 3) (by decide +kernel) rfl rfl) (
    okc (ok_iconst (n := 1) (by decide +kernel) rfl rfl) (
    okc (ok_iadd (by decide +kernel) rfl) (
    okc (ok_sld (by decide +kernel) rfl) (
    okc (ok_aload_n (k := 0) (by decide +kernel) rfl rfl) (
    okc (ok_iload_n (k := 3) (by decide +kernel) rfl rfl) (
    okc (ok_iconst (n := 2) (by decide +kernel) rfl rfl) (
    okc (ok_iadd (by decide +kernel) rfl) (
    okc (ok_sld (by decide +kernel) rfl) (
    okc (ok_callV (SPf_ok _ _ _ _ _ _) (mi := 41) (n := 2) (idx := 94) rfl m_W_nearest (by decide) cX8_ok w_607 w_608 w_609 (by decide +kernel) rfl) (
    okc (ok_aload_n (k := 2) (by decide +kernel) rfl rfl) (
    okc (ok_aload_n (k := 0) (by decide +kernel) rfl rfl) (
    okc (ok_iload_n (k := 3) (by decide +kernel) rfl rfl) (
    okc (ok_iconst (n := 1) (by decide +kernel) rfl rfl) (
    okc (ok_iadd (by decide +kernel) rfl) (
    okc (ok_sld (by decide +kernel) rfl) (
    okc (ok_aload_n (k := 0) (by decide +kernel) rfl rfl) (
    okc (ok_iload_n (k := 3) (by decide +kernel) rfl rfl) (
    okc (ok_iconst (n := 2) (by decide +kernel) rfl rfl) (
    okc (ok_iadd (by decide +kernel) rfl) (
    okc (ok_sld (by decide +kernel) rfl) (
    okc (ok_callV (SPf_ok _ _ _ _ _ _) (mi := 42) (n := 2) (idx := 97) rfl m_M_nearest (by decide) cX9_ok w_1298 w_1299 w_1300 (by decide +kernel) rfl) (
    okc (ok_cmp_eq (off := 641) (by decide +kernel) rfl rfl) (
    okc (ok_iconst (n := 0) (by decide +kernel) rfl rfl) (
    okc (ok_zret rfl (by decide +kernel)) (
    okc (ok_aload_n (k := 1) (by decide +kernel) rfl rfl) (
    okc (ok_aload_n (k := 0) (by decide +kernel) rfl rfl) (
    okc (ok_iload_n (k := 3) (by decide +kernel) rfl rfl) (
    okc (ok_iconst (n := 1) (by decide +kernel) rfl rfl) (
    okc (ok_iadd (by decide +kernel) rfl) (
    okc (ok_sld (by decide +kernel) rfl) (
    okc (ok_aload_n (k := 0) (by decide +kernel) rfl rfl) (
    okc (ok_iload_n (k := 3) (by decide +kernel) rfl rfl) (
    okc (ok_iconst (n := 2) (by decide +kernel) rfl rfl) (
    okc (ok_iadd (by decide +kernel) rfl) (
    okc (ok_sld (by decide +kernel) rfl) (
    okc (ok_callV (SPf_ok _ _ _ _ _ _) (mi := 43) (n := 2) (idx := 98) rfl m_W_seen (by decide) cX8_ok w_626 w_627 w_628 (by decide +kernel) rfl) (
    okc (ok_aload_n (k := 2) (by decide +kernel) rfl rfl) (
    okc (ok_aload_n (k := 0) (by decide +kernel) rfl rfl) (
    okc (ok_iload_n (k := 3) (by decide +kernel) rfl rfl) (
    okc (ok_iconst (n := 1) (by decide +kernel) rfl rfl) (
    okc (ok_iadd (by decide +kernel) rfl) (
    okc (ok_sld (by decide +kernel) rfl) (
    okc (ok_aload_n (k := 0) (by decide +kernel) rfl rfl) (
    okc (ok_iload_n (k := 3) (by decide +kernel) rfl rfl) (
    okc (ok_iconst (n := 2) (by decide +kernel) rfl rfl) (
    okc (ok_iadd (by decide +kernel) rfl) (
    okc (ok_sld (by decide +kernel) rfl) (
    okc (ok_callV (SPf_ok _ _ _ _ _ _) (mi := 44) (n := 2) (idx := 101) rfl m_M_seen (by decide) cX9_ok w_1309 w_1310 w_1311 (by decide +kernel) rfl) (
    okc (ok_cmp_eq (off := 608) (by decide +kernel) rfl rfl) (
    okc (ok_iconst (n := 0) (by decide +kernel) rfl rfl) (
    okc (ok_zret rfl (by decide +kernel)) (
    okc (ok_aload_n (k := 1) (by decide +kernel) rfl rfl) ( okn))))))))))))))))))))))))))))))))))))))))))))))))))))))))))))
def pl_L_law_10 (Ls : Nat) (xs : Nat → Int32) : List (Nat × mA) := [(860, a_callO 8 10 45 0 863), (863, a_aload 2 864), (864, a_callO 9 36 46 0 867), (867, a_cmp (fun x y => decide (x = y)) 1462 870), (870, a_push 0 871), (871, a_zret), (872, a_aload 1 873), (873, a_aload 0 874), (874, a_iload 3 875), (875, a_push 1 876), (876, a_bin (fun x y => x + y) 877), (877, a_sld Ls xs 878), (878, a_callO 8 10 47 1 881), (881, a_aload 2 882), (882, a_aload 0 883), (883, a_iload 3 884), (884, a_push 1 885), (885, a_bin (fun x y => x + y) 886), (886, a_sld Ls xs 887), (887, a_callO 9 36 48 1 890), (890, a_cmp (fun x y => decide (x = y)) 1462 893), (893, a_push 0 894), (894, a_zret), (895, a_aload 1 896), (896, a_aload 0 897), (897, a_iload 3 898), (898, a_push 1 899), (899, a_bin (fun x y => x + y) 900), (900, a_sld Ls xs 901), (901, a_aload 0 902), (902, a_iload 3 903), (903, a_push 2 904), (904, a_bin (fun x y => x + y) 905), (905, a_sld Ls xs 906), (906, a_aload 0 907), (907, a_iload 3 908), (908, a_push 3 909), (909, a_bin (fun x y => x + y) 910), (910, a_sld Ls xs 911), (911, a_callO 8 10 49 3 914), (914, a_aload 2 915), (915, a_aload 0 916), (916, a_iload 3 917), (917, a_push 1 918), (918, a_bin (fun x y => x + y) 919), (919, a_sld Ls xs 920), (920, a_aload 0 921), (921, a_iload 3 922), (922, a_push 2 923), (923, a_bin (fun x y => x + y) 924), (924, a_sld Ls xs 925), (925, a_aload 0 926), (926, a_iload 3 927), (927, a_push 3 928), (928, a_bin (fun x y => x + y) 929), (929, a_sld Ls xs 930), (930, a_callO 9 36 50 3 933), (933, a_cmp (fun x y => decide (x = y)) 1462 936), (936, a_push 0 937), (937, a_zret)]
set_option maxRecDepth 20000 in
theorem ol_L_law_10 : okall B sp D cA (SPf B sp Ls xs adK adV) MT ⟨"WreckSkyLaw", "law", "([I)Z"⟩ code maxLocals ret (pl_L_law_10 Ls xs) := by
  unfold pl_L_law_10
  exact
    okc (ok_callV (SPf_ok _ _ _ _ _ _) (mi := 45) (n := 0) (idx := 102) rfl m_W_fee (by decide) cX8_ok w_653 w_654 w_655 (by decide +kernel) rfl) (
    okc (ok_aload_n (k := 2) (by decide +kernel) rfl rfl) (
    okc (ok_callV (SPf_ok _ _ _ _ _ _) (mi := 46) (n := 0) (idx := 105) rfl m_M_fee (by decide) cX9_ok w_1317 w_1318 w_1319 (by decide +kernel) rfl) (
    okc (ok_cmp_eq (off := 595) (by decide +kernel) rfl rfl) (
    okc (ok_iconst (n := 0) (by decide +kernel) rfl rfl) (
    okc (ok_zret rfl (by decide +kernel)) (
    okc (ok_aload_n (k := 1) (by decide +kernel) rfl rfl) (
    okc (ok_aload_n (k := 0) (by decide +kernel) rfl rfl) (
    okc (ok_iload_n (k := 3) (by decide +kernel) rfl rfl) (
    okc (ok_iconst (n := 1) (by decide +kernel) rfl rfl) (
    okc (ok_iadd (by decide +kernel) rfl) (
    okc (ok_sld (by decide +kernel) rfl) (
    okc (ok_callV (SPf_ok _ _ _ _ _ _) (mi := 47) (n := 1) (idx := 106) rfl m_W_fine (by decide) cX8_ok w_659 w_660 w_661 (by decide +kernel) rfl) (
    okc (ok_aload_n (k := 2) (by decide +kernel) rfl rfl) (
    okc (ok_aload_n (k := 0) (by decide +kernel) rfl rfl) (
    okc (ok_iload_n (k := 3) (by decide +kernel) rfl rfl) (
    okc (ok_iconst (n := 1) (by decide +kernel) rfl rfl) (
    okc (ok_iadd (by decide +kernel) rfl) (
    okc (ok_sld (by decide +kernel) rfl) (
    okc (ok_callV (SPf_ok _ _ _ _ _ _) (mi := 48) (n := 1) (idx := 109) rfl m_M_fine (by decide) cX9_ok w_1321 w_1322 w_1323 (by decide +kernel) rfl) (
    okc (ok_cmp_eq (off := 572) (by decide +kernel) rfl rfl) (
    okc (ok_iconst (n := 0) (by decide +kernel) rfl rfl) (
    okc (ok_zret rfl (by decide +kernel)) (
    okc (ok_aload_n (k := 1) (by decide +kernel) rfl rfl) (
    okc (ok_aload_n (k := 0) (by decide +kernel) rfl rfl) (
    okc (ok_iload_n (k := 3) (by decide +kernel) rfl rfl) (
    okc (ok_iconst (n := 1) (by decide +kernel) rfl rfl) (
    okc (ok_iadd (by decide +kernel) rfl) (
    okc (ok_sld (by decide +kernel) rfl) (
    okc (ok_aload_n (k := 0) (by decide +kernel) rfl rfl) (
    okc (ok_iload_n (k := 3) (by decide +kernel) rfl rfl) (
    okc (ok_iconst (n := 2) (by decide +kernel) rfl rfl) (
    okc (ok_iadd (by decide +kernel) rfl) (
    okc (ok_sld (by decide +kernel) rfl) (
    okc (ok_aload_n (k := 0) (by decide +kernel) rfl rfl) (
    okc (ok_iload_n (k := 3) (by decide +kernel) rfl rfl) (
    okc (ok_iconst (n := 3) (by decide +kernel) rfl rfl) (
    okc (ok_iadd (by decide +kernel) rfl) (
    okc (ok_sld (by decide +kernel) rfl) (
    okc (ok_callV (SPf_ok _ _ _ _ _ _) (mi := 49) (n := 3) (idx := 110) rfl m_W_feed (by decide) cX8_ok w_663 w_664 w_665 (by decide +kernel) rfl) (
    okc (ok_aload_n (k := 2) (by decide +kernel) rfl rfl) (
    okc (ok_aload_n (k := 0) (by decide +kernel) rfl rfl) (
    okc (ok_iload_n (k := 3) (by decide +kernel) rfl rfl) (
    okc (ok_iconst (n := 1) (by decide +kernel) rfl rfl) (
    okc (ok_iadd (by decide +kernel) rfl) (
    okc (ok_sld (by decide +kernel) rfl) (
    okc (ok_aload_n (k := 0) (by decide +kernel) rfl rfl) (
    okc (ok_iload_n (k := 3) (by decide +kernel) rfl rfl) (
    okc (ok_iconst (n := 2) (by decide +kernel) rfl rfl) (
    okc (ok_iadd (by decide +kernel) rfl) (
    okc (ok_sld (by decide +kernel) rfl) (
    okc (ok_aload_n (k := 0) (by decide +kernel) rfl rfl) (
    okc (ok_iload_n (k := 3) (by decide +kernel) rfl rfl) (
    okc (ok_iconst (n := 3) (by decide +kernel) rfl rfl) (
    okc (ok_iadd (by decide +kernel) rfl) (
    okc (ok_sld (by decide +kernel) rfl) (
    okc (ok_callV (SPf_ok _ _ _ _ _ _) (mi := 50) (n := 3) (idx := 113) rfl m_M_feed (by decide) cX9_ok w_1325 w_1326 w_1327 (by decide +kernel) rfl) (
    okc (ok_cmp_eq (off := 529) (by decide +kernel) rfl rfl) (
    okc (ok_iconst (n := 0) (by decide +kernel) rfl rfl) (
    okc (ok_zret rfl (by decide +kernel)) ( okn))))))))))))))))))))))))))))))))))))))))))))))))))))))))))))
def pl_L_law_11 (Ls : Nat) (xs : Nat → Int32) : List (Nat × mA) := [(938, a_aload 1 939), (939, a_aload 0 940), (940, a_iload 3 941), (941, a_push 1 942), (942, a_bin (fun x y => x + y) 943), (943, a_sld Ls xs 944), (944, a_callO 8 10 51 1 947), (947, a_aload 2 948), (948, a_aload 0 949), (949, a_iload 3 950), (950, a_push 1 951), (951, a_bin (fun x y => x + y) 952), (952, a_sld Ls xs 953), (953, a_callO 9 36 52 1 956), (956, a_cmp (fun x y => decide (x = y)) 1462 959), (959, a_push 0 960), (960, a_zret), (961, a_aload 1 962), (962, a_callO 8 10 53 0 965), (965, a_aload 2 966), (966, a_callO 9 36 54 0 969), (969, a_cmp (fun x y => decide (x = y)) 1462 972), (972, a_push 0 973), (973, a_zret), (974, a_aload 1 975), (975, a_aload 0 976), (976, a_iload 3 977), (977, a_push 1 978), (978, a_bin (fun x y => x + y) 979), (979, a_sld Ls xs 980), (980, a_aload 0 981), (981, a_iload 3 982), (982, a_push 2 983), (983, a_bin (fun x y => x + y) 984), (984, a_sld Ls xs 985), (985, a_callO 8 10 55 2 988), (988, a_aload 2 989), (989, a_aload 0 990), (990, a_iload 3 991), (991, a_push 1 992), (992, a_bin (fun x y => x + y) 993), (993, a_sld Ls xs 994), (994, a_aload 0 995), (995, a_iload 3 996), (996, a_push 2 997), (997, a_bin (fun x y => x + y) 998), (998, a_sld Ls xs 999), (999, a_callO 9 36 56 2 1002), (1002, a_cmp (fun x y => decide (x = y)) 1462 1005), (1005, a_push 0 1006), (1006, a_zret), (1007, a_aload 1 1008), (1008, a_aload 0 1009), (1009, a_iload 3 1010), (1010, a_push 1 1011), (1011, a_bin (fun x y => x + y) 1012), (1012, a_sld Ls xs 1013), (1013, a_callO 8 10 57 1 1016), (1016, a_aload 2 1017), (1017, a_aload 0 1018)]
set_option maxRecDepth 20000 in
theorem ol_L_law_11 : okall B sp D cA (SPf B sp Ls xs adK adV) MT ⟨"WreckSkyLaw", "law", "([I)Z"⟩ code maxLocals ret (pl_L_law_11 Ls xs) := by
  unfold pl_L_law_11
  exact
    okc (ok_aload_n (k := 1) (by decide +kernel) rfl rfl) (
    okc (ok_aload_n (k := 0) (by decide +kernel) rfl rfl) (
    okc (ok_iload_n (k := 3) (by decide +kernel) rfl rfl) (
    okc (ok_iconst (n := 1) (by decide +kernel) rfl rfl) (
    okc (ok_iadd (by decide +kernel) rfl) (
    okc (ok_sld (by decide +kernel) rfl) (
    okc (ok_callV (SPf_ok _ _ _ _ _ _) (mi := 51) (n := 1) (idx := 114) rfl m_W_trim (by decide) cX8_ok w_675 w_676 w_677 (by decide +kernel) rfl) (
    okc (ok_aload_n (k := 2) (by decide +kernel) rfl rfl) (
    okc (ok_aload_n (k := 0) (by decide +kernel) rfl rfl) (
    okc (ok_iload_n (k := 3) (by decide +kernel) rfl rfl) (
    okc (ok_iconst (n := 1) (by decide +kernel) rfl rfl) (
    okc (ok_iadd (by decide +kernel) rfl) (
    okc (ok_sld (by decide +kernel) rfl) (
    okc (ok_callV (SPf_ok _ _ _ _ _ _) (mi := 52) (n := 1) (idx := 117) rfl m_M_trim (by decide) cX9_ok w_1329 w_1330 w_1331 (by decide +kernel) rfl) (
    okc (ok_cmp_eq (off := 506) (by decide +kernel) rfl rfl) (
    okc (ok_iconst (n := 0) (by decide +kernel) rfl rfl) (
    okc (ok_zret rfl (by decide +kernel)) (
    okc (ok_aload_n (k := 1) (by decide +kernel) rfl rfl) (
    okc (ok_callV (SPf_ok _ _ _ _ _ _) (mi := 53) (n := 0) (idx := 118) rfl m_W_text (by decide) cX8_ok w_679 w_680 w_681 (by decide +kernel) rfl) (
    okc (ok_aload_n (k := 2) (by decide +kernel) rfl rfl) (
    okc (ok_callV (SPf_ok _ _ _ _ _ _) (mi := 54) (n := 0) (idx := 121) rfl m_M_text (by decide) cX9_ok w_1333 w_1334 w_1335 (by decide +kernel) rfl) (
    okc (ok_cmp_eq (off := 493) (by decide +kernel) rfl rfl) (
    okc (ok_iconst (n := 0) (by decide +kernel) rfl rfl) (
    okc (ok_zret rfl (by decide +kernel)) (
    okc (ok_aload_n (k := 1) (by decide +kernel) rfl rfl) (
    okc (ok_aload_n (k := 0) (by decide +kernel) rfl rfl) (
    okc (ok_iload_n (k := 3) (by decide +kernel) rfl rfl) (
    okc (ok_iconst (n := 1) (by decide +kernel) rfl rfl) (
    okc (ok_iadd (by decide +kernel) rfl) (
    okc (ok_sld (by decide +kernel) rfl) (
    okc (ok_aload_n (k := 0) (by decide +kernel) rfl rfl) (
    okc (ok_iload_n (k := 3) (by decide +kernel) rfl rfl) (
    okc (ok_iconst (n := 2) (by decide +kernel) rfl rfl) (
    okc (ok_iadd (by decide +kernel) rfl) (
    okc (ok_sld (by decide +kernel) rfl) (
    okc (ok_callV (SPf_ok _ _ _ _ _ _) (mi := 55) (n := 2) (idx := 122) rfl m_W_textTold (by decide) cX8_ok w_881 w_882 w_883 (by decide +kernel) rfl) (
    okc (ok_aload_n (k := 2) (by decide +kernel) rfl rfl) (
    okc (ok_aload_n (k := 0) (by decide +kernel) rfl rfl) (
    okc (ok_iload_n (k := 3) (by decide +kernel) rfl rfl) (
    okc (ok_iconst (n := 1) (by decide +kernel) rfl rfl) (
    okc (ok_iadd (by decide +kernel) rfl) (
    okc (ok_sld (by decide +kernel) rfl) (
    okc (ok_aload_n (k := 0) (by decide +kernel) rfl rfl) (
    okc (ok_iload_n (k := 3) (by decide +kernel) rfl rfl) (
    okc (ok_iconst (n := 2) (by decide +kernel) rfl rfl) (
    okc (ok_iadd (by decide +kernel) rfl) (
    okc (ok_sld (by decide +kernel) rfl) (
    okc (ok_callV (SPf_ok _ _ _ _ _ _) (mi := 56) (n := 2) (idx := 125) rfl m_M_textTold (by decide) cX9_ok w_1380 w_1381 w_1382 (by decide +kernel) rfl) (
    okc (ok_cmp_eq (off := 460) (by decide +kernel) rfl rfl) (
    okc (ok_iconst (n := 0) (by decide +kernel) rfl rfl) (
    okc (ok_zret rfl (by decide +kernel)) (
    okc (ok_aload_n (k := 1) (by decide +kernel) rfl rfl) (
    okc (ok_aload_n (k := 0) (by decide +kernel) rfl rfl) (
    okc (ok_iload_n (k := 3) (by decide +kernel) rfl rfl) (
    okc (ok_iconst (n := 1) (by decide +kernel) rfl rfl) (
    okc (ok_iadd (by decide +kernel) rfl) (
    okc (ok_sld (by decide +kernel) rfl) (
    okc (ok_callV (SPf_ok _ _ _ _ _ _) (mi := 57) (n := 1) (idx := 126) rfl m_W_why (by decide) cX8_ok w_885 w_886 w_887 (by decide +kernel) rfl) (
    okc (ok_aload_n (k := 2) (by decide +kernel) rfl rfl) (
    okc (ok_aload_n (k := 0) (by decide +kernel) rfl rfl) ( okn))))))))))))))))))))))))))))))))))))))))))))))))))))))))))))
end PR

section EQ
variable {Ls : Nat} {xs : Nat → Int32} {d : Nat} {l0 l1 l2 l3 l4 l5 l6 l7 l8 l9 l10 l11 l12 : Option mV} {st : List mV} {H : mH} {S : mS} {I : mI} {R : mR} {x y z i : Int32} {a b : Nat} {k : Nat} {v w : mV} {u : mr} {v0 v1 v2 v3 v4 v5 v6 v7 v8 v9 v10 v11 : mV}
theorem e_W_init_0 : rn Ls xs d 1 0 [some (.inr u), l1] st H = rn Ls xs d 1 1 [some (.inr u), l1] (.inr u :: st) H := rn_nx rfl rfl
theorem e_W_init_1 : rn Ls xs (d + 1) 1 1 [l0, l1] (.inr (.inl (some a)) :: []) H = rn Ls xs (d + 1) 1 4 [l0, l1] [] H := rn_nx rfl rfl
theorem e_W_init_4 : rn Ls xs d 1 4 [some (.inr u), l1] st H = rn Ls xs d 1 5 [some (.inr u), l1] (.inr u :: st) H := rn_nx rfl rfl
theorem e_W_init_5 : rn Ls xs d 1 5 [l0, l1] st (S, I, R) = rn Ls xs d 1 8 [l0, l1] (.inr (.inl (some S.2.1)) :: st) (h_mk (S, I, R) 3 11) := rn_nx rfl rfl
theorem e_W_init_8 : rn Ls xs d 1 8 [l0, l1] (v :: st) H = rn Ls xs d 1 9 [l0, l1] (v :: v :: st) H := rn_nx rfl rfl
theorem e_W_init_9 : rn Ls xs (d + 1) 1 9 [l0, l1] [(.inr (.inl (some a))), v1, v2] (S, I, R) = if h_is S a 3 11 then rb Ls xs (d + 1) 1 12 [l0, l1] [v1, v2] (rn Ls xs d 87 0 [some (.inr (.inl (some a))), none] [] (S, I, R)) else none := rn_callO rfl rfl (Nat.le_of_ble_eq_true rfl) rfl rfl
theorem e_W_init_12 : rn Ls xs d 1 12 [l0, l1] (.inr u :: .inr (.inl (some a)) :: st) (S, I, R) = if h_is S a 8 10 then rn Ls xs d 1 15 [l0, l1] st (S, I, va_up R a (va_up (R a) 0 u)) else none := rn_bc rfl rfl
theorem e_W_init_15 : rn Ls xs d 1 15 [some (.inr u), l1] st H = rn Ls xs d 1 16 [some (.inr u), l1] (.inr u :: st) H := rn_nx rfl rfl
theorem e_W_init_16 : rn Ls xs d 1 16 [l0, l1] st (S, I, R) = rn Ls xs d 1 19 [l0, l1] (.inr (.inl (some S.2.1)) :: st) (h_mk (S, I, R) 3 11) := rn_nx rfl rfl
theorem e_W_init_19 : rn Ls xs d 1 19 [l0, l1] (v :: st) H = rn Ls xs d 1 20 [l0, l1] (v :: v :: st) H := rn_nx rfl rfl
theorem e_W_init_20 : rn Ls xs (d + 1) 1 20 [l0, l1] [(.inr (.inl (some a))), v1, v2] (S, I, R) = if h_is S a 3 11 then rb Ls xs (d + 1) 1 23 [l0, l1] [v1, v2] (rn Ls xs d 87 0 [some (.inr (.inl (some a))), none] [] (S, I, R)) else none := rn_callO rfl rfl (Nat.le_of_ble_eq_true rfl) rfl rfl
theorem e_W_init_23 : rn Ls xs d 1 23 [l0, l1] (.inr u :: .inr (.inl (some a)) :: st) (S, I, R) = if h_is S a 8 10 then rn Ls xs d 1 26 [l0, l1] st (S, I, va_up R a (va_up (R a) 1 u)) else none := rn_bc rfl rfl
theorem e_W_init_26 : rn Ls xs d 1 26 [some (.inr u), l1] st H = rn Ls xs d 1 27 [some (.inr u), l1] (.inr u :: st) H := rn_nx rfl rfl
theorem e_W_init_27 : rn Ls xs d 1 27 [l0, l1] st (S, I, R) = rn Ls xs d 1 30 [l0, l1] (.inr (.inl (some S.2.1)) :: st) (h_mk (S, I, R) 0 5) := rn_nx rfl rfl
theorem e_W_init_30 : rn Ls xs d 1 30 [l0, l1] (v :: st) H = rn Ls xs d 1 31 [l0, l1] (v :: v :: st) H := rn_nx rfl rfl
theorem e_W_init_31 : rn Ls xs (d + 1) 1 31 [l0, l1] [(.inr (.inl (some a))), v1, v2] (S, I, R) = if h_is S a 0 5 then rb Ls xs (d + 1) 1 34 [l0, l1] [v1, v2] (rn Ls xs d 88 0 [some (.inr (.inl (some a)))] [] (S, I, R)) else none := rn_callO rfl rfl (Nat.le_of_ble_eq_true rfl) rfl rfl
theorem e_W_init_34 : rn Ls xs d 1 34 [l0, l1] (.inr u :: .inr (.inl (some a)) :: st) (S, I, R) = if h_is S a 8 10 then rn Ls xs d 1 37 [l0, l1] st (S, I, va_up R a (va_up (R a) 2 u)) else none := rn_bc rfl rfl
theorem e_W_init_37 : rn Ls xs d 1 37 [some (.inr u), l1] st H = rn Ls xs d 1 38 [some (.inr u), l1] (.inr u :: st) H := rn_nx rfl rfl
theorem e_W_init_38 : rn Ls xs d 1 38 [l0, l1] st (S, I, R) = rn Ls xs d 1 41 [l0, l1] (.inr (.inl (some S.2.1)) :: st) (h_mk (S, I, R) 5 2) := rn_nx rfl rfl
theorem e_W_init_41 : rn Ls xs d 1 41 [l0, l1] (v :: st) H = rn Ls xs d 1 42 [l0, l1] (v :: v :: st) H := rn_nx rfl rfl
theorem e_W_init_42 : rn Ls xs (d + 1) 1 42 [l0, l1] [(.inr (.inl (some a))), v1, v2] (S, I, R) = if h_is S a 5 2 then rb Ls xs (d + 1) 1 45 [l0, l1] [v1, v2] (rn Ls xs d 89 0 [some (.inr (.inl (some a)))] [] (S, I, R)) else none := rn_callO rfl rfl (Nat.le_of_ble_eq_true rfl) rfl rfl
theorem e_W_init_45 : rn Ls xs d 1 45 [l0, l1] (.inr u :: .inr (.inl (some a)) :: st) (S, I, R) = if h_is S a 8 10 then rn Ls xs d 1 48 [l0, l1] st (S, I, va_up R a (va_up (R a) 3 u)) else none := rn_bc rfl rfl
theorem e_W_init_48 : rn Ls xs d 1 48 [some (.inr u), l1] st H = rn Ls xs d 1 49 [some (.inr u), l1] (.inr u :: st) H := rn_nx rfl rfl
theorem e_W_init_49 : rn Ls xs d 1 49 [l0, l1] st (S, I, R) = rn Ls xs d 1 52 [l0, l1] (.inr (.inl (some S.2.1)) :: st) (h_mk (S, I, R) 1 10) := rn_nx rfl rfl
theorem e_W_init_52 : rn Ls xs d 1 52 [l0, l1] (v :: st) H = rn Ls xs d 1 53 [l0, l1] (v :: v :: st) H := rn_nx rfl rfl
theorem e_W_init_53 : rn Ls xs d 1 53 [some (.inr u), l1] st H = rn Ls xs d 1 54 [some (.inr u), l1] (.inr u :: st) H := rn_nx rfl rfl
theorem e_W_init_54 : rn Ls xs d 1 54 [l0, l1] (.inr (.inl (some a)) :: st) (S, I, R) = if h_is S a 8 10 then rn Ls xs d 1 57 [l0, l1] (.inr (R a 3) :: st) (S, I, R) else none := rn_bc rfl rfl
theorem e_W_init_57 : rn Ls xs (d + 1) 1 57 [l0, l1] [v1, (.inr (.inl (some a))), v2, v3] (S, I, R) = if h_is S a 1 10 then rb Ls xs (d + 1) 1 60 [l0, l1] [v2, v3] (rn Ls xs d 90 0 [some (.inr (.inl (some a))), some v1] [] (S, I, R)) else none := rn_callO rfl rfl (Nat.le_of_ble_eq_true rfl) rfl rfl
theorem e_W_init_60 : rn Ls xs d 1 60 [l0, l1] (.inr u :: .inr (.inl (some a)) :: st) (S, I, R) = if h_is S a 8 10 then rn Ls xs d 1 63 [l0, l1] st (S, I, va_up R a (va_up (R a) 4 u)) else none := rn_bc rfl rfl
theorem e_W_init_63 : rn Ls xs d 1 63 [some (.inr u), l1] st H = rn Ls xs d 1 64 [some (.inr u), l1] (.inr u :: st) H := rn_nx rfl rfl
theorem e_W_init_64 : rn Ls xs d 1 64 [l0, l1]  st H = rn Ls xs d 1 65 [l0, l1] (.inl 4 :: st) H := rn_nx rfl rfl
theorem e_W_init_65 : rn Ls xs d 1 65 [l0, l1] (.inl x :: st) (S, I, R) = if 0 ≤ x.toInt ∧ x.toInt ≤ 100000 then rn Ls xs d 1 68 [l0, l1] (.inr (.inl (some S.2.1)) :: st) (h_mk (S, I, R) (100 + 6) x.toNatClampNeg) else none := rn_pc rfl rfl
theorem e_W_init_68 : rn Ls xs d 1 68 [l0, l1] (.inr u :: .inr (.inl (some a)) :: st) (S, I, R) = if h_is S a 8 10 then rn Ls xs d 1 71 [l0, l1] st (S, I, va_up R a (va_up (R a) 5 u)) else none := rn_bc rfl rfl
theorem e_W_init_71 : rn Ls xs d 1 71 [some (.inr u), l1] st H = rn Ls xs d 1 72 [some (.inr u), l1] (.inr u :: st) H := rn_nx rfl rfl
theorem e_W_init_72 : rn Ls xs d 1 72 [l0, l1]  st H = rn Ls xs d 1 73 [l0, l1] (.inl 5 :: st) H := rn_nx rfl rfl
theorem e_W_init_73 : rn Ls xs d 1 73 [l0, l1] (.inl x :: st) (S, I, R) = if 0 ≤ x.toInt ∧ x.toInt ≤ 100000 then rn Ls xs d 1 76 [l0, l1] (.inr (.inl (some S.2.1)) :: st) (h_mk (S, I, R) (100 + 7) x.toNatClampNeg) else none := rn_pc rfl rfl
theorem e_W_init_76 : rn Ls xs d 1 76 [l0, l1] (.inr u :: .inr (.inl (some a)) :: st) (S, I, R) = if h_is S a 8 10 then rn Ls xs d 1 79 [l0, l1] st (S, I, va_up R a (va_up (R a) 6 u)) else none := rn_bc rfl rfl
theorem e_W_init_79 : rn Ls xs d 1 79 [some (.inr u), l1] st H = rn Ls xs d 1 80 [some (.inr u), l1] (.inr u :: st) H := rn_nx rfl rfl
theorem e_W_init_80 : rn Ls xs d 1 80 [l0, l1]  st H = rn Ls xs d 1 82 [l0, l1] (.inl 60 :: st) H := rn_nx rfl rfl
theorem e_W_init_82 : rn Ls xs d 1 82 [l0, l1] (.inl x :: st) (S, I, R) = if 0 ≤ x.toInt ∧ x.toInt ≤ 100000 then rn Ls xs d 1 84 [l0, l1] (.inr (.inl (some S.2.1)) :: st) (h_mk (S, I, R) (100 + 0) x.toNatClampNeg) else none := rn_pc rfl rfl
theorem e_W_init_84 : rn Ls xs d 1 84 [l0, l1] (.inr u :: .inr (.inl (some a)) :: st) (S, I, R) = if h_is S a 8 10 then rn Ls xs d 1 87 [l0, l1] st (S, I, va_up R a (va_up (R a) 7 u)) else none := rn_bc rfl rfl
theorem e_W_init_87 : rn Ls xs d 1 87 [some (.inr u), l1] st H = rn Ls xs d 1 88 [some (.inr u), l1] (.inr u :: st) H := rn_nx rfl rfl
theorem e_W_init_88 : rn Ls xs d 1 88 [l0, l1]  st H = rn Ls xs d 1 89 [l0, l1] (.inl 0 :: st) H := rn_nx rfl rfl
theorem e_W_init_89 : rn Ls xs d 1 89 [l0, l1] (.inl x :: .inr (.inl (some a)) :: st) (S, I, R) = if h_is S a 8 10 then rn Ls xs d 1 92 [l0, l1] st (S, va_up I a (upd (I a) 8 x), R) else none := rn_bc rfl rfl
theorem e_W_init_92 : rn Ls xs d 1 92 [some (.inr u), l1] st H = rn Ls xs d 1 93 [some (.inr u), l1] (.inr u :: st) H := rn_nx rfl rfl
theorem e_W_init_93 : rn Ls xs d 1 93 [l0, l1]  st H = rn Ls xs d 1 94 [l0, l1] (.inl 0 :: st) H := rn_nx rfl rfl
theorem e_W_init_94 : rn Ls xs d 1 94 [l0, l1] (.inl x :: .inr (.inl (some a)) :: st) (S, I, R) = if h_is S a 8 10 && h_bo x then rn Ls xs d 1 97 [l0, l1] st (S, va_up I a (upd (I a) 9 x), R) else none := rn_bc rfl rfl
theorem e_W_init_97 : rn Ls xs d 1 97 [l0, l1]  st H = rn Ls xs d 1 98 [l0, l1] (.inl 0 :: st) H := rn_nx rfl rfl
theorem e_W_init_98 : rn Ls xs d 1 98 [l0, l1] (.inl x :: st) H = rn Ls xs d 1 99 [l0, some (.inl x)] st H := rn_nx rfl rfl
theorem e_W_init_99 : rn Ls xs d 1 99 [l0, some (.inl x)] st H = rn Ls xs d 1 100 [l0, some (.inl x)] (.inl x :: st) H := rn_nx rfl rfl
theorem e_W_init_100 : rn Ls xs d 1 100 [l0, l1]  st H = rn Ls xs d 1 101 [l0, l1] (.inl 4 :: st) H := rn_nx rfl rfl
theorem e_W_init_101 : rn Ls xs d 1 101 [l0, l1] (.inl y :: .inl x :: st) H = if y ≤ x then rn Ls xs d 1 123 [l0, l1] st H else rn Ls xs d 1 104 [l0, l1] st H := rn_cmp (p := fun x y => y ≤ x) rfl
theorem e_W_init_104 : rn Ls xs d 1 104 [some (.inr u), l1] st H = rn Ls xs d 1 105 [some (.inr u), l1] (.inr u :: st) H := rn_nx rfl rfl
theorem e_W_init_105 : rn Ls xs d 1 105 [l0, l1] (.inr (.inl (some a)) :: st) (S, I, R) = if h_is S a 8 10 then rn Ls xs d 1 108 [l0, l1] (.inr (R a 5) :: st) (S, I, R) else none := rn_bc rfl rfl
theorem e_W_init_108 : rn Ls xs d 1 108 [l0, some (.inl x)] st H = rn Ls xs d 1 109 [l0, some (.inl x)] (.inl x :: st) H := rn_nx rfl rfl
theorem e_W_init_109 : rn Ls xs d 1 109 [l0, l1] st (S, I, R) = rn Ls xs d 1 112 [l0, l1] (.inr (.inl (some S.2.1)) :: st) (h_mk (S, I, R) 2 3) := rn_nx rfl rfl
theorem e_W_init_112 : rn Ls xs d 1 112 [l0, l1] (v :: st) H = rn Ls xs d 1 113 [l0, l1] (v :: v :: st) H := rn_nx rfl rfl
theorem e_W_init_113 : rn Ls xs (d + 1) 1 113 [l0, l1] [(.inr (.inl (some a))), v1, v2, v3] (S, I, R) = if h_is S a 2 3 then rb Ls xs (d + 1) 1 116 [l0, l1] [v1, v2, v3] (rn Ls xs d 91 0 [some (.inr (.inl (some a)))] [] (S, I, R)) else none := rn_callO rfl rfl (Nat.le_of_ble_eq_true rfl) rfl rfl
theorem e_W_init_116 : rn Ls xs d 1 116 [l0, l1] (.inr (.inl (some b)) :: .inl i :: .inr (.inl (some a)) :: st) (S, I, R) = if h_ia S a 6 i && h_is S b 2 3 then rn Ls xs d 1 117 [l0, l1] st (S, I, va_up R a (va_up (R a) i.toNatClampNeg (.inl (some b)))) else none := rn_bc rfl rfl
theorem e_W_init_117 : rn Ls xs d 1 117 [l0, some (.inl x)] st H = rn Ls xs d 1 120 [l0, some (.inl (x + 1))] st H := rn_nx rfl rfl
theorem e_W_init_120 : rn Ls xs d 1 120 [l0, l1] st H = rn Ls xs d 1 99 [l0, l1] st H := rn_nx rfl rfl
theorem e_W_init_123 : rn Ls xs d 1 123 [l0, l1]  st H = rn Ls xs d 1 124 [l0, l1] (.inl 0 :: st) H := rn_nx rfl rfl
theorem e_W_init_124 : rn Ls xs d 1 124 [l0, l1] (.inl x :: st) H = rn Ls xs d 1 125 [l0, some (.inl x)] st H := rn_nx rfl rfl
theorem e_W_init_125 : rn Ls xs d 1 125 [l0, some (.inl x)] st H = rn Ls xs d 1 126 [l0, some (.inl x)] (.inl x :: st) H := rn_nx rfl rfl
theorem e_W_init_126 : rn Ls xs d 1 126 [l0, l1]  st H = rn Ls xs d 1 127 [l0, l1] (.inl 5 :: st) H := rn_nx rfl rfl
theorem e_W_init_127 : rn Ls xs d 1 127 [l0, l1] (.inl y :: .inl x :: st) H = if y ≤ x then rn Ls xs d 1 149 [l0, l1] st H else rn Ls xs d 1 130 [l0, l1] st H := rn_cmp (p := fun x y => y ≤ x) rfl
theorem e_W_init_130 : rn Ls xs d 1 130 [some (.inr u), l1] st H = rn Ls xs d 1 131 [some (.inr u), l1] (.inr u :: st) H := rn_nx rfl rfl
theorem e_W_init_131 : rn Ls xs d 1 131 [l0, l1] (.inr (.inl (some a)) :: st) (S, I, R) = if h_is S a 8 10 then rn Ls xs d 1 134 [l0, l1] (.inr (R a 6) :: st) (S, I, R) else none := rn_bc rfl rfl
theorem e_W_init_134 : rn Ls xs d 1 134 [l0, some (.inl x)] st H = rn Ls xs d 1 135 [l0, some (.inl x)] (.inl x :: st) H := rn_nx rfl rfl
theorem e_W_init_135 : rn Ls xs d 1 135 [l0, l1] st (S, I, R) = rn Ls xs d 1 138 [l0, l1] (.inr (.inl (some S.2.1)) :: st) (h_mk (S, I, R) 4 4) := rn_nx rfl rfl
theorem e_W_init_138 : rn Ls xs d 1 138 [l0, l1] (v :: st) H = rn Ls xs d 1 139 [l0, l1] (v :: v :: st) H := rn_nx rfl rfl
theorem e_W_init_139 : rn Ls xs (d + 1) 1 139 [l0, l1] [(.inr (.inl (some a))), v1, v2, v3] (S, I, R) = if h_is S a 4 4 then rb Ls xs (d + 1) 1 142 [l0, l1] [v1, v2, v3] (rn Ls xs d 92 0 [some (.inr (.inl (some a)))] [] (S, I, R)) else none := rn_callO rfl rfl (Nat.le_of_ble_eq_true rfl) rfl rfl
theorem e_W_init_142 : rn Ls xs d 1 142 [l0, l1] (.inr (.inl (some b)) :: .inl i :: .inr (.inl (some a)) :: st) (S, I, R) = if h_ia S a 7 i && h_is S b 4 4 then rn Ls xs d 1 143 [l0, l1] st (S, I, va_up R a (va_up (R a) i.toNatClampNeg (.inl (some b)))) else none := rn_bc rfl rfl
theorem e_W_init_143 : rn Ls xs d 1 143 [l0, some (.inl x)] st H = rn Ls xs d 1 146 [l0, some (.inl (x + 1))] st H := rn_nx rfl rfl
theorem e_W_init_146 : rn Ls xs d 1 146 [l0, l1] st H = rn Ls xs d 1 125 [l0, l1] st H := rn_nx rfl rfl
theorem e_W_init_149 : rn Ls xs d 1 149 [l0, l1] [] H = some (none, H) := rn_done rfl rfl
set_option maxRecDepth 20000 in
theorem e_M_init_0 : rn Ls xs d 2 0 [some (.inr u)] st H = rn Ls xs d 2 1 [some (.inr u)] (.inr u :: st) H := rn_nx rfl rfl
set_option maxRecDepth 20000 in
theorem e_M_init_1 : rn Ls xs (d + 1) 2 1 [l0] (.inr (.inl (some a)) :: []) H = rn Ls xs (d + 1) 2 4 [l0] [] H := rn_nx rfl rfl
set_option maxRecDepth 20000 in
theorem e_M_init_4 : rn Ls xs d 2 4 [some (.inr u)] st H = rn Ls xs d 2 5 [some (.inr u)] (.inr u :: st) H := rn_nx rfl rfl
set_option maxRecDepth 20000 in
theorem e_M_init_5 : rn Ls xs d 2 5 [l0]  st H = rn Ls xs d 2 8 [l0] (.inl 1464 :: st) H := rn_nx rfl rfl
set_option maxRecDepth 20000 in
theorem e_M_init_8 : rn Ls xs d 2 8 [l0] (.inl x :: st) (S, I, R) = if 0 ≤ x.toInt ∧ x.toInt ≤ 100000 then rn Ls xs d 2 10 [l0] (.inr (.inl (some S.2.1)) :: st) (h_mk (S, I, R) (100 + 0) x.toNatClampNeg) else none := rn_pc rfl rfl
set_option maxRecDepth 20000 in
theorem e_M_init_10 : rn Ls xs d 2 10 [l0] (.inr u :: .inr (.inl (some a)) :: st) (S, I, R) = if h_is S a 9 36 then rn Ls xs d 2 13 [l0] st (S, I, va_up R a (va_up (R a) 0 u)) else none := rn_bc rfl rfl
set_option maxRecDepth 20000 in
theorem e_M_init_13 : rn Ls xs d 2 13 [some (.inr u)] st H = rn Ls xs d 2 14 [some (.inr u)] (.inr u :: st) H := rn_nx rfl rfl
set_option maxRecDepth 20000 in
theorem e_M_init_14 : rn Ls xs d 2 14 [l0]  st H = rn Ls xs d 2 17 [l0] (.inl 1464 :: st) H := rn_nx rfl rfl
set_option maxRecDepth 20000 in
theorem e_M_init_17 : rn Ls xs d 2 17 [l0] (.inl x :: st) (S, I, R) = if 0 ≤ x.toInt ∧ x.toInt ≤ 100000 then rn Ls xs d 2 19 [l0] (.inr (.inl (some S.2.1)) :: st) (h_mk (S, I, R) (100 + 0) x.toNatClampNeg) else none := rn_pc rfl rfl
set_option maxRecDepth 20000 in
theorem e_M_init_19 : rn Ls xs d 2 19 [l0] (.inr u :: .inr (.inl (some a)) :: st) (S, I, R) = if h_is S a 9 36 then rn Ls xs d 2 22 [l0] st (S, I, va_up R a (va_up (R a) 1 u)) else none := rn_bc rfl rfl
set_option maxRecDepth 20000 in
theorem e_M_init_22 : rn Ls xs d 2 22 [some (.inr u)] st H = rn Ls xs d 2 23 [some (.inr u)] (.inr u :: st) H := rn_nx rfl rfl
set_option maxRecDepth 20000 in
theorem e_M_init_23 : rn Ls xs d 2 23 [l0]  st H = rn Ls xs d 2 26 [l0] (.inl 1464 :: st) H := rn_nx rfl rfl
set_option maxRecDepth 20000 in
theorem e_M_init_26 : rn Ls xs d 2 26 [l0] (.inl x :: st) (S, I, R) = if 0 ≤ x.toInt ∧ x.toInt ≤ 100000 then rn Ls xs d 2 28 [l0] (.inr (.inl (some S.2.1)) :: st) (h_mk (S, I, R) (100 + 0) x.toNatClampNeg) else none := rn_pc rfl rfl
set_option maxRecDepth 20000 in
theorem e_M_init_28 : rn Ls xs d 2 28 [l0] (.inr u :: .inr (.inl (some a)) :: st) (S, I, R) = if h_is S a 9 36 then rn Ls xs d 2 31 [l0] st (S, I, va_up R a (va_up (R a) 2 u)) else none := rn_bc rfl rfl
set_option maxRecDepth 20000 in
theorem e_M_init_31 : rn Ls xs d 2 31 [some (.inr u)] st H = rn Ls xs d 2 32 [some (.inr u)] (.inr u :: st) H := rn_nx rfl rfl
set_option maxRecDepth 20000 in
theorem e_M_init_32 : rn Ls xs d 2 32 [l0]  st H = rn Ls xs d 2 34 [l0] (.inl 92 :: st) H := rn_nx rfl rfl
set_option maxRecDepth 20000 in
theorem e_M_init_34 : rn Ls xs d 2 34 [l0] (.inl x :: st) (S, I, R) = if 0 ≤ x.toInt ∧ x.toInt ≤ 100000 then rn Ls xs d 2 36 [l0] (.inr (.inl (some S.2.1)) :: st) (h_mk (S, I, R) (100 + 0) x.toNatClampNeg) else none := rn_pc rfl rfl
set_option maxRecDepth 20000 in
theorem e_M_init_36 : rn Ls xs d 2 36 [l0] (.inr u :: .inr (.inl (some a)) :: st) (S, I, R) = if h_is S a 9 36 then rn Ls xs d 2 39 [l0] st (S, I, va_up R a (va_up (R a) 4 u)) else none := rn_bc rfl rfl
set_option maxRecDepth 20000 in
theorem e_M_init_39 : rn Ls xs d 2 39 [some (.inr u)] st H = rn Ls xs d 2 40 [some (.inr u)] (.inr u :: st) H := rn_nx rfl rfl
set_option maxRecDepth 20000 in
theorem e_M_init_40 : rn Ls xs d 2 40 [l0]  st H = rn Ls xs d 2 43 [l0] (.inl 544 :: st) H := rn_nx rfl rfl
set_option maxRecDepth 20000 in
theorem e_M_init_43 : rn Ls xs d 2 43 [l0] (.inl x :: st) (S, I, R) = if 0 ≤ x.toInt ∧ x.toInt ≤ 100000 then rn Ls xs d 2 45 [l0] (.inr (.inl (some S.2.1)) :: st) (h_mk (S, I, R) (100 + 0) x.toNatClampNeg) else none := rn_pc rfl rfl
set_option maxRecDepth 20000 in
theorem e_M_init_45 : rn Ls xs d 2 45 [l0] (.inr u :: .inr (.inl (some a)) :: st) (S, I, R) = if h_is S a 9 36 then rn Ls xs d 2 48 [l0] st (S, I, va_up R a (va_up (R a) 5 u)) else none := rn_bc rfl rfl
set_option maxRecDepth 20000 in
theorem e_M_init_48 : rn Ls xs d 2 48 [some (.inr u)] st H = rn Ls xs d 2 49 [some (.inr u)] (.inr u :: st) H := rn_nx rfl rfl
set_option maxRecDepth 20000 in
theorem e_M_init_49 : rn Ls xs d 2 49 [l0]  st H = rn Ls xs d 2 51 [l0] (.inl 30 :: st) H := rn_nx rfl rfl
set_option maxRecDepth 20000 in
theorem e_M_init_51 : rn Ls xs d 2 51 [l0] (.inl x :: st) (S, I, R) = if 0 ≤ x.toInt ∧ x.toInt ≤ 100000 then rn Ls xs d 2 53 [l0] (.inr (.inl (some S.2.1)) :: st) (h_mk (S, I, R) (100 + 0) x.toNatClampNeg) else none := rn_pc rfl rfl
set_option maxRecDepth 20000 in
theorem e_M_init_53 : rn Ls xs d 2 53 [l0] (.inr u :: .inr (.inl (some a)) :: st) (S, I, R) = if h_is S a 9 36 then rn Ls xs d 2 56 [l0] st (S, I, va_up R a (va_up (R a) 6 u)) else none := rn_bc rfl rfl
set_option maxRecDepth 20000 in
theorem e_M_init_56 : rn Ls xs d 2 56 [some (.inr u)] st H = rn Ls xs d 2 57 [some (.inr u)] (.inr u :: st) H := rn_nx rfl rfl
set_option maxRecDepth 20000 in
theorem e_M_init_57 : rn Ls xs d 2 57 [l0]  st H = rn Ls xs d 2 59 [l0] (.inl 14 :: st) H := rn_nx rfl rfl
set_option maxRecDepth 20000 in
theorem e_M_init_59 : rn Ls xs d 2 59 [l0] (.inl x :: st) (S, I, R) = if 0 ≤ x.toInt ∧ x.toInt ≤ 100000 then rn Ls xs d 2 61 [l0] (.inr (.inl (some S.2.1)) :: st) (h_mk (S, I, R) (100 + 0) x.toNatClampNeg) else none := rn_pc rfl rfl
set_option maxRecDepth 20000 in
theorem e_M_init_61 : rn Ls xs d 2 61 [l0] (.inr u :: .inr (.inl (some a)) :: st) (S, I, R) = if h_is S a 9 36 then rn Ls xs d 2 64 [l0] st (S, I, va_up R a (va_up (R a) 7 u)) else none := rn_bc rfl rfl
set_option maxRecDepth 20000 in
theorem e_M_init_64 : rn Ls xs d 2 64 [some (.inr u)] st H = rn Ls xs d 2 65 [some (.inr u)] (.inr u :: st) H := rn_nx rfl rfl
set_option maxRecDepth 20000 in
theorem e_M_init_65 : rn Ls xs d 2 65 [l0]  st H = rn Ls xs d 2 67 [l0] (.inl 96 :: st) H := rn_nx rfl rfl
set_option maxRecDepth 20000 in
theorem e_M_init_67 : rn Ls xs d 2 67 [l0] (.inl x :: st) (S, I, R) = if 0 ≤ x.toInt ∧ x.toInt ≤ 100000 then rn Ls xs d 2 69 [l0] (.inr (.inl (some S.2.1)) :: st) (h_mk (S, I, R) (100 + 0) x.toNatClampNeg) else none := rn_pc rfl rfl
set_option maxRecDepth 20000 in
theorem e_M_init_69 : rn Ls xs d 2 69 [l0] (.inr u :: .inr (.inl (some a)) :: st) (S, I, R) = if h_is S a 9 36 then rn Ls xs d 2 72 [l0] st (S, I, va_up R a (va_up (R a) 8 u)) else none := rn_bc rfl rfl
set_option maxRecDepth 20000 in
theorem e_M_init_72 : rn Ls xs d 2 72 [some (.inr u)] st H = rn Ls xs d 2 73 [some (.inr u)] (.inr u :: st) H := rn_nx rfl rfl
set_option maxRecDepth 20000 in
theorem e_M_init_73 : rn Ls xs d 2 73 [l0]  st H = rn Ls xs d 2 75 [l0] (.inl 11 :: st) H := rn_nx rfl rfl
set_option maxRecDepth 20000 in
theorem e_M_init_75 : rn Ls xs d 2 75 [l0] (.inl x :: st) (S, I, R) = if 0 ≤ x.toInt ∧ x.toInt ≤ 100000 then rn Ls xs d 2 77 [l0] (.inr (.inl (some S.2.1)) :: st) (h_mk (S, I, R) (100 + 2) x.toNatClampNeg) else none := rn_pc rfl rfl
set_option maxRecDepth 20000 in
theorem e_M_init_77 : rn Ls xs d 2 77 [l0] (v :: st) H = rn Ls xs d 2 78 [l0] (v :: v :: st) H := rn_nx rfl rfl
set_option maxRecDepth 20000 in
theorem e_M_init_78 : rn Ls xs d 2 78 [l0]  st H = rn Ls xs d 2 79 [l0] (.inl 0 :: st) H := rn_nx rfl rfl
set_option maxRecDepth 20000 in
theorem e_M_init_79 : rn Ls xs d 2 79 [l0]  st H = rn Ls xs d 2 81 [l0] (.inl 104 :: st) H := rn_nx rfl rfl
set_option maxRecDepth 20000 in
theorem e_M_init_81 : rn Ls xs d 2 81 [l0] (.inl x :: .inl i :: .inr (.inl (some a)) :: st) (S, I, R) = if h_ia S a 2 i then rn Ls xs d 2 82 [l0] st (S, va_up I a (upd (I a) i.toNatClampNeg (vp_nar .char x)), R) else none := rn_bc rfl rfl
set_option maxRecDepth 20000 in
theorem e_M_init_82 : rn Ls xs d 2 82 [l0] (v :: st) H = rn Ls xs d 2 83 [l0] (v :: v :: st) H := rn_nx rfl rfl
set_option maxRecDepth 20000 in
theorem e_M_init_83 : rn Ls xs d 2 83 [l0]  st H = rn Ls xs d 2 84 [l0] (.inl 1 :: st) H := rn_nx rfl rfl
set_option maxRecDepth 20000 in
theorem e_M_init_84 : rn Ls xs d 2 84 [l0]  st H = rn Ls xs d 2 86 [l0] (.inl 97 :: st) H := rn_nx rfl rfl
set_option maxRecDepth 20000 in
theorem e_M_init_86 : rn Ls xs d 2 86 [l0] (.inl x :: .inl i :: .inr (.inl (some a)) :: st) (S, I, R) = if h_ia S a 2 i then rn Ls xs d 2 87 [l0] st (S, va_up I a (upd (I a) i.toNatClampNeg (vp_nar .char x)), R) else none := rn_bc rfl rfl
set_option maxRecDepth 20000 in
theorem e_M_init_87 : rn Ls xs d 2 87 [l0] (v :: st) H = rn Ls xs d 2 88 [l0] (v :: v :: st) H := rn_nx rfl rfl
set_option maxRecDepth 20000 in
theorem e_M_init_88 : rn Ls xs d 2 88 [l0]  st H = rn Ls xs d 2 89 [l0] (.inl 2 :: st) H := rn_nx rfl rfl
set_option maxRecDepth 20000 in
theorem e_M_init_89 : rn Ls xs d 2 89 [l0]  st H = rn Ls xs d 2 91 [l0] (.inl 114 :: st) H := rn_nx rfl rfl
set_option maxRecDepth 20000 in
theorem e_M_init_91 : rn Ls xs d 2 91 [l0] (.inl x :: .inl i :: .inr (.inl (some a)) :: st) (S, I, R) = if h_ia S a 2 i then rn Ls xs d 2 92 [l0] st (S, va_up I a (upd (I a) i.toNatClampNeg (vp_nar .char x)), R) else none := rn_bc rfl rfl
set_option maxRecDepth 20000 in
theorem e_M_init_92 : rn Ls xs d 2 92 [l0] (v :: st) H = rn Ls xs d 2 93 [l0] (v :: v :: st) H := rn_nx rfl rfl
set_option maxRecDepth 20000 in
theorem e_M_init_93 : rn Ls xs d 2 93 [l0]  st H = rn Ls xs d 2 94 [l0] (.inl 3 :: st) H := rn_nx rfl rfl
set_option maxRecDepth 20000 in
theorem e_M_init_94 : rn Ls xs d 2 94 [l0]  st H = rn Ls xs d 2 96 [l0] (.inl 100 :: st) H := rn_nx rfl rfl
set_option maxRecDepth 20000 in
theorem e_M_init_96 : rn Ls xs d 2 96 [l0] (.inl x :: .inl i :: .inr (.inl (some a)) :: st) (S, I, R) = if h_ia S a 2 i then rn Ls xs d 2 97 [l0] st (S, va_up I a (upd (I a) i.toNatClampNeg (vp_nar .char x)), R) else none := rn_bc rfl rfl
set_option maxRecDepth 20000 in
theorem e_M_init_97 : rn Ls xs d 2 97 [l0] (v :: st) H = rn Ls xs d 2 98 [l0] (v :: v :: st) H := rn_nx rfl rfl
set_option maxRecDepth 20000 in
theorem e_M_init_98 : rn Ls xs d 2 98 [l0]  st H = rn Ls xs d 2 99 [l0] (.inl 4 :: st) H := rn_nx rfl rfl
set_option maxRecDepth 20000 in
theorem e_M_init_99 : rn Ls xs d 2 99 [l0]  st H = rn Ls xs d 2 101 [l0] (.inl 102 :: st) H := rn_nx rfl rfl
set_option maxRecDepth 20000 in
theorem e_M_init_101 : rn Ls xs d 2 101 [l0] (.inl x :: .inl i :: .inr (.inl (some a)) :: st) (S, I, R) = if h_ia S a 2 i then rn Ls xs d 2 102 [l0] st (S, va_up I a (upd (I a) i.toNatClampNeg (vp_nar .char x)), R) else none := rn_bc rfl rfl
set_option maxRecDepth 20000 in
theorem e_M_init_102 : rn Ls xs d 2 102 [l0] (v :: st) H = rn Ls xs d 2 103 [l0] (v :: v :: st) H := rn_nx rfl rfl
set_option maxRecDepth 20000 in
theorem e_M_init_103 : rn Ls xs d 2 103 [l0]  st H = rn Ls xs d 2 104 [l0] (.inl 5 :: st) H := rn_nx rfl rfl
set_option maxRecDepth 20000 in
theorem e_M_init_104 : rn Ls xs d 2 104 [l0]  st H = rn Ls xs d 2 106 [l0] (.inl 101 :: st) H := rn_nx rfl rfl
set_option maxRecDepth 20000 in
theorem e_M_init_106 : rn Ls xs d 2 106 [l0] (.inl x :: .inl i :: .inr (.inl (some a)) :: st) (S, I, R) = if h_ia S a 2 i then rn Ls xs d 2 107 [l0] st (S, va_up I a (upd (I a) i.toNatClampNeg (vp_nar .char x)), R) else none := rn_bc rfl rfl
set_option maxRecDepth 20000 in
theorem e_M_init_107 : rn Ls xs d 2 107 [l0] (v :: st) H = rn Ls xs d 2 108 [l0] (v :: v :: st) H := rn_nx rfl rfl
set_option maxRecDepth 20000 in
theorem e_M_init_108 : rn Ls xs d 2 108 [l0]  st H = rn Ls xs d 2 110 [l0] (.inl 6 :: st) H := rn_nx rfl rfl
set_option maxRecDepth 20000 in
theorem e_M_init_110 : rn Ls xs d 2 110 [l0]  st H = rn Ls xs d 2 112 [l0] (.inl 101 :: st) H := rn_nx rfl rfl
set_option maxRecDepth 20000 in
theorem e_M_init_112 : rn Ls xs d 2 112 [l0] (.inl x :: .inl i :: .inr (.inl (some a)) :: st) (S, I, R) = if h_ia S a 2 i then rn Ls xs d 2 113 [l0] st (S, va_up I a (upd (I a) i.toNatClampNeg (vp_nar .char x)), R) else none := rn_bc rfl rfl
set_option maxRecDepth 20000 in
theorem e_M_init_113 : rn Ls xs d 2 113 [l0] (v :: st) H = rn Ls xs d 2 114 [l0] (v :: v :: st) H := rn_nx rfl rfl
set_option maxRecDepth 20000 in
theorem e_M_init_114 : rn Ls xs d 2 114 [l0]  st H = rn Ls xs d 2 116 [l0] (.inl 7 :: st) H := rn_nx rfl rfl
set_option maxRecDepth 20000 in
theorem e_M_init_116 : rn Ls xs d 2 116 [l0]  st H = rn Ls xs d 2 118 [l0] (.inl 102 :: st) H := rn_nx rfl rfl
set_option maxRecDepth 20000 in
theorem e_M_init_118 : rn Ls xs d 2 118 [l0] (.inl x :: .inl i :: .inr (.inl (some a)) :: st) (S, I, R) = if h_ia S a 2 i then rn Ls xs d 2 119 [l0] st (S, va_up I a (upd (I a) i.toNatClampNeg (vp_nar .char x)), R) else none := rn_bc rfl rfl
set_option maxRecDepth 20000 in
theorem e_M_init_119 : rn Ls xs d 2 119 [l0] (v :: st) H = rn Ls xs d 2 120 [l0] (v :: v :: st) H := rn_nx rfl rfl
set_option maxRecDepth 20000 in
theorem e_M_init_120 : rn Ls xs d 2 120 [l0]  st H = rn Ls xs d 2 122 [l0] (.inl 8 :: st) H := rn_nx rfl rfl
set_option maxRecDepth 20000 in
theorem e_M_init_122 : rn Ls xs d 2 122 [l0]  st H = rn Ls xs d 2 124 [l0] (.inl 105 :: st) H := rn_nx rfl rfl
set_option maxRecDepth 20000 in
theorem e_M_init_124 : rn Ls xs d 2 124 [l0] (.inl x :: .inl i :: .inr (.inl (some a)) :: st) (S, I, R) = if h_ia S a 2 i then rn Ls xs d 2 125 [l0] st (S, va_up I a (upd (I a) i.toNatClampNeg (vp_nar .char x)), R) else none := rn_bc rfl rfl
set_option maxRecDepth 20000 in
theorem e_M_init_125 : rn Ls xs d 2 125 [l0] (v :: st) H = rn Ls xs d 2 126 [l0] (v :: v :: st) H := rn_nx rfl rfl
set_option maxRecDepth 20000 in
theorem e_M_init_126 : rn Ls xs d 2 126 [l0]  st H = rn Ls xs d 2 128 [l0] (.inl 9 :: st) H := rn_nx rfl rfl
set_option maxRecDepth 20000 in
theorem e_M_init_128 : rn Ls xs d 2 128 [l0]  st H = rn Ls xs d 2 130 [l0] (.inl 110 :: st) H := rn_nx rfl rfl
set_option maxRecDepth 20000 in
theorem e_M_init_130 : rn Ls xs d 2 130 [l0] (.inl x :: .inl i :: .inr (.inl (some a)) :: st) (S, I, R) = if h_ia S a 2 i then rn Ls xs d 2 131 [l0] st (S, va_up I a (upd (I a) i.toNatClampNeg (vp_nar .char x)), R) else none := rn_bc rfl rfl
set_option maxRecDepth 20000 in
theorem e_M_init_131 : rn Ls xs d 2 131 [l0] (v :: st) H = rn Ls xs d 2 132 [l0] (v :: v :: st) H := rn_nx rfl rfl
set_option maxRecDepth 20000 in
theorem e_M_init_132 : rn Ls xs d 2 132 [l0]  st H = rn Ls xs d 2 134 [l0] (.inl 10 :: st) H := rn_nx rfl rfl
set_option maxRecDepth 20000 in
theorem e_M_init_134 : rn Ls xs d 2 134 [l0]  st H = rn Ls xs d 2 136 [l0] (.inl 101 :: st) H := rn_nx rfl rfl
set_option maxRecDepth 20000 in
theorem e_M_init_136 : rn Ls xs d 2 136 [l0] (.inl x :: .inl i :: .inr (.inl (some a)) :: st) (S, I, R) = if h_ia S a 2 i then rn Ls xs d 2 137 [l0] st (S, va_up I a (upd (I a) i.toNatClampNeg (vp_nar .char x)), R) else none := rn_bc rfl rfl
set_option maxRecDepth 20000 in
theorem e_M_init_137 : rn Ls xs d 2 137 [l0] (.inr u :: .inr (.inl (some a)) :: st) (S, I, R) = if h_is S a 9 36 then rn Ls xs d 2 140 [l0] st (S, I, va_up R a (va_up (R a) 16 u)) else none := rn_bc rfl rfl
set_option maxRecDepth 20000 in
theorem e_M_init_140 : rn Ls xs d 2 140 [some (.inr u)] st H = rn Ls xs d 2 141 [some (.inr u)] (.inr u :: st) H := rn_nx rfl rfl
set_option maxRecDepth 20000 in
theorem e_M_init_141 : rn Ls xs d 2 141 [l0]  st H = rn Ls xs d 2 142 [l0] (.inl 4 :: st) H := rn_nx rfl rfl
set_option maxRecDepth 20000 in
theorem e_M_init_142 : rn Ls xs d 2 142 [l0] (.inl x :: st) (S, I, R) = if 0 ≤ x.toInt ∧ x.toInt ≤ 100000 then rn Ls xs d 2 144 [l0] (.inr (.inl (some S.2.1)) :: st) (h_mk (S, I, R) (100 + 0) x.toNatClampNeg) else none := rn_pc rfl rfl
set_option maxRecDepth 20000 in
theorem e_M_init_144 : rn Ls xs d 2 144 [l0] (v :: st) H = rn Ls xs d 2 145 [l0] (v :: v :: st) H := rn_nx rfl rfl
set_option maxRecDepth 20000 in
theorem e_M_init_145 : rn Ls xs d 2 145 [l0]  st H = rn Ls xs d 2 146 [l0] (.inl 0 :: st) H := rn_nx rfl rfl
set_option maxRecDepth 20000 in
theorem e_M_init_146 : rn Ls xs d 2 146 [l0]  st H = rn Ls xs d 2 147 [l0] (.inl 0 :: st) H := rn_nx rfl rfl
set_option maxRecDepth 20000 in
theorem e_M_init_147 : rn Ls xs d 2 147 [l0] (.inl x :: .inl i :: .inr (.inl (some a)) :: st) (S, I, R) = if h_ia S a 0 i then rn Ls xs d 2 148 [l0] st (S, va_up I a (upd (I a) i.toNatClampNeg x), R) else none := rn_bc rfl rfl
set_option maxRecDepth 20000 in
theorem e_M_init_148 : rn Ls xs d 2 148 [l0] (v :: st) H = rn Ls xs d 2 149 [l0] (v :: v :: st) H := rn_nx rfl rfl
set_option maxRecDepth 20000 in
theorem e_M_init_149 : rn Ls xs d 2 149 [l0]  st H = rn Ls xs d 2 150 [l0] (.inl 1 :: st) H := rn_nx rfl rfl
set_option maxRecDepth 20000 in
theorem e_M_init_150 : rn Ls xs d 2 150 [l0]  st H = rn Ls xs d 2 151 [l0] (.inl 4 :: st) H := rn_nx rfl rfl
set_option maxRecDepth 20000 in
theorem e_M_init_151 : rn Ls xs d 2 151 [l0] (.inl x :: .inl i :: .inr (.inl (some a)) :: st) (S, I, R) = if h_ia S a 0 i then rn Ls xs d 2 152 [l0] st (S, va_up I a (upd (I a) i.toNatClampNeg x), R) else none := rn_bc rfl rfl
set_option maxRecDepth 20000 in
theorem e_M_init_152 : rn Ls xs d 2 152 [l0] (v :: st) H = rn Ls xs d 2 153 [l0] (v :: v :: st) H := rn_nx rfl rfl
set_option maxRecDepth 20000 in
theorem e_M_init_153 : rn Ls xs d 2 153 [l0]  st H = rn Ls xs d 2 154 [l0] (.inl 2 :: st) H := rn_nx rfl rfl
set_option maxRecDepth 20000 in
theorem e_M_init_154 : rn Ls xs d 2 154 [l0]  st H = rn Ls xs d 2 156 [l0] (.inl 7 :: st) H := rn_nx rfl rfl
set_option maxRecDepth 20000 in
theorem e_M_init_156 : rn Ls xs d 2 156 [l0] (.inl x :: .inl i :: .inr (.inl (some a)) :: st) (S, I, R) = if h_ia S a 0 i then rn Ls xs d 2 157 [l0] st (S, va_up I a (upd (I a) i.toNatClampNeg x), R) else none := rn_bc rfl rfl
set_option maxRecDepth 20000 in
theorem e_M_init_157 : rn Ls xs d 2 157 [l0] (v :: st) H = rn Ls xs d 2 158 [l0] (v :: v :: st) H := rn_nx rfl rfl
set_option maxRecDepth 20000 in
theorem e_M_init_158 : rn Ls xs d 2 158 [l0]  st H = rn Ls xs d 2 159 [l0] (.inl 3 :: st) H := rn_nx rfl rfl
set_option maxRecDepth 20000 in
theorem e_M_init_159 : rn Ls xs d 2 159 [l0]  st H = rn Ls xs d 2 161 [l0] (.inl 11 :: st) H := rn_nx rfl rfl
set_option maxRecDepth 20000 in
theorem e_M_init_161 : rn Ls xs d 2 161 [l0] (.inl x :: .inl i :: .inr (.inl (some a)) :: st) (S, I, R) = if h_ia S a 0 i then rn Ls xs d 2 162 [l0] st (S, va_up I a (upd (I a) i.toNatClampNeg x), R) else none := rn_bc rfl rfl
set_option maxRecDepth 20000 in
theorem e_M_init_162 : rn Ls xs d 2 162 [l0] (.inr u :: .inr (.inl (some a)) :: st) (S, I, R) = if h_is S a 9 36 then rn Ls xs d 2 165 [l0] st (S, I, va_up R a (va_up (R a) 17 u)) else none := rn_bc rfl rfl
set_option maxRecDepth 20000 in
theorem e_M_init_165 : rn Ls xs d 2 165 [some (.inr u)] st H = rn Ls xs d 2 166 [some (.inr u)] (.inr u :: st) H := rn_nx rfl rfl
set_option maxRecDepth 20000 in
theorem e_M_init_166 : rn Ls xs d 2 166 [l0]  st H = rn Ls xs d 2 168 [l0] (.inl 96 :: st) H := rn_nx rfl rfl
set_option maxRecDepth 20000 in
theorem e_M_init_168 : rn Ls xs d 2 168 [l0] (.inl x :: st) (S, I, R) = if 0 ≤ x.toInt ∧ x.toInt ≤ 100000 then rn Ls xs d 2 170 [l0] (.inr (.inl (some S.2.1)) :: st) (h_mk (S, I, R) (100 + 0) x.toNatClampNeg) else none := rn_pc rfl rfl
set_option maxRecDepth 20000 in
theorem e_M_init_170 : rn Ls xs d 2 170 [l0] (.inr u :: .inr (.inl (some a)) :: st) (S, I, R) = if h_is S a 9 36 then rn Ls xs d 2 173 [l0] st (S, I, va_up R a (va_up (R a) 18 u)) else none := rn_bc rfl rfl
set_option maxRecDepth 20000 in
theorem e_M_init_173 : rn Ls xs d 2 173 [some (.inr u)] st H = rn Ls xs d 2 174 [some (.inr u)] (.inr u :: st) H := rn_nx rfl rfl
set_option maxRecDepth 20000 in
theorem e_M_init_174 : rn Ls xs d 2 174 [l0]  st H = rn Ls xs d 2 176 [l0] (.inl 96 :: st) H := rn_nx rfl rfl
set_option maxRecDepth 20000 in
theorem e_M_init_176 : rn Ls xs d 2 176 [l0] (.inl x :: st) (S, I, R) = if 0 ≤ x.toInt ∧ x.toInt ≤ 100000 then rn Ls xs d 2 178 [l0] (.inr (.inl (some S.2.1)) :: st) (h_mk (S, I, R) (100 + 0) x.toNatClampNeg) else none := rn_pc rfl rfl
set_option maxRecDepth 20000 in
theorem e_M_init_178 : rn Ls xs d 2 178 [l0] (.inr u :: .inr (.inl (some a)) :: st) (S, I, R) = if h_is S a 9 36 then rn Ls xs d 2 181 [l0] st (S, I, va_up R a (va_up (R a) 21 u)) else none := rn_bc rfl rfl
set_option maxRecDepth 20000 in
theorem e_M_init_181 : rn Ls xs d 2 181 [some (.inr u)] st H = rn Ls xs d 2 182 [some (.inr u)] (.inr u :: st) H := rn_nx rfl rfl
set_option maxRecDepth 20000 in
theorem e_M_init_182 : rn Ls xs d 2 182 [l0]  st H = rn Ls xs d 2 184 [l0] (.inl 10 :: st) H := rn_nx rfl rfl
set_option maxRecDepth 20000 in
theorem e_M_init_184 : rn Ls xs d 2 184 [l0] (.inl x :: st) (S, I, R) = if 0 ≤ x.toInt ∧ x.toInt ≤ 100000 then rn Ls xs d 2 186 [l0] (.inr (.inl (some S.2.1)) :: st) (h_mk (S, I, R) (100 + 1) x.toNatClampNeg) else none := rn_pc rfl rfl
set_option maxRecDepth 20000 in
theorem e_M_init_186 : rn Ls xs d 2 186 [l0] (.inr u :: .inr (.inl (some a)) :: st) (S, I, R) = if h_is S a 9 36 then rn Ls xs d 2 189 [l0] st (S, I, va_up R a (va_up (R a) 23 u)) else none := rn_bc rfl rfl
set_option maxRecDepth 20000 in
theorem e_M_init_189 : rn Ls xs d 2 189 [some (.inr u)] st H = rn Ls xs d 2 190 [some (.inr u)] (.inr u :: st) H := rn_nx rfl rfl
set_option maxRecDepth 20000 in
theorem e_M_init_190 : rn Ls xs d 2 190 [l0]  st H = rn Ls xs d 2 192 [l0] (.inl 96 :: st) H := rn_nx rfl rfl
set_option maxRecDepth 20000 in
theorem e_M_init_192 : rn Ls xs d 2 192 [l0] (.inl x :: st) (S, I, R) = if 0 ≤ x.toInt ∧ x.toInt ≤ 100000 then rn Ls xs d 2 194 [l0] (.inr (.inl (some S.2.1)) :: st) (h_mk (S, I, R) (100 + 0) x.toNatClampNeg) else none := rn_pc rfl rfl
set_option maxRecDepth 20000 in
theorem e_M_init_194 : rn Ls xs d 2 194 [l0] (.inr u :: .inr (.inl (some a)) :: st) (S, I, R) = if h_is S a 9 36 then rn Ls xs d 2 197 [l0] st (S, I, va_up R a (va_up (R a) 24 u)) else none := rn_bc rfl rfl
set_option maxRecDepth 20000 in
theorem e_M_init_197 : rn Ls xs d 2 197 [some (.inr u)] st H = rn Ls xs d 2 198 [some (.inr u)] (.inr u :: st) H := rn_nx rfl rfl
set_option maxRecDepth 20000 in
theorem e_M_init_198 : rn Ls xs d 2 198 [l0]  st H = rn Ls xs d 2 199 [l0] (.inl 4 :: st) H := rn_nx rfl rfl
set_option maxRecDepth 20000 in
theorem e_M_init_199 : rn Ls xs d 2 199 [l0] (.inl x :: st) (S, I, R) = if 0 ≤ x.toInt ∧ x.toInt ≤ 100000 then rn Ls xs d 2 201 [l0] (.inr (.inl (some S.2.1)) :: st) (h_mk (S, I, R) (100 + 0) x.toNatClampNeg) else none := rn_pc rfl rfl
set_option maxRecDepth 20000 in
theorem e_M_init_201 : rn Ls xs d 2 201 [l0] (.inr u :: .inr (.inl (some a)) :: st) (S, I, R) = if h_is S a 9 36 then rn Ls xs d 2 204 [l0] st (S, I, va_up R a (va_up (R a) 25 u)) else none := rn_bc rfl rfl
set_option maxRecDepth 20000 in
theorem e_M_init_204 : rn Ls xs d 2 204 [some (.inr u)] st H = rn Ls xs d 2 205 [some (.inr u)] (.inr u :: st) H := rn_nx rfl rfl
set_option maxRecDepth 20000 in
theorem e_M_init_205 : rn Ls xs d 2 205 [l0]  st H = rn Ls xs d 2 206 [l0] (.inl 4 :: st) H := rn_nx rfl rfl
set_option maxRecDepth 20000 in
theorem e_M_init_206 : rn Ls xs d 2 206 [l0] (.inl x :: st) (S, I, R) = if 0 ≤ x.toInt ∧ x.toInt ≤ 100000 then rn Ls xs d 2 208 [l0] (.inr (.inl (some S.2.1)) :: st) (h_mk (S, I, R) (100 + 0) x.toNatClampNeg) else none := rn_pc rfl rfl
set_option maxRecDepth 20000 in
theorem e_M_init_208 : rn Ls xs d 2 208 [l0] (v :: st) H = rn Ls xs d 2 209 [l0] (v :: v :: st) H := rn_nx rfl rfl
set_option maxRecDepth 20000 in
theorem e_M_init_209 : rn Ls xs d 2 209 [l0]  st H = rn Ls xs d 2 210 [l0] (.inl 0 :: st) H := rn_nx rfl rfl
set_option maxRecDepth 20000 in
theorem e_M_init_210 : rn Ls xs d 2 210 [l0]  st H = rn Ls xs d 2 211 [l0] (.inl (-1) :: st) H := rn_nx rfl rfl
set_option maxRecDepth 20000 in
theorem e_M_init_211 : rn Ls xs d 2 211 [l0] (.inl x :: .inl i :: .inr (.inl (some a)) :: st) (S, I, R) = if h_ia S a 0 i then rn Ls xs d 2 212 [l0] st (S, va_up I a (upd (I a) i.toNatClampNeg x), R) else none := rn_bc rfl rfl
set_option maxRecDepth 20000 in
theorem e_M_init_212 : rn Ls xs d 2 212 [l0] (v :: st) H = rn Ls xs d 2 213 [l0] (v :: v :: st) H := rn_nx rfl rfl
set_option maxRecDepth 20000 in
theorem e_M_init_213 : rn Ls xs d 2 213 [l0]  st H = rn Ls xs d 2 214 [l0] (.inl 1 :: st) H := rn_nx rfl rfl
set_option maxRecDepth 20000 in
theorem e_M_init_214 : rn Ls xs d 2 214 [l0]  st H = rn Ls xs d 2 215 [l0] (.inl (-1) :: st) H := rn_nx rfl rfl
set_option maxRecDepth 20000 in
theorem e_M_init_215 : rn Ls xs d 2 215 [l0] (.inl x :: .inl i :: .inr (.inl (some a)) :: st) (S, I, R) = if h_ia S a 0 i then rn Ls xs d 2 216 [l0] st (S, va_up I a (upd (I a) i.toNatClampNeg x), R) else none := rn_bc rfl rfl
set_option maxRecDepth 20000 in
theorem e_M_init_216 : rn Ls xs d 2 216 [l0] (v :: st) H = rn Ls xs d 2 217 [l0] (v :: v :: st) H := rn_nx rfl rfl
set_option maxRecDepth 20000 in
theorem e_M_init_217 : rn Ls xs d 2 217 [l0]  st H = rn Ls xs d 2 218 [l0] (.inl 2 :: st) H := rn_nx rfl rfl
set_option maxRecDepth 20000 in
theorem e_M_init_218 : rn Ls xs d 2 218 [l0]  st H = rn Ls xs d 2 219 [l0] (.inl (-1) :: st) H := rn_nx rfl rfl
set_option maxRecDepth 20000 in
theorem e_M_init_219 : rn Ls xs d 2 219 [l0] (.inl x :: .inl i :: .inr (.inl (some a)) :: st) (S, I, R) = if h_ia S a 0 i then rn Ls xs d 2 220 [l0] st (S, va_up I a (upd (I a) i.toNatClampNeg x), R) else none := rn_bc rfl rfl
set_option maxRecDepth 20000 in
theorem e_M_init_220 : rn Ls xs d 2 220 [l0] (v :: st) H = rn Ls xs d 2 221 [l0] (v :: v :: st) H := rn_nx rfl rfl
set_option maxRecDepth 20000 in
theorem e_M_init_221 : rn Ls xs d 2 221 [l0]  st H = rn Ls xs d 2 222 [l0] (.inl 3 :: st) H := rn_nx rfl rfl
set_option maxRecDepth 20000 in
theorem e_M_init_222 : rn Ls xs d 2 222 [l0]  st H = rn Ls xs d 2 223 [l0] (.inl (-1) :: st) H := rn_nx rfl rfl
set_option maxRecDepth 20000 in
theorem e_M_init_223 : rn Ls xs d 2 223 [l0] (.inl x :: .inl i :: .inr (.inl (some a)) :: st) (S, I, R) = if h_ia S a 0 i then rn Ls xs d 2 224 [l0] st (S, va_up I a (upd (I a) i.toNatClampNeg x), R) else none := rn_bc rfl rfl
set_option maxRecDepth 20000 in
theorem e_M_init_224 : rn Ls xs d 2 224 [l0] (.inr u :: .inr (.inl (some a)) :: st) (S, I, R) = if h_is S a 9 36 then rn Ls xs d 2 227 [l0] st (S, I, va_up R a (va_up (R a) 26 u)) else none := rn_bc rfl rfl
set_option maxRecDepth 20000 in
theorem e_M_init_227 : rn Ls xs d 2 227 [some (.inr u)] st H = rn Ls xs d 2 228 [some (.inr u)] (.inr u :: st) H := rn_nx rfl rfl
set_option maxRecDepth 20000 in
theorem e_M_init_228 : rn Ls xs d 2 228 [l0]  st H = rn Ls xs d 2 229 [l0] (.inl 4 :: st) H := rn_nx rfl rfl
set_option maxRecDepth 20000 in
theorem e_M_init_229 : rn Ls xs d 2 229 [l0] (.inl x :: st) (S, I, R) = if 0 ≤ x.toInt ∧ x.toInt ≤ 100000 then rn Ls xs d 2 231 [l0] (.inr (.inl (some S.2.1)) :: st) (h_mk (S, I, R) (100 + 0) x.toNatClampNeg) else none := rn_pc rfl rfl
set_option maxRecDepth 20000 in
theorem e_M_init_231 : rn Ls xs d 2 231 [l0] (.inr u :: .inr (.inl (some a)) :: st) (S, I, R) = if h_is S a 9 36 then rn Ls xs d 2 234 [l0] st (S, I, va_up R a (va_up (R a) 27 u)) else none := rn_bc rfl rfl
set_option maxRecDepth 20000 in
theorem e_M_init_234 : rn Ls xs d 2 234 [some (.inr u)] st H = rn Ls xs d 2 235 [some (.inr u)] (.inr u :: st) H := rn_nx rfl rfl
set_option maxRecDepth 20000 in
theorem e_M_init_235 : rn Ls xs d 2 235 [l0]  st H = rn Ls xs d 2 237 [l0] (.inl 96 :: st) H := rn_nx rfl rfl
set_option maxRecDepth 20000 in
theorem e_M_init_237 : rn Ls xs d 2 237 [l0] (.inl x :: st) (S, I, R) = if 0 ≤ x.toInt ∧ x.toInt ≤ 100000 then rn Ls xs d 2 239 [l0] (.inr (.inl (some S.2.1)) :: st) (h_mk (S, I, R) (100 + 0) x.toNatClampNeg) else none := rn_pc rfl rfl
set_option maxRecDepth 20000 in
theorem e_M_init_239 : rn Ls xs d 2 239 [l0] (.inr u :: .inr (.inl (some a)) :: st) (S, I, R) = if h_is S a 9 36 then rn Ls xs d 2 242 [l0] st (S, I, va_up R a (va_up (R a) 28 u)) else none := rn_bc rfl rfl
set_option maxRecDepth 20000 in
theorem e_M_init_242 : rn Ls xs d 2 242 [some (.inr u)] st H = rn Ls xs d 2 243 [some (.inr u)] (.inr u :: st) H := rn_nx rfl rfl
set_option maxRecDepth 20000 in
theorem e_M_init_243 : rn Ls xs d 2 243 [l0]  st H = rn Ls xs d 2 244 [l0] (.inl 5 :: st) H := rn_nx rfl rfl
set_option maxRecDepth 20000 in
theorem e_M_init_244 : rn Ls xs d 2 244 [l0] (.inl x :: st) (S, I, R) = if 0 ≤ x.toInt ∧ x.toInt ≤ 100000 then rn Ls xs d 2 246 [l0] (.inr (.inl (some S.2.1)) :: st) (h_mk (S, I, R) (100 + 0) x.toNatClampNeg) else none := rn_pc rfl rfl
set_option maxRecDepth 20000 in
theorem e_M_init_246 : rn Ls xs d 2 246 [l0] (.inr u :: .inr (.inl (some a)) :: st) (S, I, R) = if h_is S a 9 36 then rn Ls xs d 2 249 [l0] st (S, I, va_up R a (va_up (R a) 29 u)) else none := rn_bc rfl rfl
set_option maxRecDepth 20000 in
theorem e_M_init_249 : rn Ls xs d 2 249 [some (.inr u)] st H = rn Ls xs d 2 250 [some (.inr u)] (.inr u :: st) H := rn_nx rfl rfl
set_option maxRecDepth 20000 in
theorem e_M_init_250 : rn Ls xs d 2 250 [l0]  st H = rn Ls xs d 2 251 [l0] (.inl 5 :: st) H := rn_nx rfl rfl
set_option maxRecDepth 20000 in
theorem e_M_init_251 : rn Ls xs d 2 251 [l0] (.inl x :: st) (S, I, R) = if 0 ≤ x.toInt ∧ x.toInt ≤ 100000 then rn Ls xs d 2 253 [l0] (.inr (.inl (some S.2.1)) :: st) (h_mk (S, I, R) (100 + 0) x.toNatClampNeg) else none := rn_pc rfl rfl
set_option maxRecDepth 20000 in
theorem e_M_init_253 : rn Ls xs d 2 253 [l0] (.inr u :: .inr (.inl (some a)) :: st) (S, I, R) = if h_is S a 9 36 then rn Ls xs d 2 256 [l0] st (S, I, va_up R a (va_up (R a) 30 u)) else none := rn_bc rfl rfl
set_option maxRecDepth 20000 in
theorem e_M_init_256 : rn Ls xs d 2 256 [some (.inr u)] st H = rn Ls xs d 2 257 [some (.inr u)] (.inr u :: st) H := rn_nx rfl rfl
set_option maxRecDepth 20000 in
theorem e_M_init_257 : rn Ls xs d 2 257 [l0]  st H = rn Ls xs d 2 258 [l0] (.inl 5 :: st) H := rn_nx rfl rfl
set_option maxRecDepth 20000 in
theorem e_M_init_258 : rn Ls xs d 2 258 [l0] (.inl x :: st) (S, I, R) = if 0 ≤ x.toInt ∧ x.toInt ≤ 100000 then rn Ls xs d 2 260 [l0] (.inr (.inl (some S.2.1)) :: st) (h_mk (S, I, R) (100 + 0) x.toNatClampNeg) else none := rn_pc rfl rfl
set_option maxRecDepth 20000 in
theorem e_M_init_260 : rn Ls xs d 2 260 [l0] (.inr u :: .inr (.inl (some a)) :: st) (S, I, R) = if h_is S a 9 36 then rn Ls xs d 2 263 [l0] st (S, I, va_up R a (va_up (R a) 31 u)) else none := rn_bc rfl rfl
set_option maxRecDepth 20000 in
theorem e_M_init_263 : rn Ls xs d 2 263 [some (.inr u)] st H = rn Ls xs d 2 264 [some (.inr u)] (.inr u :: st) H := rn_nx rfl rfl
set_option maxRecDepth 20000 in
theorem e_M_init_264 : rn Ls xs d 2 264 [l0]  st H = rn Ls xs d 2 266 [l0] (.inl 120 :: st) H := rn_nx rfl rfl
set_option maxRecDepth 20000 in
theorem e_M_init_266 : rn Ls xs d 2 266 [l0] (.inl x :: st) (S, I, R) = if 0 ≤ x.toInt ∧ x.toInt ≤ 100000 then rn Ls xs d 2 268 [l0] (.inr (.inl (some S.2.1)) :: st) (h_mk (S, I, R) (100 + 0) x.toNatClampNeg) else none := rn_pc rfl rfl
set_option maxRecDepth 20000 in
theorem e_M_init_268 : rn Ls xs d 2 268 [l0] (.inr u :: .inr (.inl (some a)) :: st) (S, I, R) = if h_is S a 9 36 then rn Ls xs d 2 271 [l0] st (S, I, va_up R a (va_up (R a) 32 u)) else none := rn_bc rfl rfl
set_option maxRecDepth 20000 in
theorem e_M_init_271 : rn Ls xs d 2 271 [some (.inr u)] st H = rn Ls xs d 2 272 [some (.inr u)] (.inr u :: st) H := rn_nx rfl rfl
set_option maxRecDepth 20000 in
theorem e_M_init_272 : rn Ls xs d 2 272 [l0]  st H = rn Ls xs d 2 274 [l0] (.inl 24 :: st) H := rn_nx rfl rfl
set_option maxRecDepth 20000 in
theorem e_M_init_274 : rn Ls xs d 2 274 [l0] (.inl x :: st) (S, I, R) = if 0 ≤ x.toInt ∧ x.toInt ≤ 100000 then rn Ls xs d 2 276 [l0] (.inr (.inl (some S.2.1)) :: st) (h_mk (S, I, R) (100 + 0) x.toNatClampNeg) else none := rn_pc rfl rfl
set_option maxRecDepth 20000 in
theorem e_M_init_276 : rn Ls xs d 2 276 [l0] (.inr u :: .inr (.inl (some a)) :: st) (S, I, R) = if h_is S a 9 36 then rn Ls xs d 2 279 [l0] st (S, I, va_up R a (va_up (R a) 33 u)) else none := rn_bc rfl rfl
set_option maxRecDepth 20000 in
theorem e_M_init_279 : rn Ls xs d 2 279 [some (.inr u)] st H = rn Ls xs d 2 280 [some (.inr u)] (.inr u :: st) H := rn_nx rfl rfl
set_option maxRecDepth 20000 in
theorem e_M_init_280 : rn Ls xs d 2 280 [l0]  st H = rn Ls xs d 2 282 [l0] (.inl 60 :: st) H := rn_nx rfl rfl
set_option maxRecDepth 20000 in
theorem e_M_init_282 : rn Ls xs d 2 282 [l0] (.inl x :: st) (S, I, R) = if 0 ≤ x.toInt ∧ x.toInt ≤ 100000 then rn Ls xs d 2 284 [l0] (.inr (.inl (some S.2.1)) :: st) (h_mk (S, I, R) (100 + 0) x.toNatClampNeg) else none := rn_pc rfl rfl
set_option maxRecDepth 20000 in
theorem e_M_init_284 : rn Ls xs d 2 284 [l0] (.inr u :: .inr (.inl (some a)) :: st) (S, I, R) = if h_is S a 9 36 then rn Ls xs d 2 287 [l0] st (S, I, va_up R a (va_up (R a) 34 u)) else none := rn_bc rfl rfl
set_option maxRecDepth 20000 in
theorem e_M_init_287 : rn Ls xs d 2 287 [some (.inr u)] st H = rn Ls xs d 2 288 [some (.inr u)] (.inr u :: st) H := rn_nx rfl rfl
set_option maxRecDepth 20000 in
theorem e_M_init_288 : rn Ls xs d 2 288 [l0] (.inr (.inl (some a)) :: st) (S, I, R) = if h_is S a 9 36 then rn Ls xs d 2 291 [l0] (.inr (R a 0) :: st) (S, I, R) else none := rn_bc rfl rfl
set_option maxRecDepth 20000 in
theorem e_M_init_291 : rn Ls xs d 2 291 [l0]  st H = rn Ls xs d 2 292 [l0] (.inl 0 :: st) H := rn_nx rfl rfl
set_option maxRecDepth 20000 in
theorem e_M_init_292 : rn Ls xs d 2 292 [l0]  st H = rn Ls xs d 2 293 [l0] (.inl 1 :: st) H := rn_nx rfl rfl
set_option maxRecDepth 20000 in
theorem e_M_init_293 : rn Ls xs d 2 293 [l0] (.inl x :: .inl i :: .inr (.inl (some a)) :: st) (S, I, R) = if h_ia S a 0 i then rn Ls xs d 2 294 [l0] st (S, va_up I a (upd (I a) i.toNatClampNeg x), R) else none := rn_bc rfl rfl
set_option maxRecDepth 20000 in
theorem e_M_init_294 : rn Ls xs d 2 294 [l0] [] H = some (none, H) := rn_done rfl rfl
theorem e_W_wreck_0 : rn Ls xs d 3 0 [l0, some (.inl x), l2, l3, l4, l5] st H = rn Ls xs d 3 1 [l0, some (.inl x), l2, l3, l4, l5] (.inl x :: st) H := rn_nx rfl rfl
theorem e_W_wreck_1 : rn Ls xs (d + 1) 3 1 [l0, l1, l2, l3, l4, l5] [v0] H = rb Ls xs (d + 1) 3 4 [l0, l1, l2, l3, l4, l5] [] (rn Ls xs d 93 0 [some v0] [] H) := rn_call rfl (Nat.le_of_ble_eq_true rfl) (Nat.le_of_ble_eq_true rfl) rfl rfl
theorem e_W_wreck_4 : rn Ls xs d 3 4 [l0, l1, l2, l3, l4, l5] (.inl x :: st) H = if x = 0 then rn Ls xs d 3 24 [l0, l1, l2, l3, l4, l5] st H else rn Ls xs d 3 7 [l0, l1, l2, l3, l4, l5] st H := rn_if (p := fun x => x = 0) rfl
theorem e_W_wreck_7 : rn Ls xs d 3 7 [l0, l1, some (.inl x), l3, l4, l5] st H = rn Ls xs d 3 8 [l0, l1, some (.inl x), l3, l4, l5] (.inl x :: st) H := rn_nx rfl rfl
theorem e_W_wreck_8 : rn Ls xs d 3 8 [l0, l1, l2, l3, l4, l5]  st H = rn Ls xs d 3 9 [l0, l1, l2, l3, l4, l5] (.inl 0 :: st) H := rn_nx rfl rfl
theorem e_W_wreck_9 : rn Ls xs d 3 9 [l0, l1, l2, l3, l4, l5]  st H = rn Ls xs d 3 11 [l0, l1, l2, l3, l4, l5] (.inl 7 :: st) H := rn_nx rfl rfl
theorem e_W_wreck_11 : rn Ls xs (d + 1) 3 11 [l0, l1, l2, l3, l4, l5] [v2, v1, v0] H = rb Ls xs (d + 1) 3 14 [l0, l1, l2, l3, l4, l5] [] (rn Ls xs d 94 0 [some v0, some v1, some v2] [] H) := rn_call rfl (Nat.le_of_ble_eq_true rfl) (Nat.le_of_ble_eq_true rfl) rfl rfl
theorem e_W_wreck_14 : rn Ls xs d 3 14 [l0, l1, l2, l3, l4, l5] (.inl x :: st) H = if x = 0 then rn Ls xs d 3 24 [l0, l1, l2, l3, l4, l5] st H else rn Ls xs d 3 17 [l0, l1, l2, l3, l4, l5] st H := rn_if (p := fun x => x = 0) rfl
theorem e_W_wreck_17 : rn Ls xs d 3 17 [l0, l1, l2, some (.inl x), l4, l5] st H = rn Ls xs d 3 18 [l0, l1, l2, some (.inl x), l4, l5] (.inl x :: st) H := rn_nx rfl rfl
theorem e_W_wreck_18 : rn Ls xs (d + 1) 3 18 [l0, l1, l2, l3, l4, l5] [v0] H = rb Ls xs (d + 1) 3 21 [l0, l1, l2, l3, l4, l5] [] (rn Ls xs d 95 0 [some v0] [] H) := rn_call rfl (Nat.le_of_ble_eq_true rfl) (Nat.le_of_ble_eq_true rfl) rfl rfl
theorem e_W_wreck_21 : rn Ls xs d 3 21 [l0, l1, l2, l3, l4, l5] (.inl x :: st) H = if x ≠ 0 then rn Ls xs d 3 27 [l0, l1, l2, l3, l4, l5] st H else rn Ls xs d 3 24 [l0, l1, l2, l3, l4, l5] st H := rn_if (p := fun x => x ≠ 0) rfl
theorem e_W_wreck_24 : rn Ls xs d 3 24 [l0, l1, l2, l3, l4, l5]  st H = rn Ls xs d 3 26 [l0, l1, l2, l3, l4, l5] (.inl (-1000000001) :: st) H := rn_nx rfl rfl
theorem e_W_wreck_26 : rn Ls xs d 3 26 [l0, l1, l2, l3, l4, l5] [.inl x] H = some (some (.inl x), H) := rn_done rfl rfl
theorem e_W_wreck_27 : rn Ls xs d 3 27 [l0, l1, l2, l3, some (.inl x), l5] st H = rn Ls xs d 3 29 [l0, l1, l2, l3, some (.inl x), l5] (.inl x :: st) H := rn_nx rfl rfl
theorem e_W_wreck_29 : rn Ls xs d 3 29 [l0, l1, l2, l3, l4, l5]  st H = rn Ls xs d 3 31 [l0, l1, l2, l3, l4, l5] (.inl (-9) :: st) H := rn_nx rfl rfl
theorem e_W_wreck_31 : rn Ls xs d 3 31 [l0, l1, l2, l3, l4, l5]  st H = rn Ls xs d 3 33 [l0, l1, l2, l3, l4, l5] (.inl 9 :: st) H := rn_nx rfl rfl
theorem e_W_wreck_33 : rn Ls xs (d + 1) 3 33 [l0, l1, l2, l3, l4, l5] [v2, v1, v0] H = rb Ls xs (d + 1) 3 36 [l0, l1, l2, l3, l4, l5] [] (rn Ls xs d 94 0 [some v0, some v1, some v2] [] H) := rn_call rfl (Nat.le_of_ble_eq_true rfl) (Nat.le_of_ble_eq_true rfl) rfl rfl
theorem e_W_wreck_36 : rn Ls xs d 3 36 [l0, l1, l2, l3, l4, l5] (.inl x :: st) H = if x = 0 then rn Ls xs d 3 50 [l0, l1, l2, l3, l4, l5] st H else rn Ls xs d 3 39 [l0, l1, l2, l3, l4, l5] st H := rn_if (p := fun x => x = 0) rfl
theorem e_W_wreck_39 : rn Ls xs d 3 39 [l0, l1, l2, l3, l4, some (.inl x)] st H = rn Ls xs d 3 41 [l0, l1, l2, l3, l4, some (.inl x)] (.inl x :: st) H := rn_nx rfl rfl
theorem e_W_wreck_41 : rn Ls xs d 3 41 [l0, l1, l2, l3, l4, l5]  st H = rn Ls xs d 3 42 [l0, l1, l2, l3, l4, l5] (.inl 1 :: st) H := rn_nx rfl rfl
theorem e_W_wreck_42 : rn Ls xs d 3 42 [l0, l1, l2, l3, l4, l5]  st H = rn Ls xs d 3 44 [l0, l1, l2, l3, l4, l5] (.inl 99 :: st) H := rn_nx rfl rfl
theorem e_W_wreck_44 : rn Ls xs (d + 1) 3 44 [l0, l1, l2, l3, l4, l5] [v2, v1, v0] H = rb Ls xs (d + 1) 3 47 [l0, l1, l2, l3, l4, l5] [] (rn Ls xs d 94 0 [some v0, some v1, some v2] [] H) := rn_call rfl (Nat.le_of_ble_eq_true rfl) (Nat.le_of_ble_eq_true rfl) rfl rfl
theorem e_W_wreck_47 : rn Ls xs d 3 47 [l0, l1, l2, l3, l4, l5] (.inl x :: st) H = if x ≠ 0 then rn Ls xs d 3 53 [l0, l1, l2, l3, l4, l5] st H else rn Ls xs d 3 50 [l0, l1, l2, l3, l4, l5] st H := rn_if (p := fun x => x ≠ 0) rfl
theorem e_W_wreck_50 : rn Ls xs d 3 50 [l0, l1, l2, l3, l4, l5]  st H = rn Ls xs d 3 52 [l0, l1, l2, l3, l4, l5] (.inl (-1000000001) :: st) H := rn_nx rfl rfl
theorem e_W_wreck_52 : rn Ls xs d 3 52 [l0, l1, l2, l3, l4, l5] [.inl x] H = some (some (.inl x), H) := rn_done rfl rfl
theorem e_W_wreck_53 : rn Ls xs d 3 53 [some (.inr u), l1, l2, l3, l4, l5] st H = rn Ls xs d 3 54 [some (.inr u), l1, l2, l3, l4, l5] (.inr u :: st) H := rn_nx rfl rfl
theorem e_W_wreck_54 : rn Ls xs d 3 54 [l0, l1, l2, l3, l4, l5] (.inr (.inl (some a)) :: st) (S, I, R) = if h_is S a 8 10 then rn Ls xs d 3 57 [l0, l1, l2, l3, l4, l5] (.inr (R a 0) :: st) (S, I, R) else none := rn_bc rfl rfl
theorem e_W_wreck_57 : rn Ls xs d 3 57 [l0, some (.inl x), l2, l3, l4, l5] st H = rn Ls xs d 3 58 [l0, some (.inl x), l2, l3, l4, l5] (.inl x :: st) H := rn_nx rfl rfl
theorem e_W_wreck_58 : rn Ls xs d 3 58 [l0, l1, some (.inl x), l3, l4, l5] st H = rn Ls xs d 3 59 [l0, l1, some (.inl x), l3, l4, l5] (.inl x :: st) H := rn_nx rfl rfl
theorem e_W_wreck_59 : rn Ls xs d 3 59 [l0, l1, l2, some (.inl x), l4, l5] st H = rn Ls xs d 3 60 [l0, l1, l2, some (.inl x), l4, l5] (.inl x :: st) H := rn_nx rfl rfl
theorem e_W_wreck_60 : rn Ls xs d 3 60 [l0, l1, l2, l3, some (.inl x), l5] st H = rn Ls xs d 3 62 [l0, l1, l2, l3, some (.inl x), l5] (.inl x :: st) H := rn_nx rfl rfl
theorem e_W_wreck_62 : rn Ls xs d 3 62 [l0, l1, l2, l3, l4, some (.inl x)] st H = rn Ls xs d 3 64 [l0, l1, l2, l3, l4, some (.inl x)] (.inl x :: st) H := rn_nx rfl rfl
theorem e_W_wreck_64 : rn Ls xs (d + 1) 3 64 [l0, l1, l2, l3, l4, l5] [v5, v4, v3, v2, v1, (.inr (.inl (some a)))] (S, I, R) = if h_is S a 3 11 then rb Ls xs (d + 1) 3 67 [l0, l1, l2, l3, l4, l5] [] (rn Ls xs d 96 0 [some (.inr (.inl (some a))), some v1, some v2, some v3, some v4, some v5, none] [] (S, I, R)) else none := rn_callO rfl rfl (Nat.le_of_ble_eq_true rfl) rfl rfl
theorem e_W_wreck_67 : rn Ls xs d 3 67 [l0, l1, l2, l3, l4, l5] (.inl x :: st) H = if x = 0 then rn Ls xs d 3 82 [l0, l1, l2, l3, l4, l5] st H else rn Ls xs d 3 70 [l0, l1, l2, l3, l4, l5] st H := rn_if (p := fun x => x = 0) rfl
theorem e_W_wreck_70 : rn Ls xs d 3 70 [some (.inr u), l1, l2, l3, l4, l5] st H = rn Ls xs d 3 71 [some (.inr u), l1, l2, l3, l4, l5] (.inr u :: st) H := rn_nx rfl rfl
theorem e_W_wreck_71 : rn Ls xs d 3 71 [l0, l1, l2, l3, l4, l5] (.inr (.inl (some a)) :: st) (S, I, R) = if h_is S a 8 10 then rn Ls xs d 3 74 [l0, l1, l2, l3, l4, l5] (.inr (R a 0) :: st) (S, I, R) else none := rn_bc rfl rfl
theorem e_W_wreck_74 : rn Ls xs d 3 74 [l0, l1, l2, l3, l4, l5] (.inr (.inl (some a)) :: st) (S, I, R) = if h_is S a 3 11 then rn Ls xs d 3 77 [l0, l1, l2, l3, l4, l5] (.inl (I a 3) :: st) (S, I, R) else none := rn_bc rfl rfl
theorem e_W_wreck_77 : rn Ls xs d 3 77 [l0, l1, l2, l3, l4, l5]  st H = rn Ls xs d 3 78 [l0, l1, l2, l3, l4, l5] (.inl 1 :: st) H := rn_nx rfl rfl
theorem e_W_wreck_78 : rn Ls xs d 3 78 [l0, l1, l2, l3, l4, l5] (.inl y :: .inl x :: st) H = rn Ls xs d 3 79 [l0, l1, l2, l3, l4, l5] (.inl (x - y) :: st) H := rn_nx rfl rfl
theorem e_W_wreck_79 : rn Ls xs d 3 79 [l0, l1, l2, l3, l4, l5] st H = rn Ls xs d 3 84 [l0, l1, l2, l3, l4, l5] st H := rn_nx rfl rfl
theorem e_W_wreck_82 : rn Ls xs d 3 82 [l0, l1, l2, l3, l4, l5]  st H = rn Ls xs d 3 84 [l0, l1, l2, l3, l4, l5] (.inl (-1000000003) :: st) H := rn_nx rfl rfl
theorem e_W_wreck_84 : rn Ls xs d 3 84 [l0, l1, l2, l3, l4, l5] [.inl x] H = some (some (.inl x), H) := rn_done rfl rfl
theorem e_M_wreck_0 : rn Ls xs d 4 0 [l0, some (.inl x), l2, l3, l4, l5] st H = rn Ls xs d 4 1 [l0, some (.inl x), l2, l3, l4, l5] (.inl x :: st) H := rn_nx rfl rfl
theorem e_M_wreck_1 : rn Ls xs d 4 1 [l0, l1, l2, l3, l4, l5]  st H = rn Ls xs d 4 2 [l0, l1, l2, l3, l4, l5] (.inl 0 :: st) H := rn_nx rfl rfl
theorem e_M_wreck_2 : rn Ls xs d 4 2 [l0, l1, l2, l3, l4, l5]  st H = rn Ls xs d 4 3 [l0, l1, l2, l3, l4, l5] (.inl 5 :: st) H := rn_nx rfl rfl
theorem e_M_wreck_3 : rn Ls xs (d + 1) 4 3 [l0, l1, l2, l3, l4, l5] [v2, v1, v0] H = rb Ls xs (d + 1) 4 6 [l0, l1, l2, l3, l4, l5] [] (rn Ls xs d 97 0 [some v0, some v1, some v2] [] H) := rn_call rfl (Nat.le_of_ble_eq_true rfl) (Nat.le_of_ble_eq_true rfl) rfl rfl
theorem e_M_wreck_6 : rn Ls xs d 4 6 [l0, l1, l2, l3, l4, l5] (.inl x :: st) H = if x = 0 then rn Ls xs d 4 43 [l0, l1, l2, l3, l4, l5] st H else rn Ls xs d 4 9 [l0, l1, l2, l3, l4, l5] st H := rn_if (p := fun x => x = 0) rfl
theorem e_M_wreck_9 : rn Ls xs d 4 9 [l0, l1, l2, l3, l4, l5]  st H = rn Ls xs d 4 10 [l0, l1, l2, l3, l4, l5] (.inl 1 :: st) H := rn_nx rfl rfl
theorem e_M_wreck_10 : rn Ls xs d 4 10 [l0, l1, some (.inl x), l3, l4, l5] st H = rn Ls xs d 4 11 [l0, l1, some (.inl x), l3, l4, l5] (.inl x :: st) H := rn_nx rfl rfl
theorem e_M_wreck_11 : rn Ls xs (d + 1) 4 11 [l0, l1, l2, l3, l4, l5] [v1, v0] H = rb Ls xs (d + 1) 4 14 [l0, l1, l2, l3, l4, l5] [] (rn Ls xs d 98 0 [some v0, some v1] [] H) := rn_call rfl (Nat.le_of_ble_eq_true rfl) (Nat.le_of_ble_eq_true rfl) rfl rfl
theorem e_M_wreck_14 : rn Ls xs d 4 14 [l0, l1, l2, l3, l4, l5] (.inl x :: st) H = if x = 0 then rn Ls xs d 4 43 [l0, l1, l2, l3, l4, l5] st H else rn Ls xs d 4 17 [l0, l1, l2, l3, l4, l5] st H := rn_if (p := fun x => x = 0) rfl
theorem e_M_wreck_17 : rn Ls xs d 4 17 [l0, l1, l2, l3, l4, l5]  st H = rn Ls xs d 4 18 [l0, l1, l2, l3, l4, l5] (.inl 2 :: st) H := rn_nx rfl rfl
theorem e_M_wreck_18 : rn Ls xs d 4 18 [l0, l1, l2, some (.inl x), l4, l5] st H = rn Ls xs d 4 19 [l0, l1, l2, some (.inl x), l4, l5] (.inl x :: st) H := rn_nx rfl rfl
theorem e_M_wreck_19 : rn Ls xs (d + 1) 4 19 [l0, l1, l2, l3, l4, l5] [v1, v0] H = rb Ls xs (d + 1) 4 22 [l0, l1, l2, l3, l4, l5] [] (rn Ls xs d 98 0 [some v0, some v1] [] H) := rn_call rfl (Nat.le_of_ble_eq_true rfl) (Nat.le_of_ble_eq_true rfl) rfl rfl
theorem e_M_wreck_22 : rn Ls xs d 4 22 [l0, l1, l2, l3, l4, l5] (.inl x :: st) H = if x = 0 then rn Ls xs d 4 43 [l0, l1, l2, l3, l4, l5] st H else rn Ls xs d 4 25 [l0, l1, l2, l3, l4, l5] st H := rn_if (p := fun x => x = 0) rfl
theorem e_M_wreck_25 : rn Ls xs d 4 25 [l0, l1, l2, l3, l4, l5]  st H = rn Ls xs d 4 26 [l0, l1, l2, l3, l4, l5] (.inl 3 :: st) H := rn_nx rfl rfl
theorem e_M_wreck_26 : rn Ls xs d 4 26 [l0, l1, l2, l3, some (.inl x), l5] st H = rn Ls xs d 4 28 [l0, l1, l2, l3, some (.inl x), l5] (.inl x :: st) H := rn_nx rfl rfl
theorem e_M_wreck_28 : rn Ls xs (d + 1) 4 28 [l0, l1, l2, l3, l4, l5] [v1, v0] H = rb Ls xs (d + 1) 4 31 [l0, l1, l2, l3, l4, l5] [] (rn Ls xs d 98 0 [some v0, some v1] [] H) := rn_call rfl (Nat.le_of_ble_eq_true rfl) (Nat.le_of_ble_eq_true rfl) rfl rfl
theorem e_M_wreck_31 : rn Ls xs d 4 31 [l0, l1, l2, l3, l4, l5] (.inl x :: st) H = if x = 0 then rn Ls xs d 4 43 [l0, l1, l2, l3, l4, l5] st H else rn Ls xs d 4 34 [l0, l1, l2, l3, l4, l5] st H := rn_if (p := fun x => x = 0) rfl
theorem e_M_wreck_34 : rn Ls xs d 4 34 [l0, l1, l2, l3, l4, l5]  st H = rn Ls xs d 4 35 [l0, l1, l2, l3, l4, l5] (.inl 4 :: st) H := rn_nx rfl rfl
theorem e_M_wreck_35 : rn Ls xs d 4 35 [l0, l1, l2, l3, l4, some (.inl x)] st H = rn Ls xs d 4 37 [l0, l1, l2, l3, l4, some (.inl x)] (.inl x :: st) H := rn_nx rfl rfl
theorem e_M_wreck_37 : rn Ls xs (d + 1) 4 37 [l0, l1, l2, l3, l4, l5] [v1, v0] H = rb Ls xs (d + 1) 4 40 [l0, l1, l2, l3, l4, l5] [] (rn Ls xs d 98 0 [some v0, some v1] [] H) := rn_call rfl (Nat.le_of_ble_eq_true rfl) (Nat.le_of_ble_eq_true rfl) rfl rfl
theorem e_M_wreck_40 : rn Ls xs d 4 40 [l0, l1, l2, l3, l4, l5] (.inl x :: st) H = if x ≠ 0 then rn Ls xs d 4 46 [l0, l1, l2, l3, l4, l5] st H else rn Ls xs d 4 43 [l0, l1, l2, l3, l4, l5] st H := rn_if (p := fun x => x ≠ 0) rfl
theorem e_M_wreck_43 : rn Ls xs d 4 43 [l0, l1, l2, l3, l4, l5]  st H = rn Ls xs d 4 45 [l0, l1, l2, l3, l4, l5] (.inl (-1000000001) :: st) H := rn_nx rfl rfl
theorem e_M_wreck_45 : rn Ls xs d 4 45 [l0, l1, l2, l3, l4, l5] [.inl x] H = some (some (.inl x), H) := rn_done rfl rfl
theorem e_M_wreck_46 : rn Ls xs d 4 46 [some (.inr u), l1, l2, l3, l4, l5] st H = rn Ls xs d 4 47 [some (.inr u), l1, l2, l3, l4, l5] (.inr u :: st) H := rn_nx rfl rfl
theorem e_M_wreck_47 : rn Ls xs d 4 47 [l0, l1, l2, l3, l4, l5] (.inr (.inl (some a)) :: st) (S, I, R) = if h_is S a 9 36 then rn Ls xs d 4 50 [l0, l1, l2, l3, l4, l5] (.inr (R a 0) :: st) (S, I, R) else none := rn_bc rfl rfl
theorem e_M_wreck_50 : rn Ls xs d 4 50 [l0, l1, l2, l3, l4, l5]  st H = rn Ls xs d 4 51 [l0, l1, l2, l3, l4, l5] (.inl 1 :: st) H := rn_nx rfl rfl
theorem e_M_wreck_51 : rn Ls xs d 4 51 [l0, l1, l2, l3, l4, l5] (.inl i :: .inr (.inl (some a)) :: st) (S, I, R) = if h_ia S a 0 i then rn Ls xs d 4 52 [l0, l1, l2, l3, l4, l5] (.inl (I a i.toNatClampNeg) :: st) (S, I, R) else none := rn_bc rfl rfl
theorem e_M_wreck_52 : rn Ls xs d 4 52 [l0, l1, l2, l3, l4, l5]  st H = rn Ls xs d 4 54 [l0, l1, l2, l3, l4, l5] (.inl 14 :: st) H := rn_nx rfl rfl
theorem e_M_wreck_54 : rn Ls xs d 4 54 [l0, l1, l2, l3, l4, l5] (.inl y :: .inl x :: st) H = if x ≠ y then rn Ls xs d 4 62 [l0, l1, l2, l3, l4, l5] st H else rn Ls xs d 4 57 [l0, l1, l2, l3, l4, l5] st H := rn_cmp (p := fun x y => x ≠ y) rfl
theorem e_M_wreck_57 : rn Ls xs d 4 57 [l0, l1, l2, l3, l4, l5]  st H = rn Ls xs d 4 59 [l0, l1, l2, l3, l4, l5] (.inl (-1000000003) :: st) H := rn_nx rfl rfl
theorem e_M_wreck_59 : rn Ls xs d 4 59 [l0, l1, l2, l3, l4, l5] st H = rn Ls xs d 4 73 [l0, l1, l2, l3, l4, l5] st H := rn_nx rfl rfl
theorem e_M_wreck_62 : rn Ls xs d 4 62 [some (.inr u), l1, l2, l3, l4, l5] st H = rn Ls xs d 4 63 [some (.inr u), l1, l2, l3, l4, l5] (.inr u :: st) H := rn_nx rfl rfl
theorem e_M_wreck_63 : rn Ls xs d 4 63 [l0, some (.inl x), l2, l3, l4, l5] st H = rn Ls xs d 4 64 [l0, some (.inl x), l2, l3, l4, l5] (.inl x :: st) H := rn_nx rfl rfl
theorem e_M_wreck_64 : rn Ls xs d 4 64 [l0, l1, some (.inl x), l3, l4, l5] st H = rn Ls xs d 4 65 [l0, l1, some (.inl x), l3, l4, l5] (.inl x :: st) H := rn_nx rfl rfl
theorem e_M_wreck_65 : rn Ls xs d 4 65 [l0, l1, l2, some (.inl x), l4, l5] st H = rn Ls xs d 4 66 [l0, l1, l2, some (.inl x), l4, l5] (.inl x :: st) H := rn_nx rfl rfl
theorem e_M_wreck_66 : rn Ls xs d 4 66 [l0, l1, l2, l3, some (.inl x), l5] st H = rn Ls xs d 4 68 [l0, l1, l2, l3, some (.inl x), l5] (.inl x :: st) H := rn_nx rfl rfl
theorem e_M_wreck_68 : rn Ls xs d 4 68 [l0, l1, l2, l3, l4, some (.inl x)] st H = rn Ls xs d 4 70 [l0, l1, l2, l3, l4, some (.inl x)] (.inl x :: st) H := rn_nx rfl rfl
theorem e_M_wreck_70 : rn Ls xs (d + 1) 4 70 [l0, l1, l2, l3, l4, l5] [v5, v4, v3, v2, v1, (.inr (.inl (some a)))] (S, I, R) = if h_is S a 9 36 then rb Ls xs (d + 1) 4 73 [l0, l1, l2, l3, l4, l5] [] (rn Ls xs d 99 0 [some (.inr (.inl (some a))), some v1, some v2, some v3, some v4, some v5, none] [] (S, I, R)) else none := rn_callO rfl rfl (Nat.le_of_ble_eq_true rfl) rfl rfl
theorem e_M_wreck_73 : rn Ls xs d 4 73 [l0, l1, l2, l3, l4, l5] [.inl x] H = some (some (.inl x), H) := rn_done rfl rfl
theorem e_W_told_0 : rn Ls xs d 5 0 [some (.inr u), l1, l2, l3] st H = rn Ls xs d 5 1 [some (.inr u), l1, l2, l3] (.inr u :: st) H := rn_nx rfl rfl
theorem e_W_told_1 : rn Ls xs d 5 1 [l0, l1, l2, l3] (.inr (.inl (some a)) :: st) (S, I, R) = if h_is S a 8 10 then rn Ls xs d 5 4 [l0, l1, l2, l3] (.inr (R a 0) :: st) (S, I, R) else none := rn_bc rfl rfl
theorem e_W_told_4 : rn Ls xs d 5 4 [l0, some (.inl x), l2, l3] st H = rn Ls xs d 5 5 [l0, some (.inl x), l2, l3] (.inl x :: st) H := rn_nx rfl rfl
theorem e_W_told_5 : rn Ls xs (d + 1) 5 5 [l0, l1, l2, l3] [v1, (.inr (.inl (some a)))] (S, I, R) = if h_is S a 3 11 then rb Ls xs (d + 1) 5 8 [l0, l1, l2, l3] [] (rn Ls xs d 100 0 [some (.inr (.inl (some a))), some v1] [] (S, I, R)) else none := rn_callO rfl rfl (Nat.le_of_ble_eq_true rfl) rfl rfl
theorem e_W_told_8 : rn Ls xs d 5 8 [l0, l1, l2, l3] (.inl x :: st) H = if x ≠ 0 then rn Ls xs d 5 14 [l0, l1, l2, l3] st H else rn Ls xs d 5 11 [l0, l1, l2, l3] st H := rn_if (p := fun x => x ≠ 0) rfl
theorem e_W_told_11 : rn Ls xs d 5 11 [l0, l1, l2, l3]  st H = rn Ls xs d 5 13 [l0, l1, l2, l3] (.inl (-1000000001) :: st) H := rn_nx rfl rfl
theorem e_W_told_13 : rn Ls xs d 5 13 [l0, l1, l2, l3] [.inl x] H = some (some (.inl x), H) := rn_done rfl rfl
theorem e_W_told_14 : rn Ls xs d 5 14 [some (.inr u), l1, l2, l3] st H = rn Ls xs d 5 15 [some (.inr u), l1, l2, l3] (.inr u :: st) H := rn_nx rfl rfl
theorem e_W_told_15 : rn Ls xs d 5 15 [l0, l1, l2, l3] (.inr (.inl (some a)) :: st) (S, I, R) = if h_is S a 8 10 then rn Ls xs d 5 18 [l0, l1, l2, l3] (.inr (R a 0) :: st) (S, I, R) else none := rn_bc rfl rfl
theorem e_W_told_18 : rn Ls xs d 5 18 [l0, l1, l2, l3] (.inr (.inl (some a)) :: st) (S, I, R) = if h_is S a 3 11 then rn Ls xs d 5 21 [l0, l1, l2, l3] (.inr (R a 0) :: st) (S, I, R) else none := rn_bc rfl rfl
theorem e_W_told_21 : rn Ls xs d 5 21 [l0, some (.inl x), l2, l3] st H = rn Ls xs d 5 22 [l0, some (.inl x), l2, l3] (.inl x :: st) H := rn_nx rfl rfl
theorem e_W_told_22 : rn Ls xs d 5 22 [l0, l1, l2, l3] (.inl i :: .inr (.inl (some a)) :: st) (S, I, R) = if h_ia S a 4 i then (match R a i.toNatClampNeg with | .inl o => rn Ls xs d 5 23 [l0, l1, l2, l3] (.inr (.inl o) :: st) (S, I, R) | .inr _ => none) else none := rn_aald rfl
theorem e_W_told_23 : rn Ls xs d 5 23 [l0, l1, l2, l3] (.inr u :: st) H = rn Ls xs d 5 24 [l0, l1, l2, some (.inr u)] st H := rn_nx rfl rfl
theorem e_W_told_24 : rn Ls xs d 5 24 [l0, l1, some (.inl x), l3] st H = rn Ls xs d 5 25 [l0, l1, some (.inl x), l3] (.inl x :: st) H := rn_nx rfl rfl
theorem e_W_told_25 : rn Ls xs d 5 25 [l0, l1, l2, l3] (.inl x :: st) H = if x = 0 then rn Ls xs d 5 76 [l0, l1, l2, l3] st H else if x = 1 then rn Ls xs d 5 81 [l0, l1, l2, l3] st H else if x = 2 then rn Ls xs d 5 86 [l0, l1, l2, l3] st H else if x = 3 then rn Ls xs d 5 91 [l0, l1, l2, l3] st H else if x = 4 then rn Ls xs d 5 96 [l0, l1, l2, l3] st H else if x = 5 then rn Ls xs d 5 101 [l0, l1, l2, l3] st H else if x = 6 then rn Ls xs d 5 114 [l0, l1, l2, l3] st H else if x = 7 then rn Ls xs d 5 123 [l0, l1, l2, l3] st H else if x = 8 then rn Ls xs d 5 135 [l0, l1, l2, l3] st H else rn Ls xs d 5 140 [l0, l1, l2, l3] st H := (rn_nx rfl rfl).trans (rn_tc rfl rfl (rn_tc rfl rfl (rn_tc rfl rfl (rn_tc rfl rfl (rn_tc rfl rfl (rn_tc rfl rfl (rn_tc rfl rfl (rn_tc rfl rfl (rn_tc rfl rfl (rn_tn))))))))))
theorem e_W_told_76 : rn Ls xs d 5 76 [l0, l1, l2, some (.inr u)] st H = rn Ls xs d 5 77 [l0, l1, l2, some (.inr u)] (.inr u :: st) H := rn_nx rfl rfl
theorem e_W_told_77 : rn Ls xs d 5 77 [l0, l1, l2, l3] (.inr (.inl (some a)) :: st) (S, I, R) = if h_is S a 7 6 then rn Ls xs d 5 80 [l0, l1, l2, l3] (.inl (I a 0) :: st) (S, I, R) else none := rn_bc rfl rfl
theorem e_W_told_80 : rn Ls xs d 5 80 [l0, l1, l2, l3] [.inl x] H = some (some (.inl x), H) := rn_done rfl rfl
theorem e_W_told_81 : rn Ls xs d 5 81 [l0, l1, l2, some (.inr u)] st H = rn Ls xs d 5 82 [l0, l1, l2, some (.inr u)] (.inr u :: st) H := rn_nx rfl rfl
theorem e_W_told_82 : rn Ls xs d 5 82 [l0, l1, l2, l3] (.inr (.inl (some a)) :: st) (S, I, R) = if h_is S a 7 6 then rn Ls xs d 5 85 [l0, l1, l2, l3] (.inl (I a 1) :: st) (S, I, R) else none := rn_bc rfl rfl
theorem e_W_told_85 : rn Ls xs d 5 85 [l0, l1, l2, l3] [.inl x] H = some (some (.inl x), H) := rn_done rfl rfl
theorem e_W_told_86 : rn Ls xs d 5 86 [l0, l1, l2, some (.inr u)] st H = rn Ls xs d 5 87 [l0, l1, l2, some (.inr u)] (.inr u :: st) H := rn_nx rfl rfl
theorem e_W_told_87 : rn Ls xs d 5 87 [l0, l1, l2, l3] (.inr (.inl (some a)) :: st) (S, I, R) = if h_is S a 7 6 then rn Ls xs d 5 90 [l0, l1, l2, l3] (.inl (I a 2) :: st) (S, I, R) else none := rn_bc rfl rfl
theorem e_W_told_90 : rn Ls xs d 5 90 [l0, l1, l2, l3] [.inl x] H = some (some (.inl x), H) := rn_done rfl rfl
theorem e_W_told_91 : rn Ls xs d 5 91 [l0, l1, l2, some (.inr u)] st H = rn Ls xs d 5 92 [l0, l1, l2, some (.inr u)] (.inr u :: st) H := rn_nx rfl rfl
theorem e_W_told_92 : rn Ls xs d 5 92 [l0, l1, l2, l3] (.inr (.inl (some a)) :: st) (S, I, R) = if h_is S a 7 6 then rn Ls xs d 5 95 [l0, l1, l2, l3] (.inl (I a 3) :: st) (S, I, R) else none := rn_bc rfl rfl
theorem e_W_told_95 : rn Ls xs d 5 95 [l0, l1, l2, l3] [.inl x] H = some (some (.inl x), H) := rn_done rfl rfl
theorem e_W_told_96 : rn Ls xs d 5 96 [l0, l1, l2, some (.inr u)] st H = rn Ls xs d 5 97 [l0, l1, l2, some (.inr u)] (.inr u :: st) H := rn_nx rfl rfl
theorem e_W_told_97 : rn Ls xs d 5 97 [l0, l1, l2, l3] (.inr (.inl (some a)) :: st) (S, I, R) = if h_is S a 7 6 then rn Ls xs d 5 100 [l0, l1, l2, l3] (.inl (I a 4) :: st) (S, I, R) else none := rn_bc rfl rfl
theorem e_W_told_100 : rn Ls xs d 5 100 [l0, l1, l2, l3] [.inl x] H = some (some (.inl x), H) := rn_done rfl rfl
theorem e_W_told_101 : rn Ls xs d 5 101 [l0, l1, l2, some (.inr u)] st H = rn Ls xs d 5 102 [l0, l1, l2, some (.inr u)] (.inr u :: st) H := rn_nx rfl rfl
theorem e_W_told_102 : rn Ls xs d 5 102 [l0, l1, l2, l3] (.inr (.inl (some a)) :: st) (S, I, R) = if h_is S a 7 6 then rn Ls xs d 5 105 [l0, l1, l2, l3] (.inl (I a 5) :: st) (S, I, R) else none := rn_bc rfl rfl
theorem e_W_told_105 : rn Ls xs d 5 105 [l0, l1, l2, l3] (.inl x :: st) H = if x = 0 then rn Ls xs d 5 112 [l0, l1, l2, l3] st H else rn Ls xs d 5 108 [l0, l1, l2, l3] st H := rn_if (p := fun x => x = 0) rfl
theorem e_W_told_108 : rn Ls xs d 5 108 [l0, l1, l2, l3]  st H = rn Ls xs d 5 109 [l0, l1, l2, l3] (.inl 1 :: st) H := rn_nx rfl rfl
theorem e_W_told_109 : rn Ls xs d 5 109 [l0, l1, l2, l3] st H = rn Ls xs d 5 113 [l0, l1, l2, l3] st H := rn_nx rfl rfl
theorem e_W_told_112 : rn Ls xs d 5 112 [l0, l1, l2, l3]  st H = rn Ls xs d 5 113 [l0, l1, l2, l3] (.inl 0 :: st) H := rn_nx rfl rfl
theorem e_W_told_113 : rn Ls xs d 5 113 [l0, l1, l2, l3] [.inl x] H = some (some (.inl x), H) := rn_done rfl rfl
theorem e_W_told_114 : rn Ls xs d 5 114 [some (.inr u), l1, l2, l3] st H = rn Ls xs d 5 115 [some (.inr u), l1, l2, l3] (.inr u :: st) H := rn_nx rfl rfl
theorem e_W_told_115 : rn Ls xs d 5 115 [l0, l1, l2, l3] (.inr (.inl (some a)) :: st) (S, I, R) = if h_is S a 8 10 then rn Ls xs d 5 118 [l0, l1, l2, l3] (.inr (R a 0) :: st) (S, I, R) else none := rn_bc rfl rfl
theorem e_W_told_118 : rn Ls xs d 5 118 [l0, l1, l2, some (.inr u)] st H = rn Ls xs d 5 119 [l0, l1, l2, some (.inr u)] (.inr u :: st) H := rn_nx rfl rfl
theorem e_W_told_119 : rn Ls xs (d + 1) 5 119 [l0, l1, l2, l3] [v1, (.inr (.inl (some a)))] (S, I, R) = if h_is S a 3 11 then rb Ls xs (d + 1) 5 122 [l0, l1, l2, l3] [] (rn Ls xs d 101 0 [some (.inr (.inl (some a))), some v1, none, none] [] (S, I, R)) else none := rn_callO rfl rfl (Nat.le_of_ble_eq_true rfl) rfl rfl
theorem e_W_told_122 : rn Ls xs d 5 122 [l0, l1, l2, l3] [.inl x] H = some (some (.inl x), H) := rn_done rfl rfl
theorem e_W_told_123 : rn Ls xs d 5 123 [l0, l1, l2, some (.inr u)] st H = rn Ls xs d 5 124 [l0, l1, l2, some (.inr u)] (.inr u :: st) H := rn_nx rfl rfl
theorem e_W_told_124 : rn Ls xs d 5 124 [some (.inr u), l1, l2, l3] st H = rn Ls xs d 5 125 [some (.inr u), l1, l2, l3] (.inr u :: st) H := rn_nx rfl rfl
theorem e_W_told_125 : rn Ls xs d 5 125 [l0, l1, l2, l3] (.inr (.inl (some a)) :: st) (S, I, R) = if h_is S a 8 10 then rn Ls xs d 5 128 [l0, l1, l2, l3] (.inr (R a 0) :: st) (S, I, R) else none := rn_bc rfl rfl
theorem e_W_told_128 : rn Ls xs d 5 128 [l0, l1, l2, l3] (.inr (.inl (some a)) :: st) (S, I, R) = if h_is S a 3 11 then rn Ls xs d 5 131 [l0, l1, l2, l3] (.inl (I a 9) :: st) (S, I, R) else none := rn_bc rfl rfl
theorem e_W_told_131 : rn Ls xs (d + 1) 5 131 [l0, l1, l2, l3] [v1, (.inr (.inl (some a)))] (S, I, R) = if h_is S a 7 6 then rb Ls xs (d + 1) 5 134 [l0, l1, l2, l3] [] (rn Ls xs d 102 0 [some (.inr (.inl (some a))), some v1] [] (S, I, R)) else none := rn_callO rfl rfl (Nat.le_of_ble_eq_true rfl) rfl rfl
theorem e_W_told_134 : rn Ls xs d 5 134 [l0, l1, l2, l3] [.inl x] H = some (some (.inl x), H) := rn_done rfl rfl
theorem e_W_told_135 : rn Ls xs d 5 135 [l0, l1, l2, some (.inr u)] st H = rn Ls xs d 5 136 [l0, l1, l2, some (.inr u)] (.inr u :: st) H := rn_nx rfl rfl
theorem e_W_told_136 : rn Ls xs (d + 1) 5 136 [l0, l1, l2, l3] [(.inr (.inl (some a)))] (S, I, R) = if h_is S a 7 6 then rb Ls xs (d + 1) 5 139 [l0, l1, l2, l3] [] (rn Ls xs d 103 0 [some (.inr (.inl (some a)))] [] (S, I, R)) else none := rn_callO rfl rfl (Nat.le_of_ble_eq_true rfl) rfl rfl
theorem e_W_told_139 : rn Ls xs d 5 139 [l0, l1, l2, l3] [.inl x] H = some (some (.inl x), H) := rn_done rfl rfl
theorem e_W_told_140 : rn Ls xs d 5 140 [l0, l1, l2, l3]  st H = rn Ls xs d 5 142 [l0, l1, l2, l3] (.inl (-1000000001) :: st) H := rn_nx rfl rfl
theorem e_W_told_142 : rn Ls xs d 5 142 [l0, l1, l2, l3] [.inl x] H = some (some (.inl x), H) := rn_done rfl rfl
theorem e_M_told_0 : rn Ls xs d 6 0 [some (.inr u), l1, l2] st H = rn Ls xs d 6 1 [some (.inr u), l1, l2] (.inr u :: st) H := rn_nx rfl rfl
theorem e_M_told_1 : rn Ls xs d 6 1 [l0, some (.inl x), l2] st H = rn Ls xs d 6 2 [l0, some (.inl x), l2] (.inl x :: st) H := rn_nx rfl rfl
theorem e_M_told_2 : rn Ls xs (d + 1) 6 2 [l0, l1, l2] [v1, (.inr (.inl (some a)))] (S, I, R) = if h_is S a 9 36 then rb Ls xs (d + 1) 6 5 [l0, l1, l2] [] (rn Ls xs d 104 0 [some (.inr (.inl (some a))), some v1] [] (S, I, R)) else none := rn_callO rfl rfl (Nat.le_of_ble_eq_true rfl) rfl rfl
theorem e_M_told_5 : rn Ls xs d 6 5 [l0, l1, l2] (.inl x :: st) H = if x ≠ 0 then rn Ls xs d 6 11 [l0, l1, l2] st H else rn Ls xs d 6 8 [l0, l1, l2] st H := rn_if (p := fun x => x ≠ 0) rfl
theorem e_M_told_8 : rn Ls xs d 6 8 [l0, l1, l2]  st H = rn Ls xs d 6 10 [l0, l1, l2] (.inl (-1000000001) :: st) H := rn_nx rfl rfl
theorem e_M_told_10 : rn Ls xs d 6 10 [l0, l1, l2] [.inl x] H = some (some (.inl x), H) := rn_done rfl rfl
theorem e_M_told_11 : rn Ls xs d 6 11 [l0, l1, some (.inl x)] st H = rn Ls xs d 6 12 [l0, l1, some (.inl x)] (.inl x :: st) H := rn_nx rfl rfl
theorem e_M_told_12 : rn Ls xs d 6 12 [l0, l1, l2] (.inl x :: st) H = if x = 0 then rn Ls xs d 6 64 [l0, l1, l2] st H else if x = 1 then rn Ls xs d 6 64 [l0, l1, l2] st H else if x = 2 then rn Ls xs d 6 64 [l0, l1, l2] st H else if x = 3 then rn Ls xs d 6 64 [l0, l1, l2] st H else if x = 4 then rn Ls xs d 6 64 [l0, l1, l2] st H else if x = 5 then rn Ls xs d 6 64 [l0, l1, l2] st H else if x = 6 then rn Ls xs d 6 71 [l0, l1, l2] st H else if x = 7 then rn Ls xs d 6 77 [l0, l1, l2] st H else if x = 8 then rn Ls xs d 6 83 [l0, l1, l2] st H else rn Ls xs d 6 89 [l0, l1, l2] st H := (rn_nx rfl rfl).trans (rn_tc rfl rfl (rn_tc rfl rfl (rn_tc rfl rfl (rn_tc rfl rfl (rn_tc rfl rfl (rn_tc rfl rfl (rn_tc rfl rfl (rn_tc rfl rfl (rn_tc rfl rfl (rn_tn))))))))))
theorem e_M_told_64 : rn Ls xs d 6 64 [some (.inr u), l1, l2] st H = rn Ls xs d 6 65 [some (.inr u), l1, l2] (.inr u :: st) H := rn_nx rfl rfl
theorem e_M_told_65 : rn Ls xs d 6 65 [l0, some (.inl x), l2] st H = rn Ls xs d 6 66 [l0, some (.inl x), l2] (.inl x :: st) H := rn_nx rfl rfl
theorem e_M_told_66 : rn Ls xs d 6 66 [l0, l1, some (.inl x)] st H = rn Ls xs d 6 67 [l0, l1, some (.inl x)] (.inl x :: st) H := rn_nx rfl rfl
theorem e_M_told_67 : rn Ls xs (d + 1) 6 67 [l0, l1, l2] [v2, v1, (.inr (.inl (some a)))] (S, I, R) = if h_is S a 9 36 then rb Ls xs (d + 1) 6 70 [l0, l1, l2] [] (rn Ls xs d 105 0 [some (.inr (.inl (some a))), some v1, some v2] [] (S, I, R)) else none := rn_callO rfl rfl (Nat.le_of_ble_eq_true rfl) rfl rfl
theorem e_M_told_70 : rn Ls xs d 6 70 [l0, l1, l2] [.inl x] H = some (some (.inl x), H) := rn_done rfl rfl
theorem e_M_told_71 : rn Ls xs d 6 71 [some (.inr u), l1, l2] st H = rn Ls xs d 6 72 [some (.inr u), l1, l2] (.inr u :: st) H := rn_nx rfl rfl
theorem e_M_told_72 : rn Ls xs d 6 72 [l0, some (.inl x), l2] st H = rn Ls xs d 6 73 [l0, some (.inl x), l2] (.inl x :: st) H := rn_nx rfl rfl
theorem e_M_told_73 : rn Ls xs (d + 1) 6 73 [l0, l1, l2] [v1, (.inr (.inl (some a)))] (S, I, R) = if h_is S a 9 36 then rb Ls xs (d + 1) 6 76 [l0, l1, l2] [] (rn Ls xs d 106 0 [some (.inr (.inl (some a))), some v1, none, none] [] (S, I, R)) else none := rn_callO rfl rfl (Nat.le_of_ble_eq_true rfl) rfl rfl
theorem e_M_told_76 : rn Ls xs d 6 76 [l0, l1, l2] [.inl x] H = some (some (.inl x), H) := rn_done rfl rfl
theorem e_M_told_77 : rn Ls xs d 6 77 [some (.inr u), l1, l2] st H = rn Ls xs d 6 78 [some (.inr u), l1, l2] (.inr u :: st) H := rn_nx rfl rfl
theorem e_M_told_78 : rn Ls xs d 6 78 [l0, some (.inl x), l2] st H = rn Ls xs d 6 79 [l0, some (.inl x), l2] (.inl x :: st) H := rn_nx rfl rfl
theorem e_M_told_79 : rn Ls xs (d + 1) 6 79 [l0, l1, l2] [v1, (.inr (.inl (some a)))] (S, I, R) = if h_is S a 9 36 then rb Ls xs (d + 1) 6 82 [l0, l1, l2] [] (rn Ls xs d 107 0 [some (.inr (.inl (some a))), some v1, none] [] (S, I, R)) else none := rn_callO rfl rfl (Nat.le_of_ble_eq_true rfl) rfl rfl
theorem e_M_told_82 : rn Ls xs d 6 82 [l0, l1, l2] [.inl x] H = some (some (.inl x), H) := rn_done rfl rfl
theorem e_M_told_83 : rn Ls xs d 6 83 [some (.inr u), l1, l2] st H = rn Ls xs d 6 84 [some (.inr u), l1, l2] (.inr u :: st) H := rn_nx rfl rfl
theorem e_M_told_84 : rn Ls xs d 6 84 [l0, some (.inl x), l2] st H = rn Ls xs d 6 85 [l0, some (.inl x), l2] (.inl x :: st) H := rn_nx rfl rfl
theorem e_M_told_85 : rn Ls xs (d + 1) 6 85 [l0, l1, l2] [v1, (.inr (.inl (some a)))] (S, I, R) = if h_is S a 9 36 then rb Ls xs (d + 1) 6 88 [l0, l1, l2] [] (rn Ls xs d 108 0 [some (.inr (.inl (some a))), some v1, none] [] (S, I, R)) else none := rn_callO rfl rfl (Nat.le_of_ble_eq_true rfl) rfl rfl
theorem e_M_told_88 : rn Ls xs d 6 88 [l0, l1, l2] [.inl x] H = some (some (.inl x), H) := rn_done rfl rfl
theorem e_M_told_89 : rn Ls xs d 6 89 [l0, l1, l2]  st H = rn Ls xs d 6 91 [l0, l1, l2] (.inl (-1000000001) :: st) H := rn_nx rfl rfl
theorem e_M_told_91 : rn Ls xs d 6 91 [l0, l1, l2] [.inl x] H = some (some (.inl x), H) := rn_done rfl rfl
theorem e_W_as_0 : rn Ls xs d 7 0 [some (.inr u), l1, l2, l3] st H = rn Ls xs d 7 1 [some (.inr u), l1, l2, l3] (.inr u :: st) H := rn_nx rfl rfl
theorem e_W_as_1 : rn Ls xs d 7 1 [l0, l1, l2, l3] (.inr (.inl (some a)) :: st) (S, I, R) = if h_is S a 8 10 then rn Ls xs d 7 4 [l0, l1, l2, l3] (.inr (R a 0) :: st) (S, I, R) else none := rn_bc rfl rfl
theorem e_W_as_4 : rn Ls xs d 7 4 [l0, some (.inl x), l2, l3] st H = rn Ls xs d 7 5 [l0, some (.inl x), l2, l3] (.inl x :: st) H := rn_nx rfl rfl
theorem e_W_as_5 : rn Ls xs (d + 1) 7 5 [l0, l1, l2, l3] [v1, (.inr (.inl (some a)))] (S, I, R) = if h_is S a 3 11 then rb Ls xs (d + 1) 7 8 [l0, l1, l2, l3] [] (rn Ls xs d 100 0 [some (.inr (.inl (some a))), some v1] [] (S, I, R)) else none := rn_callO rfl rfl (Nat.le_of_ble_eq_true rfl) rfl rfl
theorem e_W_as_8 : rn Ls xs d 7 8 [l0, l1, l2, l3] (.inl x :: st) H = if x = 0 then rn Ls xs d 7 18 [l0, l1, l2, l3] st H else rn Ls xs d 7 11 [l0, l1, l2, l3] st H := rn_if (p := fun x => x = 0) rfl
theorem e_W_as_11 : rn Ls xs d 7 11 [l0, l1, some (.inl x), l3] st H = rn Ls xs d 7 12 [l0, l1, some (.inl x), l3] (.inl x :: st) H := rn_nx rfl rfl
theorem e_W_as_12 : rn Ls xs (d + 1) 7 12 [l0, l1, l2, l3] [v0] H = rb Ls xs (d + 1) 7 15 [l0, l1, l2, l3] [] (rn Ls xs d 93 0 [some v0] [] H) := rn_call rfl (Nat.le_of_ble_eq_true rfl) (Nat.le_of_ble_eq_true rfl) rfl rfl
theorem e_W_as_15 : rn Ls xs d 7 15 [l0, l1, l2, l3] (.inl x :: st) H = if x ≠ 0 then rn Ls xs d 7 21 [l0, l1, l2, l3] st H else rn Ls xs d 7 18 [l0, l1, l2, l3] st H := rn_if (p := fun x => x ≠ 0) rfl
theorem e_W_as_18 : rn Ls xs d 7 18 [l0, l1, l2, l3]  st H = rn Ls xs d 7 20 [l0, l1, l2, l3] (.inl (-1000000001) :: st) H := rn_nx rfl rfl
theorem e_W_as_20 : rn Ls xs d 7 20 [l0, l1, l2, l3] [.inl x] H = some (some (.inl x), H) := rn_done rfl rfl
theorem e_W_as_21 : rn Ls xs d 7 21 [some (.inr u), l1, l2, l3] st H = rn Ls xs d 7 22 [some (.inr u), l1, l2, l3] (.inr u :: st) H := rn_nx rfl rfl
theorem e_W_as_22 : rn Ls xs d 7 22 [l0, l1, l2, l3] (.inr (.inl (some a)) :: st) (S, I, R) = if h_is S a 8 10 then rn Ls xs d 7 25 [l0, l1, l2, l3] (.inr (R a 0) :: st) (S, I, R) else none := rn_bc rfl rfl
theorem e_W_as_25 : rn Ls xs d 7 25 [l0, l1, l2, l3] (.inr (.inl (some a)) :: st) (S, I, R) = if h_is S a 3 11 then rn Ls xs d 7 28 [l0, l1, l2, l3] (.inr (R a 0) :: st) (S, I, R) else none := rn_bc rfl rfl
theorem e_W_as_28 : rn Ls xs d 7 28 [l0, some (.inl x), l2, l3] st H = rn Ls xs d 7 29 [l0, some (.inl x), l2, l3] (.inl x :: st) H := rn_nx rfl rfl
theorem e_W_as_29 : rn Ls xs d 7 29 [l0, l1, l2, l3] (.inl i :: .inr (.inl (some a)) :: st) (S, I, R) = if h_ia S a 4 i then (match R a i.toNatClampNeg with | .inl o => rn Ls xs d 7 30 [l0, l1, l2, l3] (.inr (.inl o) :: st) (S, I, R) | .inr _ => none) else none := rn_aald rfl
theorem e_W_as_30 : rn Ls xs d 7 30 [l0, l1, l2, l3] (.inr u :: st) H = rn Ls xs d 7 31 [l0, l1, l2, some (.inr u)] st H := rn_nx rfl rfl
theorem e_W_as_31 : rn Ls xs d 7 31 [l0, l1, l2, some (.inr u)] st H = rn Ls xs d 7 32 [l0, l1, l2, some (.inr u)] (.inr u :: st) H := rn_nx rfl rfl
theorem e_W_as_32 : rn Ls xs d 7 32 [l0, l1, some (.inl x), l3] st H = rn Ls xs d 7 33 [l0, l1, some (.inl x), l3] (.inl x :: st) H := rn_nx rfl rfl
theorem e_W_as_33 : rn Ls xs (d + 1) 7 33 [l0, l1, l2, l3] [v1, (.inr (.inl (some a)))] (S, I, R) = if h_is S a 7 6 then rb Ls xs (d + 1) 7 36 [l0, l1, l2, l3] [] (rn Ls xs d 109 0 [some (.inr (.inl (some a))), some v1, none, none] [] (S, I, R)) else none := rn_callO rfl rfl (Nat.le_of_ble_eq_true rfl) rfl rfl
theorem e_W_as_36 : rn Ls xs d 7 36 [l0, l1, l2, l3] (.inl x :: st) H = if x = 0 then rn Ls xs d 7 46 [l0, l1, l2, l3] st H else rn Ls xs d 7 39 [l0, l1, l2, l3] st H := rn_if (p := fun x => x = 0) rfl
theorem e_W_as_39 : rn Ls xs d 7 39 [l0, l1, l2, some (.inr u)] st H = rn Ls xs d 7 40 [l0, l1, l2, some (.inr u)] (.inr u :: st) H := rn_nx rfl rfl
theorem e_W_as_40 : rn Ls xs d 7 40 [l0, l1, l2, l3] (.inr (.inl (some a)) :: st) (S, I, R) = if h_is S a 7 6 then rn Ls xs d 7 43 [l0, l1, l2, l3] (.inl (I a 4) :: st) (S, I, R) else none := rn_bc rfl rfl
theorem e_W_as_43 : rn Ls xs d 7 43 [l0, l1, l2, l3] st H = rn Ls xs d 7 48 [l0, l1, l2, l3] st H := rn_nx rfl rfl
theorem e_W_as_46 : rn Ls xs d 7 46 [l0, l1, l2, l3]  st H = rn Ls xs d 7 48 [l0, l1, l2, l3] (.inl (-1000000012) :: st) H := rn_nx rfl rfl
theorem e_W_as_48 : rn Ls xs d 7 48 [l0, l1, l2, l3] [.inl x] H = some (some (.inl x), H) := rn_done rfl rfl
theorem e_M_as_0 : rn Ls xs d 8 0 [some (.inr u), l1, l2] st H = rn Ls xs d 8 1 [some (.inr u), l1, l2] (.inr u :: st) H := rn_nx rfl rfl
theorem e_M_as_1 : rn Ls xs d 8 1 [l0, some (.inl x), l2] st H = rn Ls xs d 8 2 [l0, some (.inl x), l2] (.inl x :: st) H := rn_nx rfl rfl
theorem e_M_as_2 : rn Ls xs (d + 1) 8 2 [l0, l1, l2] [v1, (.inr (.inl (some a)))] (S, I, R) = if h_is S a 9 36 then rb Ls xs (d + 1) 8 5 [l0, l1, l2] [] (rn Ls xs d 104 0 [some (.inr (.inl (some a))), some v1] [] (S, I, R)) else none := rn_callO rfl rfl (Nat.le_of_ble_eq_true rfl) rfl rfl
theorem e_M_as_5 : rn Ls xs d 8 5 [l0, l1, l2] (.inl x :: st) H = if x = 0 then rn Ls xs d 8 17 [l0, l1, l2] st H else rn Ls xs d 8 8 [l0, l1, l2] st H := rn_if (p := fun x => x = 0) rfl
theorem e_M_as_8 : rn Ls xs d 8 8 [l0, l1, some (.inl x)] st H = rn Ls xs d 8 9 [l0, l1, some (.inl x)] (.inl x :: st) H := rn_nx rfl rfl
theorem e_M_as_9 : rn Ls xs d 8 9 [l0, l1, l2]  st H = rn Ls xs d 8 10 [l0, l1, l2] (.inl 0 :: st) H := rn_nx rfl rfl
theorem e_M_as_10 : rn Ls xs d 8 10 [l0, l1, l2]  st H = rn Ls xs d 8 11 [l0, l1, l2] (.inl 5 :: st) H := rn_nx rfl rfl
theorem e_M_as_11 : rn Ls xs (d + 1) 8 11 [l0, l1, l2] [v2, v1, v0] H = rb Ls xs (d + 1) 8 14 [l0, l1, l2] [] (rn Ls xs d 97 0 [some v0, some v1, some v2] [] H) := rn_call rfl (Nat.le_of_ble_eq_true rfl) (Nat.le_of_ble_eq_true rfl) rfl rfl
theorem e_M_as_14 : rn Ls xs d 8 14 [l0, l1, l2] (.inl x :: st) H = if x ≠ 0 then rn Ls xs d 8 20 [l0, l1, l2] st H else rn Ls xs d 8 17 [l0, l1, l2] st H := rn_if (p := fun x => x ≠ 0) rfl
theorem e_M_as_17 : rn Ls xs d 8 17 [l0, l1, l2]  st H = rn Ls xs d 8 19 [l0, l1, l2] (.inl (-1000000001) :: st) H := rn_nx rfl rfl
theorem e_M_as_19 : rn Ls xs d 8 19 [l0, l1, l2] [.inl x] H = some (some (.inl x), H) := rn_done rfl rfl
theorem e_M_as_20 : rn Ls xs d 8 20 [some (.inr u), l1, l2] st H = rn Ls xs d 8 21 [some (.inr u), l1, l2] (.inr u :: st) H := rn_nx rfl rfl
theorem e_M_as_21 : rn Ls xs d 8 21 [l0, some (.inl x), l2] st H = rn Ls xs d 8 22 [l0, some (.inl x), l2] (.inl x :: st) H := rn_nx rfl rfl
theorem e_M_as_22 : rn Ls xs d 8 22 [l0, l1, l2]  st H = rn Ls xs d 8 23 [l0, l1, l2] (.inl 0 :: st) H := rn_nx rfl rfl
theorem e_M_as_23 : rn Ls xs (d + 1) 8 23 [l0, l1, l2] [v2, v1, (.inr (.inl (some a)))] (S, I, R) = if h_is S a 9 36 then rb Ls xs (d + 1) 8 26 [l0, l1, l2] [] (rn Ls xs d 105 0 [some (.inr (.inl (some a))), some v1, some v2] [] (S, I, R)) else none := rn_callO rfl rfl (Nat.le_of_ble_eq_true rfl) rfl rfl
theorem e_M_as_26 : rn Ls xs d 8 26 [l0, l1, some (.inl x)] st H = rn Ls xs d 8 27 [l0, l1, some (.inl x)] (.inl x :: st) H := rn_nx rfl rfl
theorem e_M_as_27 : rn Ls xs (d + 1) 8 27 [l0, l1, l2] [v1, v0] H = rb Ls xs (d + 1) 8 30 [l0, l1, l2] [] (rn Ls xs d 110 0 [some v0, some v1] [] H) := rn_call rfl (Nat.le_of_ble_eq_true rfl) (Nat.le_of_ble_eq_true rfl) rfl rfl
theorem e_M_as_30 : rn Ls xs d 8 30 [l0, l1, l2] (.inl x :: st) H = if x = 0 then rn Ls xs d 8 42 [l0, l1, l2] st H else rn Ls xs d 8 33 [l0, l1, l2] st H := rn_if (p := fun x => x = 0) rfl
theorem e_M_as_33 : rn Ls xs d 8 33 [some (.inr u), l1, l2] st H = rn Ls xs d 8 34 [some (.inr u), l1, l2] (.inr u :: st) H := rn_nx rfl rfl
theorem e_M_as_34 : rn Ls xs d 8 34 [l0, some (.inl x), l2] st H = rn Ls xs d 8 35 [l0, some (.inl x), l2] (.inl x :: st) H := rn_nx rfl rfl
theorem e_M_as_35 : rn Ls xs d 8 35 [l0, l1, l2]  st H = rn Ls xs d 8 36 [l0, l1, l2] (.inl 4 :: st) H := rn_nx rfl rfl
theorem e_M_as_36 : rn Ls xs (d + 1) 8 36 [l0, l1, l2] [v2, v1, (.inr (.inl (some a)))] (S, I, R) = if h_is S a 9 36 then rb Ls xs (d + 1) 8 39 [l0, l1, l2] [] (rn Ls xs d 105 0 [some (.inr (.inl (some a))), some v1, some v2] [] (S, I, R)) else none := rn_callO rfl rfl (Nat.le_of_ble_eq_true rfl) rfl rfl
theorem e_M_as_39 : rn Ls xs d 8 39 [l0, l1, l2] st H = rn Ls xs d 8 44 [l0, l1, l2] st H := rn_nx rfl rfl
theorem e_M_as_42 : rn Ls xs d 8 42 [l0, l1, l2]  st H = rn Ls xs d 8 44 [l0, l1, l2] (.inl (-1000000012) :: st) H := rn_nx rfl rfl
theorem e_M_as_44 : rn Ls xs d 8 44 [l0, l1, l2] [.inl x] H = some (some (.inl x), H) := rn_done rfl rfl
theorem e_W_turns_0 : rn Ls xs d 9 0 [some (.inr u), l1, l2, l3, l4] st H = rn Ls xs d 9 1 [some (.inr u), l1, l2, l3, l4] (.inr u :: st) H := rn_nx rfl rfl
theorem e_W_turns_1 : rn Ls xs d 9 1 [l0, l1, l2, l3, l4] (.inr (.inl (some a)) :: st) (S, I, R) = if h_is S a 8 10 then rn Ls xs d 9 4 [l0, l1, l2, l3, l4] (.inr (R a 0) :: st) (S, I, R) else none := rn_bc rfl rfl
theorem e_W_turns_4 : rn Ls xs d 9 4 [l0, some (.inl x), l2, l3, l4] st H = rn Ls xs d 9 5 [l0, some (.inl x), l2, l3, l4] (.inl x :: st) H := rn_nx rfl rfl
theorem e_W_turns_5 : rn Ls xs (d + 1) 9 5 [l0, l1, l2, l3, l4] [v1, (.inr (.inl (some a)))] (S, I, R) = if h_is S a 3 11 then rb Ls xs (d + 1) 9 8 [l0, l1, l2, l3, l4] [] (rn Ls xs d 100 0 [some (.inr (.inl (some a))), some v1] [] (S, I, R)) else none := rn_callO rfl rfl (Nat.le_of_ble_eq_true rfl) rfl rfl
theorem e_W_turns_8 : rn Ls xs d 9 8 [l0, l1, l2, l3, l4] (.inl x :: st) H = if x = 0 then rn Ls xs d 9 18 [l0, l1, l2, l3, l4] st H else rn Ls xs d 9 11 [l0, l1, l2, l3, l4] st H := rn_if (p := fun x => x = 0) rfl
theorem e_W_turns_11 : rn Ls xs d 9 11 [l0, l1, some (.inl x), l3, l4] st H = rn Ls xs d 9 12 [l0, l1, some (.inl x), l3, l4] (.inl x :: st) H := rn_nx rfl rfl
theorem e_W_turns_12 : rn Ls xs (d + 1) 9 12 [l0, l1, l2, l3, l4] [v0] H = rb Ls xs (d + 1) 9 15 [l0, l1, l2, l3, l4] [] (rn Ls xs d 93 0 [some v0] [] H) := rn_call rfl (Nat.le_of_ble_eq_true rfl) (Nat.le_of_ble_eq_true rfl) rfl rfl
theorem e_W_turns_15 : rn Ls xs d 9 15 [l0, l1, l2, l3, l4] (.inl x :: st) H = if x ≠ 0 then rn Ls xs d 9 21 [l0, l1, l2, l3, l4] st H else rn Ls xs d 9 18 [l0, l1, l2, l3, l4] st H := rn_if (p := fun x => x ≠ 0) rfl
theorem e_W_turns_18 : rn Ls xs d 9 18 [l0, l1, l2, l3, l4]  st H = rn Ls xs d 9 20 [l0, l1, l2, l3, l4] (.inl (-1000000001) :: st) H := rn_nx rfl rfl
theorem e_W_turns_20 : rn Ls xs d 9 20 [l0, l1, l2, l3, l4] [.inl x] H = some (some (.inl x), H) := rn_done rfl rfl
theorem e_W_turns_21 : rn Ls xs d 9 21 [some (.inr u), l1, l2, l3, l4] st H = rn Ls xs d 9 22 [some (.inr u), l1, l2, l3, l4] (.inr u :: st) H := rn_nx rfl rfl
theorem e_W_turns_22 : rn Ls xs d 9 22 [l0, l1, l2, l3, l4] (.inr (.inl (some a)) :: st) (S, I, R) = if h_is S a 8 10 then rn Ls xs d 9 25 [l0, l1, l2, l3, l4] (.inr (R a 0) :: st) (S, I, R) else none := rn_bc rfl rfl
theorem e_W_turns_25 : rn Ls xs d 9 25 [l0, l1, l2, l3, l4] (.inr (.inl (some a)) :: st) (S, I, R) = if h_is S a 3 11 then rn Ls xs d 9 28 [l0, l1, l2, l3, l4] (.inr (R a 0) :: st) (S, I, R) else none := rn_bc rfl rfl
theorem e_W_turns_28 : rn Ls xs d 9 28 [l0, some (.inl x), l2, l3, l4] st H = rn Ls xs d 9 29 [l0, some (.inl x), l2, l3, l4] (.inl x :: st) H := rn_nx rfl rfl
theorem e_W_turns_29 : rn Ls xs d 9 29 [l0, l1, l2, l3, l4] (.inl i :: .inr (.inl (some a)) :: st) (S, I, R) = if h_ia S a 4 i then (match R a i.toNatClampNeg with | .inl o => rn Ls xs d 9 30 [l0, l1, l2, l3, l4] (.inr (.inl o) :: st) (S, I, R) | .inr _ => none) else none := rn_aald rfl
theorem e_W_turns_30 : rn Ls xs d 9 30 [l0, l1, l2, l3, l4] (.inr u :: st) H = rn Ls xs d 9 31 [l0, l1, l2, some (.inr u), l4] st H := rn_nx rfl rfl
theorem e_W_turns_31 : rn Ls xs d 9 31 [l0, l1, l2, some (.inr u), l4] st H = rn Ls xs d 9 32 [l0, l1, l2, some (.inr u), l4] (.inr u :: st) H := rn_nx rfl rfl
theorem e_W_turns_32 : rn Ls xs d 9 32 [l0, l1, l2, l3, l4] (.inr (.inl (some a)) :: st) (S, I, R) = if h_is S a 7 6 then rn Ls xs d 9 35 [l0, l1, l2, l3, l4] (.inl (I a 0) :: st) (S, I, R) else none := rn_bc rfl rfl
theorem e_W_turns_35 : rn Ls xs d 9 35 [l0, l1, l2, l3, l4] (.inl x :: st) H = rn Ls xs d 9 37 [l0, l1, l2, l3, some (.inl x)] st H := rn_nx rfl rfl
theorem e_W_turns_37 : rn Ls xs d 9 37 [l0, l1, l2, some (.inr u), l4] st H = rn Ls xs d 9 38 [l0, l1, l2, some (.inr u), l4] (.inr u :: st) H := rn_nx rfl rfl
theorem e_W_turns_38 : rn Ls xs d 9 38 [l0, l1, some (.inl x), l3, l4] st H = rn Ls xs d 9 39 [l0, l1, some (.inl x), l3, l4] (.inl x :: st) H := rn_nx rfl rfl
theorem e_W_turns_39 : rn Ls xs d 9 39 [l0, l1, l2, l3, l4] (.inl x :: .inr (.inl (some a)) :: st) (S, I, R) = if h_is S a 7 6 then rn Ls xs d 9 42 [l0, l1, l2, l3, l4] st (S, va_up I a (upd (I a) 0 x), R) else none := rn_bc rfl rfl
theorem e_W_turns_42 : rn Ls xs d 9 42 [l0, l1, l2, l3, some (.inl x)] st H = rn Ls xs d 9 44 [l0, l1, l2, l3, some (.inl x)] (.inl x :: st) H := rn_nx rfl rfl
theorem e_W_turns_44 : rn Ls xs d 9 44 [l0, l1, l2, l3, l4] [.inl x] H = some (some (.inl x), H) := rn_done rfl rfl
theorem e_M_turns_0 : rn Ls xs d 10 0 [some (.inr u), l1, l2] st H = rn Ls xs d 10 1 [some (.inr u), l1, l2] (.inr u :: st) H := rn_nx rfl rfl
theorem e_M_turns_1 : rn Ls xs d 10 1 [l0, some (.inl x), l2] st H = rn Ls xs d 10 2 [l0, some (.inl x), l2] (.inl x :: st) H := rn_nx rfl rfl
theorem e_M_turns_2 : rn Ls xs (d + 1) 10 2 [l0, l1, l2] [v1, (.inr (.inl (some a)))] (S, I, R) = if h_is S a 9 36 then rb Ls xs (d + 1) 10 5 [l0, l1, l2] [] (rn Ls xs d 104 0 [some (.inr (.inl (some a))), some v1] [] (S, I, R)) else none := rn_callO rfl rfl (Nat.le_of_ble_eq_true rfl) rfl rfl
theorem e_M_turns_5 : rn Ls xs d 10 5 [l0, l1, l2] (.inl x :: st) H = if x = 0 then rn Ls xs d 10 32 [l0, l1, l2] st H else rn Ls xs d 10 8 [l0, l1, l2] st H := rn_if (p := fun x => x = 0) rfl
theorem e_M_turns_8 : rn Ls xs d 10 8 [l0, l1, some (.inl x)] st H = rn Ls xs d 10 9 [l0, l1, some (.inl x)] (.inl x :: st) H := rn_nx rfl rfl
theorem e_M_turns_9 : rn Ls xs d 10 9 [l0, l1, l2]  st H = rn Ls xs d 10 10 [l0, l1, l2] (.inl 0 :: st) H := rn_nx rfl rfl
theorem e_M_turns_10 : rn Ls xs d 10 10 [l0, l1, l2]  st H = rn Ls xs d 10 11 [l0, l1, l2] (.inl 5 :: st) H := rn_nx rfl rfl
theorem e_M_turns_11 : rn Ls xs (d + 1) 10 11 [l0, l1, l2] [v2, v1, v0] H = rb Ls xs (d + 1) 10 14 [l0, l1, l2] [] (rn Ls xs d 97 0 [some v0, some v1, some v2] [] H) := rn_call rfl (Nat.le_of_ble_eq_true rfl) (Nat.le_of_ble_eq_true rfl) rfl rfl
theorem e_M_turns_14 : rn Ls xs d 10 14 [l0, l1, l2] (.inl x :: st) H = if x = 0 then rn Ls xs d 10 32 [l0, l1, l2] st H else rn Ls xs d 10 17 [l0, l1, l2] st H := rn_if (p := fun x => x = 0) rfl
theorem e_M_turns_17 : rn Ls xs d 10 17 [some (.inr u), l1, l2] st H = rn Ls xs d 10 18 [some (.inr u), l1, l2] (.inr u :: st) H := rn_nx rfl rfl
theorem e_M_turns_18 : rn Ls xs d 10 18 [l0, l1, l2]  st H = rn Ls xs d 10 20 [l0, l1, l2] (.inl 8 :: st) H := rn_nx rfl rfl
theorem e_M_turns_20 : rn Ls xs d 10 20 [l0, l1, l2]  st H = rn Ls xs d 10 22 [l0, l1, l2] (.inl 6 :: st) H := rn_nx rfl rfl
theorem e_M_turns_22 : rn Ls xs d 10 22 [l0, some (.inl x), l2] st H = rn Ls xs d 10 23 [l0, some (.inl x), l2] (.inl x :: st) H := rn_nx rfl rfl
theorem e_M_turns_23 : rn Ls xs d 10 23 [l0, l1, l2] (.inl y :: .inl x :: st) H = rn Ls xs d 10 24 [l0, l1, l2] (.inl (x * y) :: st) H := rn_nx rfl rfl
theorem e_M_turns_24 : rn Ls xs d 10 24 [l0, l1, l2] (.inl y :: .inl x :: st) H = rn Ls xs d 10 25 [l0, l1, l2] (.inl (x + y) :: st) H := rn_nx rfl rfl
theorem e_M_turns_25 : rn Ls xs d 10 25 [l0, l1, some (.inl x)] st H = rn Ls xs d 10 26 [l0, l1, some (.inl x)] (.inl x :: st) H := rn_nx rfl rfl
theorem e_M_turns_26 : rn Ls xs (d + 1) 10 26 [l0, l1, l2] [v2, v1, (.inr (.inl (some a)))] (S, I, R) = if h_is S a 9 36 then rb Ls xs (d + 1) 10 29 [l0, l1, l2] [] (rn Ls xs d 111 0 [some (.inr (.inl (some a))), some v1, some v2, none] [] (S, I, R)) else none := rn_callO rfl rfl (Nat.le_of_ble_eq_true rfl) rfl rfl
theorem e_M_turns_29 : rn Ls xs d 10 29 [l0, l1, l2] st H = rn Ls xs d 10 34 [l0, l1, l2] st H := rn_nx rfl rfl
theorem e_M_turns_32 : rn Ls xs d 10 32 [l0, l1, l2]  st H = rn Ls xs d 10 34 [l0, l1, l2] (.inl (-1000000001) :: st) H := rn_nx rfl rfl
theorem e_M_turns_34 : rn Ls xs d 10 34 [l0, l1, l2] [.inl x] H = some (some (.inl x), H) := rn_done rfl rfl
theorem e_W_set_0 : rn Ls xs d 11 0 [some (.inr u), l1, l2, l3, l4, l5] st H = rn Ls xs d 11 1 [some (.inr u), l1, l2, l3, l4, l5] (.inr u :: st) H := rn_nx rfl rfl
theorem e_W_set_1 : rn Ls xs d 11 1 [l0, l1, l2, l3, l4, l5] (.inr (.inl (some a)) :: st) (S, I, R) = if h_is S a 8 10 then rn Ls xs d 11 4 [l0, l1, l2, l3, l4, l5] (.inr (R a 0) :: st) (S, I, R) else none := rn_bc rfl rfl
theorem e_W_set_4 : rn Ls xs d 11 4 [l0, some (.inl x), l2, l3, l4, l5] st H = rn Ls xs d 11 5 [l0, some (.inl x), l2, l3, l4, l5] (.inl x :: st) H := rn_nx rfl rfl
theorem e_W_set_5 : rn Ls xs (d + 1) 11 5 [l0, l1, l2, l3, l4, l5] [v1, (.inr (.inl (some a)))] (S, I, R) = if h_is S a 3 11 then rb Ls xs (d + 1) 11 8 [l0, l1, l2, l3, l4, l5] [] (rn Ls xs d 100 0 [some (.inr (.inl (some a))), some v1] [] (S, I, R)) else none := rn_callO rfl rfl (Nat.le_of_ble_eq_true rfl) rfl rfl
theorem e_W_set_8 : rn Ls xs d 11 8 [l0, l1, l2, l3, l4, l5] (.inl x :: st) H = if x = 0 then rn Ls xs d 11 19 [l0, l1, l2, l3, l4, l5] st H else rn Ls xs d 11 11 [l0, l1, l2, l3, l4, l5] st H := rn_if (p := fun x => x = 0) rfl
theorem e_W_set_11 : rn Ls xs d 11 11 [l0, l1, some (.inl x), l3, l4, l5] st H = rn Ls xs d 11 12 [l0, l1, some (.inl x), l3, l4, l5] (.inl x :: st) H := rn_nx rfl rfl
theorem e_W_set_12 : rn Ls xs d 11 12 [l0, l1, l2, some (.inl x), l4, l5] st H = rn Ls xs d 11 13 [l0, l1, l2, some (.inl x), l4, l5] (.inl x :: st) H := rn_nx rfl rfl
theorem e_W_set_13 : rn Ls xs (d + 1) 11 13 [l0, l1, l2, l3, l4, l5] [v1, v0] H = rb Ls xs (d + 1) 11 16 [l0, l1, l2, l3, l4, l5] [] (rn Ls xs d 112 0 [some v0, some v1] [] H) := rn_call rfl (Nat.le_of_ble_eq_true rfl) (Nat.le_of_ble_eq_true rfl) rfl rfl
theorem e_W_set_16 : rn Ls xs d 11 16 [l0, l1, l2, l3, l4, l5] (.inl x :: st) H = if x ≠ 0 then rn Ls xs d 11 22 [l0, l1, l2, l3, l4, l5] st H else rn Ls xs d 11 19 [l0, l1, l2, l3, l4, l5] st H := rn_if (p := fun x => x ≠ 0) rfl
theorem e_W_set_19 : rn Ls xs d 11 19 [l0, l1, l2, l3, l4, l5]  st H = rn Ls xs d 11 21 [l0, l1, l2, l3, l4, l5] (.inl (-1000000001) :: st) H := rn_nx rfl rfl
theorem e_W_set_21 : rn Ls xs d 11 21 [l0, l1, l2, l3, l4, l5] [.inl x] H = some (some (.inl x), H) := rn_done rfl rfl
theorem e_W_set_22 : rn Ls xs d 11 22 [some (.inr u), l1, l2, l3, l4, l5] st H = rn Ls xs d 11 23 [some (.inr u), l1, l2, l3, l4, l5] (.inr u :: st) H := rn_nx rfl rfl
theorem e_W_set_23 : rn Ls xs d 11 23 [l0, some (.inl x), l2, l3, l4, l5] st H = rn Ls xs d 11 24 [l0, some (.inl x), l2, l3, l4, l5] (.inl x :: st) H := rn_nx rfl rfl
theorem e_W_set_24 : rn Ls xs d 11 24 [l0, l1, some (.inl x), l3, l4, l5] st H = rn Ls xs d 11 25 [l0, l1, some (.inl x), l3, l4, l5] (.inl x :: st) H := rn_nx rfl rfl
theorem e_W_set_25 : rn Ls xs (d + 1) 11 25 [l0, l1, l2, l3, l4, l5] [v2, v1, (.inr (.inl (some a)))] (S, I, R) = if h_is S a 8 10 then rb Ls xs (d + 1) 11 28 [l0, l1, l2, l3, l4, l5] [] (rn Ls xs d 5 0 [some (.inr (.inl (some a))), some v1, some v2, none] [] (S, I, R)) else none := rn_callO rfl rfl (Nat.le_of_ble_eq_true rfl) rfl rfl
theorem e_W_set_28 : rn Ls xs d 11 28 [l0, l1, l2, l3, l4, l5] (.inl x :: st) H = rn Ls xs d 11 30 [l0, l1, l2, l3, some (.inl x), l5] st H := rn_nx rfl rfl
theorem e_W_set_30 : rn Ls xs d 11 30 [some (.inr u), l1, l2, l3, l4, l5] st H = rn Ls xs d 11 31 [some (.inr u), l1, l2, l3, l4, l5] (.inr u :: st) H := rn_nx rfl rfl
theorem e_W_set_31 : rn Ls xs d 11 31 [l0, l1, l2, l3, l4, l5] (.inr (.inl (some a)) :: st) (S, I, R) = if h_is S a 8 10 then rn Ls xs d 11 34 [l0, l1, l2, l3, l4, l5] (.inr (R a 0) :: st) (S, I, R) else none := rn_bc rfl rfl
theorem e_W_set_34 : rn Ls xs d 11 34 [l0, l1, l2, l3, l4, l5] (.inr (.inl (some a)) :: st) (S, I, R) = if h_is S a 3 11 then rn Ls xs d 11 37 [l0, l1, l2, l3, l4, l5] (.inr (R a 0) :: st) (S, I, R) else none := rn_bc rfl rfl
theorem e_W_set_37 : rn Ls xs d 11 37 [l0, some (.inl x), l2, l3, l4, l5] st H = rn Ls xs d 11 38 [l0, some (.inl x), l2, l3, l4, l5] (.inl x :: st) H := rn_nx rfl rfl
theorem e_W_set_38 : rn Ls xs d 11 38 [l0, l1, l2, l3, l4, l5] (.inl i :: .inr (.inl (some a)) :: st) (S, I, R) = if h_ia S a 4 i then (match R a i.toNatClampNeg with | .inl o => rn Ls xs d 11 39 [l0, l1, l2, l3, l4, l5] (.inr (.inl o) :: st) (S, I, R) | .inr _ => none) else none := rn_aald rfl
theorem e_W_set_39 : rn Ls xs d 11 39 [l0, l1, l2, l3, l4, l5] (.inr u :: st) H = rn Ls xs d 11 41 [l0, l1, l2, l3, l4, some (.inr u)] st H := rn_nx rfl rfl
theorem e_W_set_41 : rn Ls xs d 11 41 [l0, l1, some (.inl x), l3, l4, l5] st H = rn Ls xs d 11 42 [l0, l1, some (.inl x), l3, l4, l5] (.inl x :: st) H := rn_nx rfl rfl
theorem e_W_set_42 : rn Ls xs d 11 42 [l0, l1, l2, l3, l4, l5] (.inl x :: st) H = if x = 1 then rn Ls xs d 11 72 [l0, l1, l2, l3, l4, l5] st H else if x = 2 then rn Ls xs d 11 81 [l0, l1, l2, l3, l4, l5] st H else if x = 3 then rn Ls xs d 11 90 [l0, l1, l2, l3, l4, l5] st H else if x = 4 then rn Ls xs d 11 99 [l0, l1, l2, l3, l4, l5] st H else rn Ls xs d 11 108 [l0, l1, l2, l3, l4, l5] st H := (rn_nx rfl rfl).trans (rn_tc rfl rfl (rn_tc rfl rfl (rn_tc rfl rfl (rn_tc rfl rfl (rn_tn)))))
theorem e_W_set_72 : rn Ls xs d 11 72 [l0, l1, l2, l3, l4, some (.inr u)] st H = rn Ls xs d 11 74 [l0, l1, l2, l3, l4, some (.inr u)] (.inr u :: st) H := rn_nx rfl rfl
theorem e_W_set_74 : rn Ls xs d 11 74 [l0, l1, l2, some (.inl x), l4, l5] st H = rn Ls xs d 11 75 [l0, l1, l2, some (.inl x), l4, l5] (.inl x :: st) H := rn_nx rfl rfl
theorem e_W_set_75 : rn Ls xs d 11 75 [l0, l1, l2, l3, l4, l5] (.inl x :: .inr (.inl (some a)) :: st) (S, I, R) = if h_is S a 7 6 then rn Ls xs d 11 78 [l0, l1, l2, l3, l4, l5] st (S, va_up I a (upd (I a) 1 x), R) else none := rn_bc rfl rfl
theorem e_W_set_78 : rn Ls xs d 11 78 [l0, l1, l2, l3, l4, l5] st H = rn Ls xs d 11 123 [l0, l1, l2, l3, l4, l5] st H := rn_nx rfl rfl
theorem e_W_set_81 : rn Ls xs d 11 81 [l0, l1, l2, l3, l4, some (.inr u)] st H = rn Ls xs d 11 83 [l0, l1, l2, l3, l4, some (.inr u)] (.inr u :: st) H := rn_nx rfl rfl
theorem e_W_set_83 : rn Ls xs d 11 83 [l0, l1, l2, some (.inl x), l4, l5] st H = rn Ls xs d 11 84 [l0, l1, l2, some (.inl x), l4, l5] (.inl x :: st) H := rn_nx rfl rfl
theorem e_W_set_84 : rn Ls xs d 11 84 [l0, l1, l2, l3, l4, l5] (.inl x :: .inr (.inl (some a)) :: st) (S, I, R) = if h_is S a 7 6 then rn Ls xs d 11 87 [l0, l1, l2, l3, l4, l5] st (S, va_up I a (upd (I a) 2 x), R) else none := rn_bc rfl rfl
theorem e_W_set_87 : rn Ls xs d 11 87 [l0, l1, l2, l3, l4, l5] st H = rn Ls xs d 11 123 [l0, l1, l2, l3, l4, l5] st H := rn_nx rfl rfl
theorem e_W_set_90 : rn Ls xs d 11 90 [l0, l1, l2, l3, l4, some (.inr u)] st H = rn Ls xs d 11 92 [l0, l1, l2, l3, l4, some (.inr u)] (.inr u :: st) H := rn_nx rfl rfl
theorem e_W_set_92 : rn Ls xs d 11 92 [l0, l1, l2, some (.inl x), l4, l5] st H = rn Ls xs d 11 93 [l0, l1, l2, some (.inl x), l4, l5] (.inl x :: st) H := rn_nx rfl rfl
theorem e_W_set_93 : rn Ls xs d 11 93 [l0, l1, l2, l3, l4, l5] (.inl x :: .inr (.inl (some a)) :: st) (S, I, R) = if h_is S a 7 6 then rn Ls xs d 11 96 [l0, l1, l2, l3, l4, l5] st (S, va_up I a (upd (I a) 3 x), R) else none := rn_bc rfl rfl
theorem e_W_set_96 : rn Ls xs d 11 96 [l0, l1, l2, l3, l4, l5] st H = rn Ls xs d 11 123 [l0, l1, l2, l3, l4, l5] st H := rn_nx rfl rfl
theorem e_W_set_99 : rn Ls xs d 11 99 [l0, l1, l2, l3, l4, some (.inr u)] st H = rn Ls xs d 11 101 [l0, l1, l2, l3, l4, some (.inr u)] (.inr u :: st) H := rn_nx rfl rfl
theorem e_W_set_101 : rn Ls xs d 11 101 [l0, l1, l2, some (.inl x), l4, l5] st H = rn Ls xs d 11 102 [l0, l1, l2, some (.inl x), l4, l5] (.inl x :: st) H := rn_nx rfl rfl
theorem e_W_set_102 : rn Ls xs d 11 102 [l0, l1, l2, l3, l4, l5] (.inl x :: .inr (.inl (some a)) :: st) (S, I, R) = if h_is S a 7 6 then rn Ls xs d 11 105 [l0, l1, l2, l3, l4, l5] st (S, va_up I a (upd (I a) 4 x), R) else none := rn_bc rfl rfl
theorem e_W_set_105 : rn Ls xs d 11 105 [l0, l1, l2, l3, l4, l5] st H = rn Ls xs d 11 123 [l0, l1, l2, l3, l4, l5] st H := rn_nx rfl rfl
theorem e_W_set_108 : rn Ls xs d 11 108 [l0, l1, l2, l3, l4, some (.inr u)] st H = rn Ls xs d 11 110 [l0, l1, l2, l3, l4, some (.inr u)] (.inr u :: st) H := rn_nx rfl rfl
theorem e_W_set_110 : rn Ls xs d 11 110 [l0, l1, l2, some (.inl x), l4, l5] st H = rn Ls xs d 11 111 [l0, l1, l2, some (.inl x), l4, l5] (.inl x :: st) H := rn_nx rfl rfl
theorem e_W_set_111 : rn Ls xs d 11 111 [l0, l1, l2, l3, l4, l5]  st H = rn Ls xs d 11 112 [l0, l1, l2, l3, l4, l5] (.inl 1 :: st) H := rn_nx rfl rfl
theorem e_W_set_112 : rn Ls xs d 11 112 [l0, l1, l2, l3, l4, l5] (.inl y :: .inl x :: st) H = if x ≠ y then rn Ls xs d 11 119 [l0, l1, l2, l3, l4, l5] st H else rn Ls xs d 11 115 [l0, l1, l2, l3, l4, l5] st H := rn_cmp (p := fun x y => x ≠ y) rfl
theorem e_W_set_115 : rn Ls xs d 11 115 [l0, l1, l2, l3, l4, l5]  st H = rn Ls xs d 11 116 [l0, l1, l2, l3, l4, l5] (.inl 1 :: st) H := rn_nx rfl rfl
theorem e_W_set_116 : rn Ls xs d 11 116 [l0, l1, l2, l3, l4, l5] st H = rn Ls xs d 11 120 [l0, l1, l2, l3, l4, l5] st H := rn_nx rfl rfl
theorem e_W_set_119 : rn Ls xs d 11 119 [l0, l1, l2, l3, l4, l5]  st H = rn Ls xs d 11 120 [l0, l1, l2, l3, l4, l5] (.inl 0 :: st) H := rn_nx rfl rfl
theorem e_W_set_120 : rn Ls xs d 11 120 [l0, l1, l2, l3, l4, l5] (.inl x :: .inr (.inl (some a)) :: st) (S, I, R) = if h_is S a 7 6 && h_bo x then rn Ls xs d 11 123 [l0, l1, l2, l3, l4, l5] st (S, va_up I a (upd (I a) 5 x), R) else none := rn_bc rfl rfl
theorem e_W_set_123 : rn Ls xs d 11 123 [l0, l1, l2, l3, some (.inl x), l5] st H = rn Ls xs d 11 125 [l0, l1, l2, l3, some (.inl x), l5] (.inl x :: st) H := rn_nx rfl rfl
theorem e_W_set_125 : rn Ls xs d 11 125 [l0, l1, l2, l3, l4, l5] [.inl x] H = some (some (.inl x), H) := rn_done rfl rfl
theorem e_M_set_0 : rn Ls xs d 12 0 [some (.inr u), l1, l2, l3] st H = rn Ls xs d 12 1 [some (.inr u), l1, l2, l3] (.inr u :: st) H := rn_nx rfl rfl
theorem e_M_set_1 : rn Ls xs d 12 1 [l0, some (.inl x), l2, l3] st H = rn Ls xs d 12 2 [l0, some (.inl x), l2, l3] (.inl x :: st) H := rn_nx rfl rfl
theorem e_M_set_2 : rn Ls xs (d + 1) 12 2 [l0, l1, l2, l3] [v1, (.inr (.inl (some a)))] (S, I, R) = if h_is S a 9 36 then rb Ls xs (d + 1) 12 5 [l0, l1, l2, l3] [] (rn Ls xs d 104 0 [some (.inr (.inl (some a))), some v1] [] (S, I, R)) else none := rn_callO rfl rfl (Nat.le_of_ble_eq_true rfl) rfl rfl
theorem e_M_set_5 : rn Ls xs d 12 5 [l0, l1, l2, l3] (.inl x :: st) H = if x = 0 then rn Ls xs d 12 42 [l0, l1, l2, l3] st H else rn Ls xs d 12 8 [l0, l1, l2, l3] st H := rn_if (p := fun x => x = 0) rfl
theorem e_M_set_8 : rn Ls xs d 12 8 [l0, l1, some (.inl x), l3] st H = rn Ls xs d 12 9 [l0, l1, some (.inl x), l3] (.inl x :: st) H := rn_nx rfl rfl
theorem e_M_set_9 : rn Ls xs d 12 9 [l0, l1, l2, l3]  st H = rn Ls xs d 12 10 [l0, l1, l2, l3] (.inl 1 :: st) H := rn_nx rfl rfl
theorem e_M_set_10 : rn Ls xs d 12 10 [l0, l1, l2, l3]  st H = rn Ls xs d 12 11 [l0, l1, l2, l3] (.inl 5 :: st) H := rn_nx rfl rfl
theorem e_M_set_11 : rn Ls xs (d + 1) 12 11 [l0, l1, l2, l3] [v2, v1, v0] H = rb Ls xs (d + 1) 12 14 [l0, l1, l2, l3] [] (rn Ls xs d 97 0 [some v0, some v1, some v2] [] H) := rn_call rfl (Nat.le_of_ble_eq_true rfl) (Nat.le_of_ble_eq_true rfl) rfl rfl
theorem e_M_set_14 : rn Ls xs d 12 14 [l0, l1, l2, l3] (.inl x :: st) H = if x = 0 then rn Ls xs d 12 42 [l0, l1, l2, l3] st H else rn Ls xs d 12 17 [l0, l1, l2, l3] st H := rn_if (p := fun x => x = 0) rfl
theorem e_M_set_17 : rn Ls xs d 12 17 [l0, l1, some (.inl x), l3] st H = rn Ls xs d 12 18 [l0, l1, some (.inl x), l3] (.inl x :: st) H := rn_nx rfl rfl
theorem e_M_set_18 : rn Ls xs d 12 18 [l0, l1, l2, some (.inl x)] st H = rn Ls xs d 12 19 [l0, l1, l2, some (.inl x)] (.inl x :: st) H := rn_nx rfl rfl
theorem e_M_set_19 : rn Ls xs (d + 1) 12 19 [l0, l1, l2, l3] [v1, v0] H = rb Ls xs (d + 1) 12 22 [l0, l1, l2, l3] [] (rn Ls xs d 98 0 [some v0, some v1] [] H) := rn_call rfl (Nat.le_of_ble_eq_true rfl) (Nat.le_of_ble_eq_true rfl) rfl rfl
theorem e_M_set_22 : rn Ls xs d 12 22 [l0, l1, l2, l3] (.inl x :: st) H = if x = 0 then rn Ls xs d 12 42 [l0, l1, l2, l3] st H else rn Ls xs d 12 25 [l0, l1, l2, l3] st H := rn_if (p := fun x => x = 0) rfl
theorem e_M_set_25 : rn Ls xs d 12 25 [some (.inr u), l1, l2, l3] st H = rn Ls xs d 12 26 [some (.inr u), l1, l2, l3] (.inr u :: st) H := rn_nx rfl rfl
theorem e_M_set_26 : rn Ls xs d 12 26 [l0, l1, l2, l3]  st H = rn Ls xs d 12 28 [l0, l1, l2, l3] (.inl 8 :: st) H := rn_nx rfl rfl
theorem e_M_set_28 : rn Ls xs d 12 28 [l0, l1, l2, l3]  st H = rn Ls xs d 12 30 [l0, l1, l2, l3] (.inl 6 :: st) H := rn_nx rfl rfl
theorem e_M_set_30 : rn Ls xs d 12 30 [l0, some (.inl x), l2, l3] st H = rn Ls xs d 12 31 [l0, some (.inl x), l2, l3] (.inl x :: st) H := rn_nx rfl rfl
theorem e_M_set_31 : rn Ls xs d 12 31 [l0, l1, l2, l3] (.inl y :: .inl x :: st) H = rn Ls xs d 12 32 [l0, l1, l2, l3] (.inl (x * y) :: st) H := rn_nx rfl rfl
theorem e_M_set_32 : rn Ls xs d 12 32 [l0, l1, l2, l3] (.inl y :: .inl x :: st) H = rn Ls xs d 12 33 [l0, l1, l2, l3] (.inl (x + y) :: st) H := rn_nx rfl rfl
theorem e_M_set_33 : rn Ls xs d 12 33 [l0, l1, some (.inl x), l3] st H = rn Ls xs d 12 34 [l0, l1, some (.inl x), l3] (.inl x :: st) H := rn_nx rfl rfl
theorem e_M_set_34 : rn Ls xs d 12 34 [l0, l1, l2, l3] (.inl y :: .inl x :: st) H = rn Ls xs d 12 35 [l0, l1, l2, l3] (.inl (x + y) :: st) H := rn_nx rfl rfl
theorem e_M_set_35 : rn Ls xs d 12 35 [l0, l1, l2, some (.inl x)] st H = rn Ls xs d 12 36 [l0, l1, l2, some (.inl x)] (.inl x :: st) H := rn_nx rfl rfl
theorem e_M_set_36 : rn Ls xs (d + 1) 12 36 [l0, l1, l2, l3] [v2, v1, (.inr (.inl (some a)))] (S, I, R) = if h_is S a 9 36 then rb Ls xs (d + 1) 12 39 [l0, l1, l2, l3] [] (rn Ls xs d 111 0 [some (.inr (.inl (some a))), some v1, some v2, none] [] (S, I, R)) else none := rn_callO rfl rfl (Nat.le_of_ble_eq_true rfl) rfl rfl
theorem e_M_set_39 : rn Ls xs d 12 39 [l0, l1, l2, l3] st H = rn Ls xs d 12 44 [l0, l1, l2, l3] st H := rn_nx rfl rfl
theorem e_M_set_42 : rn Ls xs d 12 42 [l0, l1, l2, l3]  st H = rn Ls xs d 12 44 [l0, l1, l2, l3] (.inl (-1000000001) :: st) H := rn_nx rfl rfl
theorem e_M_set_44 : rn Ls xs d 12 44 [l0, l1, l2, l3] [.inl x] H = some (some (.inl x), H) := rn_done rfl rfl
theorem e_W_sweep_0 : rn Ls xs d 13 0 [some (.inr u), l1, l2] st H = rn Ls xs d 13 1 [some (.inr u), l1, l2] (.inr u :: st) H := rn_nx rfl rfl
theorem e_W_sweep_1 : rn Ls xs d 13 1 [l0, l1, l2] (.inr (.inl (some a)) :: st) (S, I, R) = if h_is S a 8 10 then rn Ls xs d 13 4 [l0, l1, l2] (.inr (R a 0) :: st) (S, I, R) else none := rn_bc rfl rfl
theorem e_W_sweep_4 : rn Ls xs d 13 4 [l0, some (.inl x), l2] st H = rn Ls xs d 13 5 [l0, some (.inl x), l2] (.inl x :: st) H := rn_nx rfl rfl
theorem e_W_sweep_5 : rn Ls xs (d + 1) 13 5 [l0, l1, l2] [v1, (.inr (.inl (some a)))] (S, I, R) = if h_is S a 3 11 then rb Ls xs (d + 1) 13 8 [l0, l1, l2] [] (rn Ls xs d 100 0 [some (.inr (.inl (some a))), some v1] [] (S, I, R)) else none := rn_callO rfl rfl (Nat.le_of_ble_eq_true rfl) rfl rfl
theorem e_W_sweep_8 : rn Ls xs d 13 8 [l0, l1, l2] (.inl x :: st) H = if x ≠ 0 then rn Ls xs d 13 14 [l0, l1, l2] st H else rn Ls xs d 13 11 [l0, l1, l2] st H := rn_if (p := fun x => x ≠ 0) rfl
theorem e_W_sweep_11 : rn Ls xs d 13 11 [l0, l1, l2]  st H = rn Ls xs d 13 13 [l0, l1, l2] (.inl (-1000000001) :: st) H := rn_nx rfl rfl
theorem e_W_sweep_13 : rn Ls xs d 13 13 [l0, l1, l2] [.inl x] H = some (some (.inl x), H) := rn_done rfl rfl
theorem e_W_sweep_14 : rn Ls xs d 13 14 [some (.inr u), l1, l2] st H = rn Ls xs d 13 15 [some (.inr u), l1, l2] (.inr u :: st) H := rn_nx rfl rfl
theorem e_W_sweep_15 : rn Ls xs d 13 15 [l0, l1, l2] (.inr (.inl (some a)) :: st) (S, I, R) = if h_is S a 8 10 then rn Ls xs d 13 18 [l0, l1, l2] (.inr (R a 0) :: st) (S, I, R) else none := rn_bc rfl rfl
theorem e_W_sweep_18 : rn Ls xs d 13 18 [l0, l1, l2] (.inr (.inl (some a)) :: st) (S, I, R) = if h_is S a 3 11 then rn Ls xs d 13 21 [l0, l1, l2] (.inr (R a 0) :: st) (S, I, R) else none := rn_bc rfl rfl
theorem e_W_sweep_21 : rn Ls xs d 13 21 [l0, some (.inl x), l2] st H = rn Ls xs d 13 22 [l0, some (.inl x), l2] (.inl x :: st) H := rn_nx rfl rfl
theorem e_W_sweep_22 : rn Ls xs d 13 22 [l0, l1, l2] (.inl i :: .inr (.inl (some a)) :: st) (S, I, R) = if h_ia S a 4 i then (match R a i.toNatClampNeg with | .inl o => rn Ls xs d 13 23 [l0, l1, l2] (.inr (.inl o) :: st) (S, I, R) | .inr _ => none) else none := rn_aald rfl
theorem e_W_sweep_23 : rn Ls xs d 13 23 [l0, l1, l2] (.inr u :: st) H = rn Ls xs d 13 24 [l0, l1, some (.inr u)] st H := rn_nx rfl rfl
theorem e_W_sweep_24 : rn Ls xs d 13 24 [l0, l1, some (.inr u)] st H = rn Ls xs d 13 25 [l0, l1, some (.inr u)] (.inr u :: st) H := rn_nx rfl rfl
theorem e_W_sweep_25 : rn Ls xs d 13 25 [l0, l1, l2] (.inr (.inl (some a)) :: st) (S, I, R) = if h_is S a 7 6 then rn Ls xs d 13 28 [l0, l1, l2] (.inl (I a 5) :: st) (S, I, R) else none := rn_bc rfl rfl
theorem e_W_sweep_28 : rn Ls xs d 13 28 [l0, l1, l2] (.inl x :: st) H = if x ≠ 0 then rn Ls xs d 13 34 [l0, l1, l2] st H else rn Ls xs d 13 31 [l0, l1, l2] st H := rn_if (p := fun x => x ≠ 0) rfl
theorem e_W_sweep_31 : rn Ls xs d 13 31 [l0, l1, l2]  st H = rn Ls xs d 13 33 [l0, l1, l2] (.inl (-1000000002) :: st) H := rn_nx rfl rfl
theorem e_W_sweep_33 : rn Ls xs d 13 33 [l0, l1, l2] [.inl x] H = some (some (.inl x), H) := rn_done rfl rfl
theorem e_W_sweep_34 : rn Ls xs d 13 34 [l0, l1, some (.inr u)] st H = rn Ls xs d 13 35 [l0, l1, some (.inr u)] (.inr u :: st) H := rn_nx rfl rfl
theorem e_W_sweep_35 : rn Ls xs d 13 35 [l0, l1, l2]  st H = rn Ls xs d 13 36 [l0, l1, l2] (.inl 0 :: st) H := rn_nx rfl rfl
theorem e_W_sweep_36 : rn Ls xs d 13 36 [l0, l1, l2] (.inl x :: .inr (.inl (some a)) :: st) (S, I, R) = if h_is S a 7 6 && h_bo x then rn Ls xs d 13 39 [l0, l1, l2] st (S, va_up I a (upd (I a) 5 x), R) else none := rn_bc rfl rfl
theorem e_W_sweep_39 : rn Ls xs d 13 39 [some (.inr u), l1, l2] st H = rn Ls xs d 13 40 [some (.inr u), l1, l2] (.inr u :: st) H := rn_nx rfl rfl
theorem e_W_sweep_40 : rn Ls xs d 13 40 [l0, l1, l2] (.inr (.inl (some a)) :: st) (S, I, R) = if h_is S a 8 10 then rn Ls xs d 13 43 [l0, l1, l2] (.inr (R a 0) :: st) (S, I, R) else none := rn_bc rfl rfl
theorem e_W_sweep_43 : rn Ls xs d 13 43 [l0, l1, l2] (v :: st) H = rn Ls xs d 13 44 [l0, l1, l2] (v :: v :: st) H := rn_nx rfl rfl
theorem e_W_sweep_44 : rn Ls xs d 13 44 [l0, l1, l2] (.inr (.inl (some a)) :: st) (S, I, R) = if h_is S a 3 11 then rn Ls xs d 13 47 [l0, l1, l2] (.inl (I a 8) :: st) (S, I, R) else none := rn_bc rfl rfl
theorem e_W_sweep_47 : rn Ls xs d 13 47 [l0, l1, l2]  st H = rn Ls xs d 13 48 [l0, l1, l2] (.inl 1 :: st) H := rn_nx rfl rfl
theorem e_W_sweep_48 : rn Ls xs d 13 48 [l0, l1, l2] (.inl y :: .inl x :: st) H = rn Ls xs d 13 49 [l0, l1, l2] (.inl (x + y) :: st) H := rn_nx rfl rfl
theorem e_W_sweep_49 : rn Ls xs d 13 49 [l0, l1, l2] (.inl x :: .inr (.inl (some a)) :: st) (S, I, R) = if h_is S a 3 11 then rn Ls xs d 13 52 [l0, l1, l2] st (S, va_up I a (upd (I a) 8 x), R) else none := rn_bc rfl rfl
theorem e_W_sweep_52 : rn Ls xs d 13 52 [l0, l1, some (.inr u)] st H = rn Ls xs d 13 53 [l0, l1, some (.inr u)] (.inr u :: st) H := rn_nx rfl rfl
theorem e_W_sweep_53 : rn Ls xs d 13 53 [l0, l1, l2] (.inr (.inl (some a)) :: st) (S, I, R) = if h_is S a 7 6 then rn Ls xs d 13 56 [l0, l1, l2] (.inl (I a 4) :: st) (S, I, R) else none := rn_bc rfl rfl
theorem e_W_sweep_56 : rn Ls xs d 13 56 [l0, l1, l2] [.inl x] H = some (some (.inl x), H) := rn_done rfl rfl
theorem e_M_sweep_0 : rn Ls xs d 14 0 [some (.inr u), l1] st H = rn Ls xs d 14 1 [some (.inr u), l1] (.inr u :: st) H := rn_nx rfl rfl
theorem e_M_sweep_1 : rn Ls xs d 14 1 [l0, some (.inl x)] st H = rn Ls xs d 14 2 [l0, some (.inl x)] (.inl x :: st) H := rn_nx rfl rfl
theorem e_M_sweep_2 : rn Ls xs (d + 1) 14 2 [l0, l1] [v1, (.inr (.inl (some a)))] (S, I, R) = if h_is S a 9 36 then rb Ls xs (d + 1) 14 5 [l0, l1] [] (rn Ls xs d 104 0 [some (.inr (.inl (some a))), some v1] [] (S, I, R)) else none := rn_callO rfl rfl (Nat.le_of_ble_eq_true rfl) rfl rfl
theorem e_M_sweep_5 : rn Ls xs d 14 5 [l0, l1] (.inl x :: st) H = if x ≠ 0 then rn Ls xs d 14 11 [l0, l1] st H else rn Ls xs d 14 8 [l0, l1] st H := rn_if (p := fun x => x ≠ 0) rfl
theorem e_M_sweep_8 : rn Ls xs d 14 8 [l0, l1]  st H = rn Ls xs d 14 10 [l0, l1] (.inl (-1000000001) :: st) H := rn_nx rfl rfl
theorem e_M_sweep_10 : rn Ls xs d 14 10 [l0, l1] [.inl x] H = some (some (.inl x), H) := rn_done rfl rfl
theorem e_M_sweep_11 : rn Ls xs d 14 11 [some (.inr u), l1] st H = rn Ls xs d 14 12 [some (.inr u), l1] (.inr u :: st) H := rn_nx rfl rfl
theorem e_M_sweep_12 : rn Ls xs d 14 12 [l0, some (.inl x)] st H = rn Ls xs d 14 13 [l0, some (.inl x)] (.inl x :: st) H := rn_nx rfl rfl
theorem e_M_sweep_13 : rn Ls xs (d + 1) 14 13 [l0, l1] [v1, (.inr (.inl (some a)))] (S, I, R) = if h_is S a 9 36 then rb Ls xs (d + 1) 14 16 [l0, l1] [] (rn Ls xs d 113 0 [some (.inr (.inl (some a))), some v1] [] (S, I, R)) else none := rn_callO rfl rfl (Nat.le_of_ble_eq_true rfl) rfl rfl
theorem e_M_sweep_16 : rn Ls xs d 14 16 [l0, l1] (.inl x :: st) H = if x ≠ 0 then rn Ls xs d 14 22 [l0, l1] st H else rn Ls xs d 14 19 [l0, l1] st H := rn_if (p := fun x => x ≠ 0) rfl
theorem e_M_sweep_19 : rn Ls xs d 14 19 [l0, l1]  st H = rn Ls xs d 14 21 [l0, l1] (.inl (-1000000002) :: st) H := rn_nx rfl rfl
theorem e_M_sweep_21 : rn Ls xs d 14 21 [l0, l1] [.inl x] H = some (some (.inl x), H) := rn_done rfl rfl
theorem e_M_sweep_22 : rn Ls xs d 14 22 [some (.inr u), l1] st H = rn Ls xs d 14 23 [some (.inr u), l1] (.inr u :: st) H := rn_nx rfl rfl
theorem e_M_sweep_23 : rn Ls xs d 14 23 [l0, some (.inl x)] st H = rn Ls xs d 14 24 [l0, some (.inl x)] (.inl x :: st) H := rn_nx rfl rfl
theorem e_M_sweep_24 : rn Ls xs d 14 24 [l0, l1]  st H = rn Ls xs d 14 25 [l0, l1] (.inl 5 :: st) H := rn_nx rfl rfl
theorem e_M_sweep_25 : rn Ls xs d 14 25 [l0, l1]  st H = rn Ls xs d 14 26 [l0, l1] (.inl 0 :: st) H := rn_nx rfl rfl
theorem e_M_sweep_26 : rn Ls xs (d + 1) 14 26 [l0, l1] [v3, v2, v1, (.inr (.inl (some a)))] (S, I, R) = if h_is S a 9 36 then rb Ls xs (d + 1) 14 29 [l0, l1] [] (rn Ls xs d 114 0 [some (.inr (.inl (some a))), some v1, some v2, some v3] [] (S, I, R)) else none := rn_callO rfl rfl (Nat.le_of_ble_eq_true rfl) rfl rfl
theorem e_M_sweep_29 : rn Ls xs d 14 29 [some (.inr u), l1] st H = rn Ls xs d 14 30 [some (.inr u), l1] (.inr u :: st) H := rn_nx rfl rfl
theorem e_M_sweep_30 : rn Ls xs d 14 30 [l0, l1] (.inr (.inl (some a)) :: st) (S, I, R) = if h_is S a 9 36 then rn Ls xs d 14 33 [l0, l1] (.inr (R a 0) :: st) (S, I, R) else none := rn_bc rfl rfl
theorem e_M_sweep_33 : rn Ls xs d 14 33 [l0, l1]  st H = rn Ls xs d 14 35 [l0, l1] (.inl 6 :: st) H := rn_nx rfl rfl
theorem e_M_sweep_35 : rn Ls xs d 14 35 [l0, l1] (v :: w :: st) H = rn Ls xs d 14 36 [l0, l1] (v :: w :: v :: w :: st) H := rn_nx rfl rfl
theorem e_M_sweep_36 : rn Ls xs d 14 36 [l0, l1] (.inl i :: .inr (.inl (some a)) :: st) (S, I, R) = if h_ia S a 0 i then rn Ls xs d 14 37 [l0, l1] (.inl (I a i.toNatClampNeg) :: st) (S, I, R) else none := rn_bc rfl rfl
theorem e_M_sweep_37 : rn Ls xs d 14 37 [l0, l1]  st H = rn Ls xs d 14 38 [l0, l1] (.inl 1 :: st) H := rn_nx rfl rfl
theorem e_M_sweep_38 : rn Ls xs d 14 38 [l0, l1] (.inl y :: .inl x :: st) H = rn Ls xs d 14 39 [l0, l1] (.inl (x + y) :: st) H := rn_nx rfl rfl
theorem e_M_sweep_39 : rn Ls xs d 14 39 [l0, l1] (.inl x :: .inl i :: .inr (.inl (some a)) :: st) (S, I, R) = if h_ia S a 0 i then rn Ls xs d 14 40 [l0, l1] st (S, va_up I a (upd (I a) i.toNatClampNeg x), R) else none := rn_bc rfl rfl
theorem e_M_sweep_40 : rn Ls xs d 14 40 [some (.inr u), l1] st H = rn Ls xs d 14 41 [some (.inr u), l1] (.inr u :: st) H := rn_nx rfl rfl
theorem e_M_sweep_41 : rn Ls xs d 14 41 [l0, some (.inl x)] st H = rn Ls xs d 14 42 [l0, some (.inl x)] (.inl x :: st) H := rn_nx rfl rfl
theorem e_M_sweep_42 : rn Ls xs d 14 42 [l0, l1]  st H = rn Ls xs d 14 43 [l0, l1] (.inl 4 :: st) H := rn_nx rfl rfl
theorem e_M_sweep_43 : rn Ls xs (d + 1) 14 43 [l0, l1] [v2, v1, (.inr (.inl (some a)))] (S, I, R) = if h_is S a 9 36 then rb Ls xs (d + 1) 14 46 [l0, l1] [] (rn Ls xs d 105 0 [some (.inr (.inl (some a))), some v1, some v2] [] (S, I, R)) else none := rn_callO rfl rfl (Nat.le_of_ble_eq_true rfl) rfl rfl
theorem e_M_sweep_46 : rn Ls xs d 14 46 [l0, l1] [.inl x] H = some (some (.inl x), H) := rn_done rfl rfl
theorem e_W_drag_0 : rn Ls xs d 15 0 [l0, some (.inl x), l2] st H = rn Ls xs d 15 1 [l0, some (.inl x), l2] (.inl x :: st) H := rn_nx rfl rfl
theorem e_W_drag_1 : rn Ls xs d 15 1 [l0, l1, l2]  st H = rn Ls xs d 15 2 [l0, l1, l2] (.inl 0 :: st) H := rn_nx rfl rfl
theorem e_W_drag_2 : rn Ls xs d 15 2 [l0, l1, l2]  st H = rn Ls xs d 15 4 [l0, l1, l2] (.inl 100 :: st) H := rn_nx rfl rfl
theorem e_W_drag_4 : rn Ls xs (d + 1) 15 4 [l0, l1, l2] [v2, v1, v0] H = rb Ls xs (d + 1) 15 7 [l0, l1, l2] [] (rn Ls xs d 94 0 [some v0, some v1, some v2] [] H) := rn_call rfl (Nat.le_of_ble_eq_true rfl) (Nat.le_of_ble_eq_true rfl) rfl rfl
theorem e_W_drag_7 : rn Ls xs d 15 7 [l0, l1, l2] (.inl x :: st) H = if x ≠ 0 then rn Ls xs d 15 13 [l0, l1, l2] st H else rn Ls xs d 15 10 [l0, l1, l2] st H := rn_if (p := fun x => x ≠ 0) rfl
theorem e_W_drag_10 : rn Ls xs d 15 10 [l0, l1, l2]  st H = rn Ls xs d 15 12 [l0, l1, l2] (.inl (-1000000001) :: st) H := rn_nx rfl rfl
theorem e_W_drag_12 : rn Ls xs d 15 12 [l0, l1, l2] [.inl x] H = some (some (.inl x), H) := rn_done rfl rfl
theorem e_W_drag_13 : rn Ls xs d 15 13 [some (.inr u), l1, l2] st H = rn Ls xs d 15 14 [some (.inr u), l1, l2] (.inr u :: st) H := rn_nx rfl rfl
theorem e_W_drag_14 : rn Ls xs d 15 14 [l0, l1, l2] (.inr (.inl (some a)) :: st) (S, I, R) = if h_is S a 8 10 then rn Ls xs d 15 17 [l0, l1, l2] (.inr (R a 0) :: st) (S, I, R) else none := rn_bc rfl rfl
theorem e_W_drag_17 : rn Ls xs d 15 17 [l0, l1, l2] (.inr (.inl (some a)) :: st) (S, I, R) = if h_is S a 3 11 then rn Ls xs d 15 20 [l0, l1, l2] (.inl (I a 5) :: st) (S, I, R) else none := rn_bc rfl rfl
theorem e_W_drag_20 : rn Ls xs d 15 20 [l0, l1, l2] (.inl x :: st) H = rn Ls xs d 15 21 [l0, l1, some (.inl x)] st H := rn_nx rfl rfl
theorem e_W_drag_21 : rn Ls xs d 15 21 [some (.inr u), l1, l2] st H = rn Ls xs d 15 22 [some (.inr u), l1, l2] (.inr u :: st) H := rn_nx rfl rfl
theorem e_W_drag_22 : rn Ls xs d 15 22 [l0, l1, l2] (.inr (.inl (some a)) :: st) (S, I, R) = if h_is S a 8 10 then rn Ls xs d 15 25 [l0, l1, l2] (.inr (R a 0) :: st) (S, I, R) else none := rn_bc rfl rfl
theorem e_W_drag_25 : rn Ls xs d 15 25 [l0, some (.inl x), l2] st H = rn Ls xs d 15 26 [l0, some (.inl x), l2] (.inl x :: st) H := rn_nx rfl rfl
theorem e_W_drag_26 : rn Ls xs d 15 26 [l0, l1, l2] (.inl x :: .inr (.inl (some a)) :: st) (S, I, R) = if h_is S a 3 11 then rn Ls xs d 15 29 [l0, l1, l2] st (S, va_up I a (upd (I a) 5 x), R) else none := rn_bc rfl rfl
theorem e_W_drag_29 : rn Ls xs d 15 29 [l0, l1, some (.inl x)] st H = rn Ls xs d 15 30 [l0, l1, some (.inl x)] (.inl x :: st) H := rn_nx rfl rfl
theorem e_W_drag_30 : rn Ls xs d 15 30 [l0, l1, l2] [.inl x] H = some (some (.inl x), H) := rn_done rfl rfl
theorem e_M_drag_0 : rn Ls xs d 16 0 [l0, some (.inl x)] st H = rn Ls xs d 16 1 [l0, some (.inl x)] (.inl x :: st) H := rn_nx rfl rfl
theorem e_M_drag_1 : rn Ls xs d 16 1 [l0, l1]  st H = rn Ls xs d 16 2 [l0, l1] (.inl 0 :: st) H := rn_nx rfl rfl
theorem e_M_drag_2 : rn Ls xs d 16 2 [l0, l1]  st H = rn Ls xs d 16 4 [l0, l1] (.inl 100 :: st) H := rn_nx rfl rfl
theorem e_M_drag_4 : rn Ls xs (d + 1) 16 4 [l0, l1] [v2, v1, v0] H = rb Ls xs (d + 1) 16 7 [l0, l1] [] (rn Ls xs d 97 0 [some v0, some v1, some v2] [] H) := rn_call rfl (Nat.le_of_ble_eq_true rfl) (Nat.le_of_ble_eq_true rfl) rfl rfl
theorem e_M_drag_7 : rn Ls xs d 16 7 [l0, l1] (.inl x :: st) H = if x = 0 then rn Ls xs d 16 19 [l0, l1] st H else rn Ls xs d 16 10 [l0, l1] st H := rn_if (p := fun x => x = 0) rfl
theorem e_M_drag_10 : rn Ls xs d 16 10 [some (.inr u), l1] st H = rn Ls xs d 16 11 [some (.inr u), l1] (.inr u :: st) H := rn_nx rfl rfl
theorem e_M_drag_11 : rn Ls xs d 16 11 [l0, l1]  st H = rn Ls xs d 16 12 [l0, l1] (.inl 3 :: st) H := rn_nx rfl rfl
theorem e_M_drag_12 : rn Ls xs d 16 12 [l0, some (.inl x)] st H = rn Ls xs d 16 13 [l0, some (.inl x)] (.inl x :: st) H := rn_nx rfl rfl
theorem e_M_drag_13 : rn Ls xs (d + 1) 16 13 [l0, l1] [v2, v1, (.inr (.inl (some a)))] (S, I, R) = if h_is S a 9 36 then rb Ls xs (d + 1) 16 16 [l0, l1] [] (rn Ls xs d 111 0 [some (.inr (.inl (some a))), some v1, some v2, none] [] (S, I, R)) else none := rn_callO rfl rfl (Nat.le_of_ble_eq_true rfl) rfl rfl
theorem e_M_drag_16 : rn Ls xs d 16 16 [l0, l1] st H = rn Ls xs d 16 21 [l0, l1] st H := rn_nx rfl rfl
theorem e_M_drag_19 : rn Ls xs d 16 19 [l0, l1]  st H = rn Ls xs d 16 21 [l0, l1] (.inl (-1000000001) :: st) H := rn_nx rfl rfl
theorem e_M_drag_21 : rn Ls xs d 16 21 [l0, l1] [.inl x] H = some (some (.inl x), H) := rn_done rfl rfl
theorem e_W_at_0 : rn Ls xs d 17 0 [l0, some (.inl x), l2, l3, l4, l5] st H = rn Ls xs d 17 1 [l0, some (.inl x), l2, l3, l4, l5] (.inl x :: st) H := rn_nx rfl rfl
theorem e_W_at_1 : rn Ls xs d 17 1 [l0, l1, l2, l3, l4, l5]  st H = rn Ls xs d 17 2 [l0, l1, l2, l3, l4, l5] (.inl 0 :: st) H := rn_nx rfl rfl
theorem e_W_at_2 : rn Ls xs d 17 2 [l0, l1, l2, l3, l4, l5]  st H = rn Ls xs d 17 4 [l0, l1, l2, l3, l4, l5] (.inl 7 :: st) H := rn_nx rfl rfl
theorem e_W_at_4 : rn Ls xs (d + 1) 17 4 [l0, l1, l2, l3, l4, l5] [v2, v1, v0] H = rb Ls xs (d + 1) 17 7 [l0, l1, l2, l3, l4, l5] [] (rn Ls xs d 94 0 [some v0, some v1, some v2] [] H) := rn_call rfl (Nat.le_of_ble_eq_true rfl) (Nat.le_of_ble_eq_true rfl) rfl rfl
theorem e_W_at_7 : rn Ls xs d 17 7 [l0, l1, l2, l3, l4, l5] (.inl x :: st) H = if x = 0 then rn Ls xs d 17 17 [l0, l1, l2, l3, l4, l5] st H else rn Ls xs d 17 10 [l0, l1, l2, l3, l4, l5] st H := rn_if (p := fun x => x = 0) rfl
theorem e_W_at_10 : rn Ls xs d 17 10 [l0, l1, some (.inl x), l3, l4, l5] st H = rn Ls xs d 17 11 [l0, l1, some (.inl x), l3, l4, l5] (.inl x :: st) H := rn_nx rfl rfl
theorem e_W_at_11 : rn Ls xs (d + 1) 17 11 [l0, l1, l2, l3, l4, l5] [v0] H = rb Ls xs (d + 1) 17 14 [l0, l1, l2, l3, l4, l5] [] (rn Ls xs d 95 0 [some v0] [] H) := rn_call rfl (Nat.le_of_ble_eq_true rfl) (Nat.le_of_ble_eq_true rfl) rfl rfl
theorem e_W_at_14 : rn Ls xs d 17 14 [l0, l1, l2, l3, l4, l5] (.inl x :: st) H = if x ≠ 0 then rn Ls xs d 17 20 [l0, l1, l2, l3, l4, l5] st H else rn Ls xs d 17 17 [l0, l1, l2, l3, l4, l5] st H := rn_if (p := fun x => x ≠ 0) rfl
theorem e_W_at_17 : rn Ls xs d 17 17 [l0, l1, l2, l3, l4, l5]  st H = rn Ls xs d 17 19 [l0, l1, l2, l3, l4, l5] (.inl (-1000000001) :: st) H := rn_nx rfl rfl
theorem e_W_at_19 : rn Ls xs d 17 19 [l0, l1, l2, l3, l4, l5] [.inl x] H = some (some (.inl x), H) := rn_done rfl rfl
theorem e_W_at_20 : rn Ls xs d 17 20 [l0, l1, l2, l3, l4, l5]  st H = rn Ls xs d 17 21 [l0, l1, l2, l3, l4, l5] (.inl 0 :: st) H := rn_nx rfl rfl
theorem e_W_at_21 : rn Ls xs d 17 21 [l0, l1, l2, l3, l4, l5] (.inl x :: st) H = rn Ls xs d 17 22 [l0, l1, l2, some (.inl x), l4, l5] st H := rn_nx rfl rfl
theorem e_W_at_22 : rn Ls xs d 17 22 [l0, l1, l2, l3, l4, l5]  st H = rn Ls xs d 17 23 [l0, l1, l2, l3, l4, l5] (.inl 0 :: st) H := rn_nx rfl rfl
theorem e_W_at_23 : rn Ls xs d 17 23 [l0, l1, l2, l3, l4, l5] (.inl x :: st) H = rn Ls xs d 17 25 [l0, l1, l2, l3, some (.inl x), l5] st H := rn_nx rfl rfl
theorem e_W_at_25 : rn Ls xs d 17 25 [l0, l1, l2, l3, some (.inl x), l5] st H = rn Ls xs d 17 27 [l0, l1, l2, l3, some (.inl x), l5] (.inl x :: st) H := rn_nx rfl rfl
theorem e_W_at_27 : rn Ls xs d 17 27 [some (.inr u), l1, l2, l3, l4, l5] st H = rn Ls xs d 17 28 [some (.inr u), l1, l2, l3, l4, l5] (.inr u :: st) H := rn_nx rfl rfl
theorem e_W_at_28 : rn Ls xs d 17 28 [l0, l1, l2, l3, l4, l5] (.inr (.inl (some a)) :: st) (S, I, R) = if h_is S a 8 10 then rn Ls xs d 17 31 [l0, l1, l2, l3, l4, l5] (.inr (R a 0) :: st) (S, I, R) else none := rn_bc rfl rfl
theorem e_W_at_31 : rn Ls xs d 17 31 [l0, l1, l2, l3, l4, l5] (.inr (.inl (some a)) :: st) (S, I, R) = if h_is S a 3 11 then rn Ls xs d 17 34 [l0, l1, l2, l3, l4, l5] (.inl (I a 3) :: st) (S, I, R) else none := rn_bc rfl rfl
theorem e_W_at_34 : rn Ls xs d 17 34 [l0, l1, l2, l3, l4, l5] (.inl y :: .inl x :: st) H = if y ≤ x then rn Ls xs d 17 88 [l0, l1, l2, l3, l4, l5] st H else rn Ls xs d 17 37 [l0, l1, l2, l3, l4, l5] st H := rn_cmp (p := fun x y => y ≤ x) rfl
theorem e_W_at_37 : rn Ls xs d 17 37 [some (.inr u), l1, l2, l3, l4, l5] st H = rn Ls xs d 17 38 [some (.inr u), l1, l2, l3, l4, l5] (.inr u :: st) H := rn_nx rfl rfl
theorem e_W_at_38 : rn Ls xs d 17 38 [l0, l1, l2, l3, l4, l5] (.inr (.inl (some a)) :: st) (S, I, R) = if h_is S a 8 10 then rn Ls xs d 17 41 [l0, l1, l2, l3, l4, l5] (.inr (R a 0) :: st) (S, I, R) else none := rn_bc rfl rfl
theorem e_W_at_41 : rn Ls xs d 17 41 [l0, l1, l2, l3, l4, l5] (.inr (.inl (some a)) :: st) (S, I, R) = if h_is S a 3 11 then rn Ls xs d 17 44 [l0, l1, l2, l3, l4, l5] (.inr (R a 0) :: st) (S, I, R) else none := rn_bc rfl rfl
theorem e_W_at_44 : rn Ls xs d 17 44 [l0, l1, l2, l3, some (.inl x), l5] st H = rn Ls xs d 17 46 [l0, l1, l2, l3, some (.inl x), l5] (.inl x :: st) H := rn_nx rfl rfl
theorem e_W_at_46 : rn Ls xs d 17 46 [l0, l1, l2, l3, l4, l5] (.inl i :: .inr (.inl (some a)) :: st) (S, I, R) = if h_ia S a 4 i then (match R a i.toNatClampNeg with | .inl o => rn Ls xs d 17 47 [l0, l1, l2, l3, l4, l5] (.inr (.inl o) :: st) (S, I, R) | .inr _ => none) else none := rn_aald rfl
theorem e_W_at_47 : rn Ls xs d 17 47 [l0, l1, l2, l3, l4, l5] (.inr u :: st) H = rn Ls xs d 17 49 [l0, l1, l2, l3, l4, some (.inr u)] st H := rn_nx rfl rfl
theorem e_W_at_49 : rn Ls xs d 17 49 [l0, l1, l2, l3, l4, some (.inr u)] st H = rn Ls xs d 17 51 [l0, l1, l2, l3, l4, some (.inr u)] (.inr u :: st) H := rn_nx rfl rfl
theorem e_W_at_51 : rn Ls xs d 17 51 [l0, l1, l2, l3, l4, l5] (.inr (.inl (some a)) :: st) (S, I, R) = if h_is S a 7 6 then rn Ls xs d 17 54 [l0, l1, l2, l3, l4, l5] (.inl (I a 5) :: st) (S, I, R) else none := rn_bc rfl rfl
theorem e_W_at_54 : rn Ls xs d 17 54 [l0, l1, l2, l3, l4, l5] (.inl x :: st) H = if x = 0 then rn Ls xs d 17 82 [l0, l1, l2, l3, l4, l5] st H else rn Ls xs d 17 57 [l0, l1, l2, l3, l4, l5] st H := rn_if (p := fun x => x = 0) rfl
theorem e_W_at_57 : rn Ls xs d 17 57 [l0, l1, l2, l3, l4, some (.inr u)] st H = rn Ls xs d 17 59 [l0, l1, l2, l3, l4, some (.inr u)] (.inr u :: st) H := rn_nx rfl rfl
theorem e_W_at_59 : rn Ls xs d 17 59 [l0, l1, l2, l3, l4, l5] (.inr (.inl (some a)) :: st) (S, I, R) = if h_is S a 7 6 then rn Ls xs d 17 62 [l0, l1, l2, l3, l4, l5] (.inl (I a 1) :: st) (S, I, R) else none := rn_bc rfl rfl
theorem e_W_at_62 : rn Ls xs d 17 62 [l0, some (.inl x), l2, l3, l4, l5] st H = rn Ls xs d 17 63 [l0, some (.inl x), l2, l3, l4, l5] (.inl x :: st) H := rn_nx rfl rfl
theorem e_W_at_63 : rn Ls xs d 17 63 [l0, l1, l2, l3, l4, l5] (.inl y :: .inl x :: st) H = if x ≠ y then rn Ls xs d 17 82 [l0, l1, l2, l3, l4, l5] st H else rn Ls xs d 17 66 [l0, l1, l2, l3, l4, l5] st H := rn_cmp (p := fun x y => x ≠ y) rfl
theorem e_W_at_66 : rn Ls xs d 17 66 [l0, l1, l2, l3, l4, some (.inr u)] st H = rn Ls xs d 17 68 [l0, l1, l2, l3, l4, some (.inr u)] (.inr u :: st) H := rn_nx rfl rfl
theorem e_W_at_68 : rn Ls xs d 17 68 [l0, l1, l2, l3, l4, l5] (.inr (.inl (some a)) :: st) (S, I, R) = if h_is S a 7 6 then rn Ls xs d 17 71 [l0, l1, l2, l3, l4, l5] (.inl (I a 2) :: st) (S, I, R) else none := rn_bc rfl rfl
theorem e_W_at_71 : rn Ls xs d 17 71 [l0, l1, some (.inl x), l3, l4, l5] st H = rn Ls xs d 17 72 [l0, l1, some (.inl x), l3, l4, l5] (.inl x :: st) H := rn_nx rfl rfl
theorem e_W_at_72 : rn Ls xs d 17 72 [l0, l1, l2, l3, l4, l5] (.inl y :: .inl x :: st) H = if x ≠ y then rn Ls xs d 17 82 [l0, l1, l2, l3, l4, l5] st H else rn Ls xs d 17 75 [l0, l1, l2, l3, l4, l5] st H := rn_cmp (p := fun x y => x ≠ y) rfl
theorem e_W_at_75 : rn Ls xs d 17 75 [l0, l1, l2, some (.inl x), l4, l5] st H = rn Ls xs d 17 76 [l0, l1, l2, some (.inl x), l4, l5] (.inl x :: st) H := rn_nx rfl rfl
theorem e_W_at_76 : rn Ls xs d 17 76 [l0, l1, l2, l3, l4, l5]  st H = rn Ls xs d 17 77 [l0, l1, l2, l3, l4, l5] (.inl 1 :: st) H := rn_nx rfl rfl
theorem e_W_at_77 : rn Ls xs d 17 77 [l0, l1, l2, l3, some (.inl x), l5] st H = rn Ls xs d 17 79 [l0, l1, l2, l3, some (.inl x), l5] (.inl x :: st) H := rn_nx rfl rfl
theorem e_W_at_79 : rn Ls xs d 17 79 [l0, l1, l2, l3, l4, l5] (.inl y :: .inl x :: st) H = rn Ls xs d 17 80 [l0, l1, l2, l3, l4, l5] (.inl (x <<< (y &&& 31)) :: st) H := rn_nx rfl rfl
theorem e_W_at_80 : rn Ls xs d 17 80 [l0, l1, l2, l3, l4, l5] (.inl y :: .inl x :: st) H = rn Ls xs d 17 81 [l0, l1, l2, l3, l4, l5] (.inl (x ||| y) :: st) H := rn_nx rfl rfl
theorem e_W_at_81 : rn Ls xs d 17 81 [l0, l1, l2, l3, l4, l5] (.inl x :: st) H = rn Ls xs d 17 82 [l0, l1, l2, some (.inl x), l4, l5] st H := rn_nx rfl rfl
theorem e_W_at_82 : rn Ls xs d 17 82 [l0, l1, l2, l3, some (.inl x), l5] st H = rn Ls xs d 17 85 [l0, l1, l2, l3, some (.inl (x + 1)), l5] st H := rn_nx rfl rfl
theorem e_W_at_85 : rn Ls xs d 17 85 [l0, l1, l2, l3, l4, l5] st H = rn Ls xs d 17 25 [l0, l1, l2, l3, l4, l5] st H := rn_nx rfl rfl
theorem e_W_at_88 : rn Ls xs d 17 88 [l0, l1, l2, some (.inl x), l4, l5] st H = rn Ls xs d 17 89 [l0, l1, l2, some (.inl x), l4, l5] (.inl x :: st) H := rn_nx rfl rfl
theorem e_W_at_89 : rn Ls xs d 17 89 [l0, l1, l2, l3, l4, l5] [.inl x] H = some (some (.inl x), H) := rn_done rfl rfl
theorem e_M_at_0 : rn Ls xs d 18 0 [l0, l1, l2]  st H = rn Ls xs d 18 1 [l0, l1, l2] (.inl 1 :: st) H := rn_nx rfl rfl
theorem e_M_at_1 : rn Ls xs d 18 1 [l0, some (.inl x), l2] st H = rn Ls xs d 18 2 [l0, some (.inl x), l2] (.inl x :: st) H := rn_nx rfl rfl
theorem e_M_at_2 : rn Ls xs (d + 1) 18 2 [l0, l1, l2] [v1, v0] H = rb Ls xs (d + 1) 18 5 [l0, l1, l2] [] (rn Ls xs d 98 0 [some v0, some v1] [] H) := rn_call rfl (Nat.le_of_ble_eq_true rfl) (Nat.le_of_ble_eq_true rfl) rfl rfl
theorem e_M_at_5 : rn Ls xs d 18 5 [l0, l1, l2] (.inl x :: st) H = if x = 0 then rn Ls xs d 18 25 [l0, l1, l2] st H else rn Ls xs d 18 8 [l0, l1, l2] st H := rn_if (p := fun x => x = 0) rfl
theorem e_M_at_8 : rn Ls xs d 18 8 [l0, l1, l2]  st H = rn Ls xs d 18 9 [l0, l1, l2] (.inl 2 :: st) H := rn_nx rfl rfl
theorem e_M_at_9 : rn Ls xs d 18 9 [l0, l1, some (.inl x)] st H = rn Ls xs d 18 10 [l0, l1, some (.inl x)] (.inl x :: st) H := rn_nx rfl rfl
theorem e_M_at_10 : rn Ls xs (d + 1) 18 10 [l0, l1, l2] [v1, v0] H = rb Ls xs (d + 1) 18 13 [l0, l1, l2] [] (rn Ls xs d 98 0 [some v0, some v1] [] H) := rn_call rfl (Nat.le_of_ble_eq_true rfl) (Nat.le_of_ble_eq_true rfl) rfl rfl
theorem e_M_at_13 : rn Ls xs d 18 13 [l0, l1, l2] (.inl x :: st) H = if x = 0 then rn Ls xs d 18 25 [l0, l1, l2] st H else rn Ls xs d 18 16 [l0, l1, l2] st H := rn_if (p := fun x => x = 0) rfl
theorem e_M_at_16 : rn Ls xs d 18 16 [some (.inr u), l1, l2] st H = rn Ls xs d 18 17 [some (.inr u), l1, l2] (.inr u :: st) H := rn_nx rfl rfl
theorem e_M_at_17 : rn Ls xs d 18 17 [l0, some (.inl x), l2] st H = rn Ls xs d 18 18 [l0, some (.inl x), l2] (.inl x :: st) H := rn_nx rfl rfl
theorem e_M_at_18 : rn Ls xs d 18 18 [l0, l1, some (.inl x)] st H = rn Ls xs d 18 19 [l0, l1, some (.inl x)] (.inl x :: st) H := rn_nx rfl rfl
theorem e_M_at_19 : rn Ls xs (d + 1) 18 19 [l0, l1, l2] [v2, v1, (.inr (.inl (some a)))] (S, I, R) = if h_is S a 9 36 then rb Ls xs (d + 1) 18 22 [l0, l1, l2] [] (rn Ls xs d 115 0 [some (.inr (.inl (some a))), some v1, some v2, none, none] [] (S, I, R)) else none := rn_callO rfl rfl (Nat.le_of_ble_eq_true rfl) rfl rfl
theorem e_M_at_22 : rn Ls xs d 18 22 [l0, l1, l2] st H = rn Ls xs d 18 27 [l0, l1, l2] st H := rn_nx rfl rfl
theorem e_M_at_25 : rn Ls xs d 18 25 [l0, l1, l2]  st H = rn Ls xs d 18 27 [l0, l1, l2] (.inl (-1000000001) :: st) H := rn_nx rfl rfl
theorem e_M_at_27 : rn Ls xs d 18 27 [l0, l1, l2] [.inl x] H = some (some (.inl x), H) := rn_done rfl rfl
theorem e_W_deal_0 : rn Ls xs d 19 0 [l0, some (.inl x), l2, l3] st H = rn Ls xs d 19 1 [l0, some (.inl x), l2, l3] (.inl x :: st) H := rn_nx rfl rfl
theorem e_W_deal_1 : rn Ls xs d 19 1 [l0, l1, l2, l3]  st H = rn Ls xs d 19 2 [l0, l1, l2, l3] (.inl 1 :: st) H := rn_nx rfl rfl
theorem e_W_deal_2 : rn Ls xs d 19 2 [l0, l1, l2, l3]  st H = rn Ls xs d 19 4 [l0, l1, l2, l3] (.inl 14 :: st) H := rn_nx rfl rfl
theorem e_W_deal_4 : rn Ls xs (d + 1) 19 4 [l0, l1, l2, l3] [v2, v1, v0] H = rb Ls xs (d + 1) 19 7 [l0, l1, l2, l3] [] (rn Ls xs d 94 0 [some v0, some v1, some v2] [] H) := rn_call rfl (Nat.le_of_ble_eq_true rfl) (Nat.le_of_ble_eq_true rfl) rfl rfl
theorem e_W_deal_7 : rn Ls xs d 19 7 [l0, l1, l2, l3] (.inl x :: st) H = if x ≠ 0 then rn Ls xs d 19 13 [l0, l1, l2, l3] st H else rn Ls xs d 19 10 [l0, l1, l2, l3] st H := rn_if (p := fun x => x ≠ 0) rfl
theorem e_W_deal_10 : rn Ls xs d 19 10 [l0, l1, l2, l3]  st H = rn Ls xs d 19 12 [l0, l1, l2, l3] (.inl (-1000000001) :: st) H := rn_nx rfl rfl
theorem e_W_deal_12 : rn Ls xs d 19 12 [l0, l1, l2, l3] [.inl x] H = some (some (.inl x), H) := rn_done rfl rfl
theorem e_W_deal_13 : rn Ls xs d 19 13 [l0, some (.inl x), l2, l3] st H = rn Ls xs d 19 14 [l0, some (.inl x), l2, l3] (.inl x :: st) H := rn_nx rfl rfl
theorem e_W_deal_14 : rn Ls xs d 19 14 [l0, l1, l2, l3]  st H = rn Ls xs d 19 16 [l0, l1, l2, l3] (.inl 14 :: st) H := rn_nx rfl rfl
theorem e_W_deal_16 : rn Ls xs d 19 16 [some (.inr u), l1, l2, l3] st H = rn Ls xs d 19 17 [some (.inr u), l1, l2, l3] (.inr u :: st) H := rn_nx rfl rfl
theorem e_W_deal_17 : rn Ls xs d 19 17 [l0, l1, l2, l3] (.inr (.inl (some a)) :: st) (S, I, R) = if h_is S a 8 10 then rn Ls xs d 19 20 [l0, l1, l2, l3] (.inr (R a 0) :: st) (S, I, R) else none := rn_bc rfl rfl
theorem e_W_deal_20 : rn Ls xs d 19 20 [l0, l1, l2, l3] (.inr (.inl (some a)) :: st) (S, I, R) = if h_is S a 3 11 then rn Ls xs d 19 23 [l0, l1, l2, l3] (.inl (I a 3) :: st) (S, I, R) else none := rn_bc rfl rfl
theorem e_W_deal_23 : rn Ls xs d 19 23 [l0, l1, l2, l3] (.inl y :: .inl x :: st) H = rn Ls xs d 19 24 [l0, l1, l2, l3] (.inl (x - y) :: st) H := rn_nx rfl rfl
theorem e_W_deal_24 : rn Ls xs (d + 1) 19 24 [l0, l1, l2, l3] [v1, v0] H = rb Ls xs (d + 1) 19 27 [l0, l1, l2, l3] [] (rn Ls xs d 116 0 [some v0, some v1] [] H) := rn_call rfl (Nat.le_of_ble_eq_true rfl) (Nat.le_of_ble_eq_true rfl) rfl rfl
theorem e_W_deal_27 : rn Ls xs d 19 27 [l0, l1, l2, l3] (.inl x :: st) H = rn Ls xs d 19 28 [l0, l1, some (.inl x), l3] st H := rn_nx rfl rfl
theorem e_W_deal_28 : rn Ls xs d 19 28 [l0, l1, l2, l3]  st H = rn Ls xs d 19 29 [l0, l1, l2, l3] (.inl 0 :: st) H := rn_nx rfl rfl
theorem e_W_deal_29 : rn Ls xs d 19 29 [l0, l1, l2, l3] (.inl x :: st) H = rn Ls xs d 19 30 [l0, l1, l2, some (.inl x)] st H := rn_nx rfl rfl
theorem e_W_deal_30 : rn Ls xs d 19 30 [l0, l1, l2, some (.inl x)] st H = rn Ls xs d 19 31 [l0, l1, l2, some (.inl x)] (.inl x :: st) H := rn_nx rfl rfl
theorem e_W_deal_31 : rn Ls xs d 19 31 [l0, l1, some (.inl x), l3] st H = rn Ls xs d 19 32 [l0, l1, some (.inl x), l3] (.inl x :: st) H := rn_nx rfl rfl
theorem e_W_deal_32 : rn Ls xs d 19 32 [l0, l1, l2, l3] (.inl y :: .inl x :: st) H = if y ≤ x then rn Ls xs d 19 48 [l0, l1, l2, l3] st H else rn Ls xs d 19 35 [l0, l1, l2, l3] st H := rn_cmp (p := fun x y => y ≤ x) rfl
theorem e_W_deal_35 : rn Ls xs d 19 35 [some (.inr u), l1, l2, l3] st H = rn Ls xs d 19 36 [some (.inr u), l1, l2, l3] (.inr u :: st) H := rn_nx rfl rfl
theorem e_W_deal_36 : rn Ls xs d 19 36 [l0, l1, l2, l3] (.inr (.inl (some a)) :: st) (S, I, R) = if h_is S a 8 10 then rn Ls xs d 19 39 [l0, l1, l2, l3] (.inr (R a 0) :: st) (S, I, R) else none := rn_bc rfl rfl
theorem e_W_deal_39 : rn Ls xs (d + 1) 19 39 [l0, l1, l2, l3] [(.inr (.inl (some a)))] (S, I, R) = if h_is S a 3 11 then rb Ls xs (d + 1) 19 42 [l0, l1, l2, l3] [] (rn Ls xs d 117 0 [some (.inr (.inl (some a))), none, none, none, none, none] [] (S, I, R)) else none := rn_callO rfl rfl (Nat.le_of_ble_eq_true rfl) rfl rfl
theorem e_W_deal_42 : rn Ls xs d 19 42 [l0, l1, l2, some (.inl x)] st H = rn Ls xs d 19 45 [l0, l1, l2, some (.inl (x + 1))] st H := rn_nx rfl rfl
theorem e_W_deal_45 : rn Ls xs d 19 45 [l0, l1, l2, l3] st H = rn Ls xs d 19 30 [l0, l1, l2, l3] st H := rn_nx rfl rfl
theorem e_W_deal_48 : rn Ls xs d 19 48 [l0, l1, some (.inl x), l3] st H = rn Ls xs d 19 49 [l0, l1, some (.inl x), l3] (.inl x :: st) H := rn_nx rfl rfl
theorem e_W_deal_49 : rn Ls xs d 19 49 [l0, l1, l2, l3] [.inl x] H = some (some (.inl x), H) := rn_done rfl rfl
theorem e_M_deal_0 : rn Ls xs d 20 0 [l0, some (.inl x), l2, l3, l4, l5, l6, l7] st H = rn Ls xs d 20 1 [l0, some (.inl x), l2, l3, l4, l5, l6, l7] (.inl x :: st) H := rn_nx rfl rfl
theorem e_M_deal_1 : rn Ls xs d 20 1 [l0, l1, l2, l3, l4, l5, l6, l7]  st H = rn Ls xs d 20 2 [l0, l1, l2, l3, l4, l5, l6, l7] (.inl 1 :: st) H := rn_nx rfl rfl
theorem e_M_deal_2 : rn Ls xs d 20 2 [l0, l1, l2, l3, l4, l5, l6, l7]  st H = rn Ls xs d 20 4 [l0, l1, l2, l3, l4, l5, l6, l7] (.inl 14 :: st) H := rn_nx rfl rfl
theorem e_M_deal_4 : rn Ls xs (d + 1) 20 4 [l0, l1, l2, l3, l4, l5, l6, l7] [v2, v1, v0] H = rb Ls xs (d + 1) 20 7 [l0, l1, l2, l3, l4, l5, l6, l7] [] (rn Ls xs d 97 0 [some v0, some v1, some v2] [] H) := rn_call rfl (Nat.le_of_ble_eq_true rfl) (Nat.le_of_ble_eq_true rfl) rfl rfl
theorem e_M_deal_7 : rn Ls xs d 20 7 [l0, l1, l2, l3, l4, l5, l6, l7] (.inl x :: st) H = if x ≠ 0 then rn Ls xs d 20 13 [l0, l1, l2, l3, l4, l5, l6, l7] st H else rn Ls xs d 20 10 [l0, l1, l2, l3, l4, l5, l6, l7] st H := rn_if (p := fun x => x ≠ 0) rfl
theorem e_M_deal_10 : rn Ls xs d 20 10 [l0, l1, l2, l3, l4, l5, l6, l7]  st H = rn Ls xs d 20 12 [l0, l1, l2, l3, l4, l5, l6, l7] (.inl (-1000000001) :: st) H := rn_nx rfl rfl
theorem e_M_deal_12 : rn Ls xs d 20 12 [l0, l1, l2, l3, l4, l5, l6, l7] [.inl x] H = some (some (.inl x), H) := rn_done rfl rfl
theorem e_M_deal_13 : rn Ls xs d 20 13 [l0, l1, l2, l3, l4, l5, l6, l7]  st H = rn Ls xs d 20 14 [l0, l1, l2, l3, l4, l5, l6, l7] (.inl 0 :: st) H := rn_nx rfl rfl
theorem e_M_deal_14 : rn Ls xs d 20 14 [l0, l1, l2, l3, l4, l5, l6, l7] (.inl x :: st) H = rn Ls xs d 20 15 [l0, l1, some (.inl x), l3, l4, l5, l6, l7] st H := rn_nx rfl rfl
theorem e_M_deal_15 : rn Ls xs d 20 15 [l0, l1, some (.inl x), l3, l4, l5, l6, l7] st H = rn Ls xs d 20 16 [l0, l1, some (.inl x), l3, l4, l5, l6, l7] (.inl x :: st) H := rn_nx rfl rfl
theorem e_M_deal_16 : rn Ls xs d 20 16 [l0, some (.inl x), l2, l3, l4, l5, l6, l7] st H = rn Ls xs d 20 17 [l0, some (.inl x), l2, l3, l4, l5, l6, l7] (.inl x :: st) H := rn_nx rfl rfl
theorem e_M_deal_17 : rn Ls xs d 20 17 [l0, l1, l2, l3, l4, l5, l6, l7] (.inl y :: .inl x :: st) H = if y ≤ x then rn Ls xs d 20 97 [l0, l1, l2, l3, l4, l5, l6, l7] st H else rn Ls xs d 20 20 [l0, l1, l2, l3, l4, l5, l6, l7] st H := rn_cmp (p := fun x y => y ≤ x) rfl
theorem e_M_deal_20 : rn Ls xs d 20 20 [some (.inr u), l1, l2, l3, l4, l5, l6, l7] st H = rn Ls xs d 20 21 [some (.inr u), l1, l2, l3, l4, l5, l6, l7] (.inr u :: st) H := rn_nx rfl rfl
theorem e_M_deal_21 : rn Ls xs d 20 21 [l0, l1, l2, l3, l4, l5, l6, l7] (.inr (.inl (some a)) :: st) (S, I, R) = if h_is S a 9 36 then rn Ls xs d 20 24 [l0, l1, l2, l3, l4, l5, l6, l7] (.inr (R a 0) :: st) (S, I, R) else none := rn_bc rfl rfl
theorem e_M_deal_24 : rn Ls xs d 20 24 [l0, l1, l2, l3, l4, l5, l6, l7]  st H = rn Ls xs d 20 25 [l0, l1, l2, l3, l4, l5, l6, l7] (.inl 1 :: st) H := rn_nx rfl rfl
theorem e_M_deal_25 : rn Ls xs d 20 25 [l0, l1, l2, l3, l4, l5, l6, l7] (.inl i :: .inr (.inl (some a)) :: st) (S, I, R) = if h_ia S a 0 i then rn Ls xs d 20 26 [l0, l1, l2, l3, l4, l5, l6, l7] (.inl (I a i.toNatClampNeg) :: st) (S, I, R) else none := rn_bc rfl rfl
theorem e_M_deal_26 : rn Ls xs d 20 26 [l0, l1, l2, l3, l4, l5, l6, l7]  st H = rn Ls xs d 20 28 [l0, l1, l2, l3, l4, l5, l6, l7] (.inl 14 :: st) H := rn_nx rfl rfl
theorem e_M_deal_28 : rn Ls xs d 20 28 [l0, l1, l2, l3, l4, l5, l6, l7] (.inl y :: .inl x :: st) H = if y ≤ x then rn Ls xs d 20 97 [l0, l1, l2, l3, l4, l5, l6, l7] st H else rn Ls xs d 20 31 [l0, l1, l2, l3, l4, l5, l6, l7] st H := rn_cmp (p := fun x y => y ≤ x) rfl
theorem e_M_deal_31 : rn Ls xs d 20 31 [some (.inr u), l1, l2, l3, l4, l5, l6, l7] st H = rn Ls xs d 20 32 [some (.inr u), l1, l2, l3, l4, l5, l6, l7] (.inr u :: st) H := rn_nx rfl rfl
theorem e_M_deal_32 : rn Ls xs (d + 1) 20 32 [l0, l1, l2, l3, l4, l5, l6, l7] [(.inr (.inl (some a)))] (S, I, R) = if h_is S a 9 36 then rb Ls xs (d + 1) 20 35 [l0, l1, l2, l3, l4, l5, l6, l7] [] (rn Ls xs d 118 0 [some (.inr (.inl (some a)))] [] (S, I, R)) else none := rn_callO rfl rfl (Nat.le_of_ble_eq_true rfl) rfl rfl
theorem e_M_deal_35 : rn Ls xs d 20 35 [l0, l1, l2, l3, l4, l5, l6, l7]  st H = rn Ls xs d 20 37 [l0, l1, l2, l3, l4, l5, l6, l7] (.inl 6 :: st) H := rn_nx rfl rfl
theorem e_M_deal_37 : rn Ls xs d 20 37 [l0, l1, l2, l3, l4, l5, l6, l7] (.inl y :: .inl x :: st) H = if y = 0 then none else rn Ls xs d 20 38 [l0, l1, l2, l3, l4, l5, l6, l7] (.inl (x - x / y * y) :: st) H := rn_div (f := fun x y => x - x / y * y) rfl
theorem e_M_deal_38 : rn Ls xs d 20 38 [l0, l1, l2, l3, l4, l5, l6, l7] (.inl x :: st) H = rn Ls xs d 20 39 [l0, l1, l2, some (.inl x), l4, l5, l6, l7] st H := rn_nx rfl rfl
theorem e_M_deal_39 : rn Ls xs d 20 39 [some (.inr u), l1, l2, l3, l4, l5, l6, l7] st H = rn Ls xs d 20 40 [some (.inr u), l1, l2, l3, l4, l5, l6, l7] (.inr u :: st) H := rn_nx rfl rfl
theorem e_M_deal_40 : rn Ls xs (d + 1) 20 40 [l0, l1, l2, l3, l4, l5, l6, l7] [(.inr (.inl (some a)))] (S, I, R) = if h_is S a 9 36 then rb Ls xs (d + 1) 20 43 [l0, l1, l2, l3, l4, l5, l6, l7] [] (rn Ls xs d 118 0 [some (.inr (.inl (some a)))] [] (S, I, R)) else none := rn_callO rfl rfl (Nat.le_of_ble_eq_true rfl) rfl rfl
theorem e_M_deal_43 : rn Ls xs d 20 43 [l0, l1, l2, l3, l4, l5, l6, l7]  st H = rn Ls xs d 20 45 [l0, l1, l2, l3, l4, l5, l6, l7] (.inl 8 :: st) H := rn_nx rfl rfl
theorem e_M_deal_45 : rn Ls xs d 20 45 [l0, l1, l2, l3, l4, l5, l6, l7] (.inl y :: .inl x :: st) H = if y = 0 then none else rn Ls xs d 20 46 [l0, l1, l2, l3, l4, l5, l6, l7] (.inl (x - x / y * y) :: st) H := rn_div (f := fun x y => x - x / y * y) rfl
theorem e_M_deal_46 : rn Ls xs d 20 46 [l0, l1, l2, l3, l4, l5, l6, l7] (.inl x :: st) H = rn Ls xs d 20 48 [l0, l1, l2, l3, some (.inl x), l5, l6, l7] st H := rn_nx rfl rfl
theorem e_M_deal_48 : rn Ls xs d 20 48 [some (.inr u), l1, l2, l3, l4, l5, l6, l7] st H = rn Ls xs d 20 49 [some (.inr u), l1, l2, l3, l4, l5, l6, l7] (.inr u :: st) H := rn_nx rfl rfl
theorem e_M_deal_49 : rn Ls xs (d + 1) 20 49 [l0, l1, l2, l3, l4, l5, l6, l7] [(.inr (.inl (some a)))] (S, I, R) = if h_is S a 9 36 then rb Ls xs (d + 1) 20 52 [l0, l1, l2, l3, l4, l5, l6, l7] [] (rn Ls xs d 118 0 [some (.inr (.inl (some a)))] [] (S, I, R)) else none := rn_callO rfl rfl (Nat.le_of_ble_eq_true rfl) rfl rfl
theorem e_M_deal_52 : rn Ls xs d 20 52 [l0, l1, l2, l3, l4, l5, l6, l7]  st H = rn Ls xs d 20 54 [l0, l1, l2, l3, l4, l5, l6, l7] (.inl 30 :: st) H := rn_nx rfl rfl
theorem e_M_deal_54 : rn Ls xs d 20 54 [l0, l1, l2, l3, l4, l5, l6, l7] (.inl y :: .inl x :: st) H = if y = 0 then none else rn Ls xs d 20 55 [l0, l1, l2, l3, l4, l5, l6, l7] (.inl (x - x / y * y) :: st) H := rn_div (f := fun x y => x - x / y * y) rfl
theorem e_M_deal_55 : rn Ls xs d 20 55 [l0, l1, l2, l3, l4, l5, l6, l7] (.inl x :: st) H = rn Ls xs d 20 57 [l0, l1, l2, l3, l4, some (.inl x), l6, l7] st H := rn_nx rfl rfl
theorem e_M_deal_57 : rn Ls xs d 20 57 [some (.inr u), l1, l2, l3, l4, l5, l6, l7] st H = rn Ls xs d 20 58 [some (.inr u), l1, l2, l3, l4, l5, l6, l7] (.inr u :: st) H := rn_nx rfl rfl
theorem e_M_deal_58 : rn Ls xs (d + 1) 20 58 [l0, l1, l2, l3, l4, l5, l6, l7] [(.inr (.inl (some a)))] (S, I, R) = if h_is S a 9 36 then rb Ls xs (d + 1) 20 61 [l0, l1, l2, l3, l4, l5, l6, l7] [] (rn Ls xs d 118 0 [some (.inr (.inl (some a)))] [] (S, I, R)) else none := rn_callO rfl rfl (Nat.le_of_ble_eq_true rfl) rfl rfl
theorem e_M_deal_61 : rn Ls xs d 20 61 [l0, l1, l2, l3, l4, l5, l6, l7]  st H = rn Ls xs d 20 63 [l0, l1, l2, l3, l4, l5, l6, l7] (.inl 19 :: st) H := rn_nx rfl rfl
theorem e_M_deal_63 : rn Ls xs d 20 63 [l0, l1, l2, l3, l4, l5, l6, l7] (.inl y :: .inl x :: st) H = if y = 0 then none else rn Ls xs d 20 64 [l0, l1, l2, l3, l4, l5, l6, l7] (.inl (x - x / y * y) :: st) H := rn_div (f := fun x y => x - x / y * y) rfl
theorem e_M_deal_64 : rn Ls xs d 20 64 [l0, l1, l2, l3, l4, l5, l6, l7]  st H = rn Ls xs d 20 66 [l0, l1, l2, l3, l4, l5, l6, l7] (.inl 9 :: st) H := rn_nx rfl rfl
theorem e_M_deal_66 : rn Ls xs d 20 66 [l0, l1, l2, l3, l4, l5, l6, l7] (.inl y :: .inl x :: st) H = rn Ls xs d 20 67 [l0, l1, l2, l3, l4, l5, l6, l7] (.inl (x - y) :: st) H := rn_nx rfl rfl
theorem e_M_deal_67 : rn Ls xs d 20 67 [l0, l1, l2, l3, l4, l5, l6, l7] (.inl x :: st) H = rn Ls xs d 20 69 [l0, l1, l2, l3, l4, l5, some (.inl x), l7] st H := rn_nx rfl rfl
theorem e_M_deal_69 : rn Ls xs d 20 69 [some (.inr u), l1, l2, l3, l4, l5, l6, l7] st H = rn Ls xs d 20 70 [some (.inr u), l1, l2, l3, l4, l5, l6, l7] (.inr u :: st) H := rn_nx rfl rfl
theorem e_M_deal_70 : rn Ls xs d 20 70 [l0, l1, l2, some (.inl x), l4, l5, l6, l7] st H = rn Ls xs d 20 71 [l0, l1, l2, some (.inl x), l4, l5, l6, l7] (.inl x :: st) H := rn_nx rfl rfl
theorem e_M_deal_71 : rn Ls xs d 20 71 [l0, l1, l2, l3, some (.inl x), l5, l6, l7] st H = rn Ls xs d 20 73 [l0, l1, l2, l3, some (.inl x), l5, l6, l7] (.inl x :: st) H := rn_nx rfl rfl
theorem e_M_deal_73 : rn Ls xs d 20 73 [l0, l1, l2, l3, l4, some (.inl x), l6, l7] st H = rn Ls xs d 20 75 [l0, l1, l2, l3, l4, some (.inl x), l6, l7] (.inl x :: st) H := rn_nx rfl rfl
theorem e_M_deal_75 : rn Ls xs d 20 75 [l0, l1, l2, l3, l4, l5, some (.inl x), l7] st H = rn Ls xs d 20 77 [l0, l1, l2, l3, l4, l5, some (.inl x), l7] (.inl x :: st) H := rn_nx rfl rfl
theorem e_M_deal_77 : rn Ls xs d 20 77 [l0, l1, l2, l3, l4, l5, l6, l7]  st H = rn Ls xs d 20 78 [l0, l1, l2, l3, l4, l5, l6, l7] (.inl 1 :: st) H := rn_nx rfl rfl
theorem e_M_deal_78 : rn Ls xs d 20 78 [some (.inr u), l1, l2, l3, l4, l5, l6, l7] st H = rn Ls xs d 20 79 [some (.inr u), l1, l2, l3, l4, l5, l6, l7] (.inr u :: st) H := rn_nx rfl rfl
theorem e_M_deal_79 : rn Ls xs (d + 1) 20 79 [l0, l1, l2, l3, l4, l5, l6, l7] [(.inr (.inl (some a))), v1, v2, v3, v4, v5, v6] (S, I, R) = if h_is S a 9 36 then rb Ls xs (d + 1) 20 82 [l0, l1, l2, l3, l4, l5, l6, l7] [v1, v2, v3, v4, v5, v6] (rn Ls xs d 118 0 [some (.inr (.inl (some a)))] [] (S, I, R)) else none := rn_callO rfl rfl (Nat.le_of_ble_eq_true rfl) rfl rfl
theorem e_M_deal_82 : rn Ls xs d 20 82 [l0, l1, l2, l3, l4, l5, l6, l7]  st H = rn Ls xs d 20 84 [l0, l1, l2, l3, l4, l5, l6, l7] (.inl 30 :: st) H := rn_nx rfl rfl
theorem e_M_deal_84 : rn Ls xs d 20 84 [l0, l1, l2, l3, l4, l5, l6, l7] (.inl y :: .inl x :: st) H = if y = 0 then none else rn Ls xs d 20 85 [l0, l1, l2, l3, l4, l5, l6, l7] (.inl (x - x / y * y) :: st) H := rn_div (f := fun x y => x - x / y * y) rfl
theorem e_M_deal_85 : rn Ls xs d 20 85 [l0, l1, l2, l3, l4, l5, l6, l7] (.inl y :: .inl x :: st) H = rn Ls xs d 20 86 [l0, l1, l2, l3, l4, l5, l6, l7] (.inl (x + y) :: st) H := rn_nx rfl rfl
theorem e_M_deal_86 : rn Ls xs (d + 1) 20 86 [l0, l1, l2, l3, l4, l5, l6, l7] [v5, v4, v3, v2, v1, (.inr (.inl (some a)))] (S, I, R) = if h_is S a 9 36 then rb Ls xs (d + 1) 20 89 [l0, l1, l2, l3, l4, l5, l6, l7] [] (rn Ls xs d 99 0 [some (.inr (.inl (some a))), some v1, some v2, some v3, some v4, some v5, none] [] (S, I, R)) else none := rn_callO rfl rfl (Nat.le_of_ble_eq_true rfl) rfl rfl
theorem e_M_deal_89 : rn Ls xs d 20 89 [l0, l1, l2, l3, l4, l5, l6, l7] (.inl x :: st) H = rn Ls xs d 20 91 [l0, l1, l2, l3, l4, l5, l6, some (.inl x)] st H := rn_nx rfl rfl
theorem e_M_deal_91 : rn Ls xs d 20 91 [l0, l1, some (.inl x), l3, l4, l5, l6, l7] st H = rn Ls xs d 20 94 [l0, l1, some (.inl (x + 1)), l3, l4, l5, l6, l7] st H := rn_nx rfl rfl
theorem e_M_deal_94 : rn Ls xs d 20 94 [l0, l1, l2, l3, l4, l5, l6, l7] st H = rn Ls xs d 20 15 [l0, l1, l2, l3, l4, l5, l6, l7] st H := rn_nx rfl rfl
theorem e_M_deal_97 : rn Ls xs d 20 97 [l0, l1, some (.inl x), l3, l4, l5, l6, l7] st H = rn Ls xs d 20 98 [l0, l1, some (.inl x), l3, l4, l5, l6, l7] (.inl x :: st) H := rn_nx rfl rfl
theorem e_M_deal_98 : rn Ls xs d 20 98 [l0, l1, l2, l3, l4, l5, l6, l7] [.inl x] H = some (some (.inl x), H) := rn_done rfl rfl
theorem e_W_seed_0 : rn Ls xs d 21 0 [some (.inr u), l1, l2] st H = rn Ls xs d 21 1 [some (.inr u), l1, l2] (.inr u :: st) H := rn_nx rfl rfl
theorem e_W_seed_1 : rn Ls xs d 21 1 [l0, l1, l2] (.inr (.inl (some a)) :: st) (S, I, R) = if h_is S a 8 10 then rn Ls xs d 21 4 [l0, l1, l2] (.inr (R a 0) :: st) (S, I, R) else none := rn_bc rfl rfl
theorem e_W_seed_4 : rn Ls xs d 21 4 [l0, l1, l2] (.inr (.inl (some a)) :: st) (S, I, R) = if h_is S a 3 11 then rn Ls xs d 21 7 [l0, l1, l2] (.inl (I a 10) :: st) (S, I, R) else none := rn_bc rfl rfl
theorem e_W_seed_7 : rn Ls xs d 21 7 [l0, l1, l2] (.inl x :: st) H = rn Ls xs d 21 8 [l0, l1, some (.inl x)] st H := rn_nx rfl rfl
theorem e_W_seed_8 : rn Ls xs d 21 8 [some (.inr u), l1, l2] st H = rn Ls xs d 21 9 [some (.inr u), l1, l2] (.inr u :: st) H := rn_nx rfl rfl
theorem e_W_seed_9 : rn Ls xs d 21 9 [l0, l1, l2] (.inr (.inl (some a)) :: st) (S, I, R) = if h_is S a 8 10 then rn Ls xs d 21 12 [l0, l1, l2] (.inr (R a 0) :: st) (S, I, R) else none := rn_bc rfl rfl
theorem e_W_seed_12 : rn Ls xs d 21 12 [l0, some (.inl x), l2] st H = rn Ls xs d 21 13 [l0, some (.inl x), l2] (.inl x :: st) H := rn_nx rfl rfl
theorem e_W_seed_13 : rn Ls xs d 21 13 [l0, l1, l2] (.inl x :: .inr (.inl (some a)) :: st) (S, I, R) = if h_is S a 3 11 then rn Ls xs d 21 16 [l0, l1, l2] st (S, va_up I a (upd (I a) 10 x), R) else none := rn_bc rfl rfl
theorem e_W_seed_16 : rn Ls xs d 21 16 [l0, l1, some (.inl x)] st H = rn Ls xs d 21 17 [l0, l1, some (.inl x)] (.inl x :: st) H := rn_nx rfl rfl
theorem e_W_seed_17 : rn Ls xs d 21 17 [l0, l1, l2] [.inl x] H = some (some (.inl x), H) := rn_done rfl rfl
theorem e_M_seed_0 : rn Ls xs d 22 0 [some (.inr u), l1] st H = rn Ls xs d 22 1 [some (.inr u), l1] (.inr u :: st) H := rn_nx rfl rfl
theorem e_M_seed_1 : rn Ls xs d 22 1 [l0, l1]  st H = rn Ls xs d 22 2 [l0, l1] (.inl 0 :: st) H := rn_nx rfl rfl
theorem e_M_seed_2 : rn Ls xs d 22 2 [l0, some (.inl x)] st H = rn Ls xs d 22 3 [l0, some (.inl x)] (.inl x :: st) H := rn_nx rfl rfl
theorem e_M_seed_3 : rn Ls xs (d + 1) 22 3 [l0, l1] [v2, v1, (.inr (.inl (some a)))] (S, I, R) = if h_is S a 9 36 then rb Ls xs (d + 1) 22 6 [l0, l1] [] (rn Ls xs d 111 0 [some (.inr (.inl (some a))), some v1, some v2, none] [] (S, I, R)) else none := rn_callO rfl rfl (Nat.le_of_ble_eq_true rfl) rfl rfl
theorem e_M_seed_6 : rn Ls xs d 22 6 [l0, l1] [.inl x] H = some (some (.inl x), H) := rn_done rfl rfl
theorem e_W_hours_0 : rn Ls xs d 23 0 [l0, some (.inl x), l2] st H = rn Ls xs d 23 1 [l0, some (.inl x), l2] (.inl x :: st) H := rn_nx rfl rfl
theorem e_W_hours_1 : rn Ls xs d 23 1 [l0, l1, l2]  st H = rn Ls xs d 23 2 [l0, l1, l2] (.inl 1 :: st) H := rn_nx rfl rfl
theorem e_W_hours_2 : rn Ls xs d 23 2 [l0, l1, l2]  st H = rn Ls xs d 23 4 [l0, l1, l2] (.inl 100 :: st) H := rn_nx rfl rfl
theorem e_W_hours_4 : rn Ls xs (d + 1) 23 4 [l0, l1, l2] [v2, v1, v0] H = rb Ls xs (d + 1) 23 7 [l0, l1, l2] [] (rn Ls xs d 94 0 [some v0, some v1, some v2] [] H) := rn_call rfl (Nat.le_of_ble_eq_true rfl) (Nat.le_of_ble_eq_true rfl) rfl rfl
theorem e_W_hours_7 : rn Ls xs d 23 7 [l0, l1, l2] (.inl x :: st) H = if x ≠ 0 then rn Ls xs d 23 13 [l0, l1, l2] st H else rn Ls xs d 23 10 [l0, l1, l2] st H := rn_if (p := fun x => x ≠ 0) rfl
theorem e_W_hours_10 : rn Ls xs d 23 10 [l0, l1, l2]  st H = rn Ls xs d 23 12 [l0, l1, l2] (.inl (-1000000001) :: st) H := rn_nx rfl rfl
theorem e_W_hours_12 : rn Ls xs d 23 12 [l0, l1, l2] [.inl x] H = some (some (.inl x), H) := rn_done rfl rfl
theorem e_W_hours_13 : rn Ls xs d 23 13 [some (.inr u), l1, l2] st H = rn Ls xs d 23 14 [some (.inr u), l1, l2] (.inr u :: st) H := rn_nx rfl rfl
theorem e_W_hours_14 : rn Ls xs d 23 14 [l0, l1, l2] (.inr (.inl (some a)) :: st) (S, I, R) = if h_is S a 8 10 then rn Ls xs d 23 17 [l0, l1, l2] (.inr (R a 0) :: st) (S, I, R) else none := rn_bc rfl rfl
theorem e_W_hours_17 : rn Ls xs d 23 17 [l0, l1, l2] (.inr (.inl (some a)) :: st) (S, I, R) = if h_is S a 3 11 then rn Ls xs d 23 20 [l0, l1, l2] (.inl (I a 6) :: st) (S, I, R) else none := rn_bc rfl rfl
theorem e_W_hours_20 : rn Ls xs d 23 20 [l0, l1, l2] (.inl x :: st) H = rn Ls xs d 23 21 [l0, l1, some (.inl x)] st H := rn_nx rfl rfl
theorem e_W_hours_21 : rn Ls xs d 23 21 [some (.inr u), l1, l2] st H = rn Ls xs d 23 22 [some (.inr u), l1, l2] (.inr u :: st) H := rn_nx rfl rfl
theorem e_W_hours_22 : rn Ls xs d 23 22 [l0, l1, l2] (.inr (.inl (some a)) :: st) (S, I, R) = if h_is S a 8 10 then rn Ls xs d 23 25 [l0, l1, l2] (.inr (R a 0) :: st) (S, I, R) else none := rn_bc rfl rfl
theorem e_W_hours_25 : rn Ls xs d 23 25 [l0, some (.inl x), l2] st H = rn Ls xs d 23 26 [l0, some (.inl x), l2] (.inl x :: st) H := rn_nx rfl rfl
theorem e_W_hours_26 : rn Ls xs d 23 26 [l0, l1, l2]  st H = rn Ls xs d 23 29 [l0, l1, l2] (.inl 9999 :: st) H := rn_nx rfl rfl
theorem e_W_hours_29 : rn Ls xs d 23 29 [some (.inr u), l1, l2] st H = rn Ls xs d 23 30 [some (.inr u), l1, l2] (.inr u :: st) H := rn_nx rfl rfl
theorem e_W_hours_30 : rn Ls xs d 23 30 [l0, l1, l2] (.inr (.inl (some a)) :: st) (S, I, R) = if h_is S a 8 10 then rn Ls xs d 23 33 [l0, l1, l2] (.inr (R a 0) :: st) (S, I, R) else none := rn_bc rfl rfl
theorem e_W_hours_33 : rn Ls xs d 23 33 [l0, l1, l2] (.inr (.inl (some a)) :: st) (S, I, R) = if h_is S a 3 11 then rn Ls xs d 23 36 [l0, l1, l2] (.inl (I a 9) :: st) (S, I, R) else none := rn_bc rfl rfl
theorem e_W_hours_36 : rn Ls xs d 23 36 [l0, l1, l2] (.inl y :: .inl x :: st) H = rn Ls xs d 23 37 [l0, l1, l2] (.inl (x - y) :: st) H := rn_nx rfl rfl
theorem e_W_hours_37 : rn Ls xs (d + 1) 23 37 [l0, l1, l2] [v1, v0, v2] H = rb Ls xs (d + 1) 23 40 [l0, l1, l2] [v2] (rn Ls xs d 116 0 [some v0, some v1] [] H) := rn_call rfl (Nat.le_of_ble_eq_true rfl) (Nat.le_of_ble_eq_true rfl) rfl rfl
theorem e_W_hours_40 : rn Ls xs (d + 1) 23 40 [l0, l1, l2] [v1, (.inr (.inl (some a)))] (S, I, R) = if h_is S a 3 11 then rb Ls xs (d + 1) 23 43 [l0, l1, l2] [] (rn Ls xs d 119 0 [some (.inr (.inl (some a))), some v1, none] [] (S, I, R)) else none := rn_callO rfl rfl (Nat.le_of_ble_eq_true rfl) rfl rfl
theorem e_W_hours_43 : rn Ls xs d 23 43 [some (.inr u), l1, l2] st H = rn Ls xs d 23 44 [some (.inr u), l1, l2] (.inr u :: st) H := rn_nx rfl rfl
theorem e_W_hours_44 : rn Ls xs d 23 44 [l0, l1, l2] (.inr (.inl (some a)) :: st) (S, I, R) = if h_is S a 8 10 then rn Ls xs d 23 47 [l0, l1, l2] (.inr (R a 0) :: st) (S, I, R) else none := rn_bc rfl rfl
theorem e_W_hours_47 : rn Ls xs d 23 47 [l0, l1, l2] (.inr (.inl (some a)) :: st) (S, I, R) = if h_is S a 3 11 then rn Ls xs d 23 50 [l0, l1, l2] (.inl (I a 6) :: st) (S, I, R) else none := rn_bc rfl rfl
theorem e_W_hours_50 : rn Ls xs d 23 50 [l0, l1, some (.inl x)] st H = rn Ls xs d 23 51 [l0, l1, some (.inl x)] (.inl x :: st) H := rn_nx rfl rfl
theorem e_W_hours_51 : rn Ls xs d 23 51 [l0, l1, l2] (.inl y :: .inl x :: st) H = rn Ls xs d 23 52 [l0, l1, l2] (.inl (x - y) :: st) H := rn_nx rfl rfl
theorem e_W_hours_52 : rn Ls xs d 23 52 [l0, l1, l2] [.inl x] H = some (some (.inl x), H) := rn_done rfl rfl
theorem e_M_hours_0 : rn Ls xs d 24 0 [l0, some (.inl x), l2] st H = rn Ls xs d 24 1 [l0, some (.inl x), l2] (.inl x :: st) H := rn_nx rfl rfl
theorem e_M_hours_1 : rn Ls xs d 24 1 [l0, l1, l2]  st H = rn Ls xs d 24 2 [l0, l1, l2] (.inl 1 :: st) H := rn_nx rfl rfl
theorem e_M_hours_2 : rn Ls xs d 24 2 [l0, l1, l2]  st H = rn Ls xs d 24 4 [l0, l1, l2] (.inl 100 :: st) H := rn_nx rfl rfl
theorem e_M_hours_4 : rn Ls xs (d + 1) 24 4 [l0, l1, l2] [v2, v1, v0] H = rb Ls xs (d + 1) 24 7 [l0, l1, l2] [] (rn Ls xs d 97 0 [some v0, some v1, some v2] [] H) := rn_call rfl (Nat.le_of_ble_eq_true rfl) (Nat.le_of_ble_eq_true rfl) rfl rfl
theorem e_M_hours_7 : rn Ls xs d 24 7 [l0, l1, l2] (.inl x :: st) H = if x ≠ 0 then rn Ls xs d 24 13 [l0, l1, l2] st H else rn Ls xs d 24 10 [l0, l1, l2] st H := rn_if (p := fun x => x ≠ 0) rfl
theorem e_M_hours_10 : rn Ls xs d 24 10 [l0, l1, l2]  st H = rn Ls xs d 24 12 [l0, l1, l2] (.inl (-1000000001) :: st) H := rn_nx rfl rfl
theorem e_M_hours_12 : rn Ls xs d 24 12 [l0, l1, l2] [.inl x] H = some (some (.inl x), H) := rn_done rfl rfl
theorem e_M_hours_13 : rn Ls xs d 24 13 [some (.inr u), l1, l2] st H = rn Ls xs d 24 14 [some (.inr u), l1, l2] (.inr u :: st) H := rn_nx rfl rfl
theorem e_M_hours_14 : rn Ls xs d 24 14 [l0, l1, l2] (.inr (.inl (some a)) :: st) (S, I, R) = if h_is S a 9 36 then rn Ls xs d 24 17 [l0, l1, l2] (.inr (R a 0) :: st) (S, I, R) else none := rn_bc rfl rfl
theorem e_M_hours_17 : rn Ls xs d 24 17 [l0, l1, l2]  st H = rn Ls xs d 24 18 [l0, l1, l2] (.inl 4 :: st) H := rn_nx rfl rfl
theorem e_M_hours_18 : rn Ls xs d 24 18 [l0, l1, l2] (.inl i :: .inr (.inl (some a)) :: st) (S, I, R) = if h_ia S a 0 i then rn Ls xs d 24 19 [l0, l1, l2] (.inl (I a i.toNatClampNeg) :: st) (S, I, R) else none := rn_bc rfl rfl
theorem e_M_hours_19 : rn Ls xs d 24 19 [l0, l1, l2] (.inl x :: st) H = rn Ls xs d 24 20 [l0, l1, some (.inl x)] st H := rn_nx rfl rfl
theorem e_M_hours_20 : rn Ls xs d 24 20 [some (.inr u), l1, l2] st H = rn Ls xs d 24 21 [some (.inr u), l1, l2] (.inr u :: st) H := rn_nx rfl rfl
theorem e_M_hours_21 : rn Ls xs d 24 21 [l0, l1, l2]  st H = rn Ls xs d 24 24 [l0, l1, l2] (.inl 9999 :: st) H := rn_nx rfl rfl
theorem e_M_hours_24 : rn Ls xs d 24 24 [some (.inr u), l1, l2] st H = rn Ls xs d 24 25 [some (.inr u), l1, l2] (.inr u :: st) H := rn_nx rfl rfl
theorem e_M_hours_25 : rn Ls xs d 24 25 [l0, l1, l2] (.inr (.inl (some a)) :: st) (S, I, R) = if h_is S a 9 36 then rn Ls xs d 24 28 [l0, l1, l2] (.inr (R a 0) :: st) (S, I, R) else none := rn_bc rfl rfl
theorem e_M_hours_28 : rn Ls xs d 24 28 [l0, l1, l2]  st H = rn Ls xs d 24 29 [l0, l1, l2] (.inl 2 :: st) H := rn_nx rfl rfl
theorem e_M_hours_29 : rn Ls xs d 24 29 [l0, l1, l2] (.inl i :: .inr (.inl (some a)) :: st) (S, I, R) = if h_ia S a 0 i then rn Ls xs d 24 30 [l0, l1, l2] (.inl (I a i.toNatClampNeg) :: st) (S, I, R) else none := rn_bc rfl rfl
theorem e_M_hours_30 : rn Ls xs d 24 30 [l0, l1, l2] (.inl y :: .inl x :: st) H = rn Ls xs d 24 31 [l0, l1, l2] (.inl (x - y) :: st) H := rn_nx rfl rfl
theorem e_M_hours_31 : rn Ls xs d 24 31 [l0, l1, l2]  st H = rn Ls xs d 24 32 [l0, l1, l2] (.inl 0 :: st) H := rn_nx rfl rfl
theorem e_M_hours_32 : rn Ls xs d 24 32 [l0, some (.inl x), l2] st H = rn Ls xs d 24 33 [l0, some (.inl x), l2] (.inl x :: st) H := rn_nx rfl rfl
theorem e_M_hours_33 : rn Ls xs (d + 1) 24 33 [l0, l1, l2] [v2, v1, v0, v3] H = rb Ls xs (d + 1) 24 36 [l0, l1, l2] [v3] (rn Ls xs d 120 0 [some v0, some v1, some v2] [] H) := rn_call rfl (Nat.le_of_ble_eq_true rfl) (Nat.le_of_ble_eq_true rfl) rfl rfl
theorem e_M_hours_36 : rn Ls xs (d + 1) 24 36 [l0, l1, l2] [v1, (.inr (.inl (some a)))] (S, I, R) = if h_is S a 9 36 then rb Ls xs (d + 1) 24 39 [l0, l1, l2] [] (rn Ls xs d 121 0 [some (.inr (.inl (some a))), some v1, none] [] (S, I, R)) else none := rn_callO rfl rfl (Nat.le_of_ble_eq_true rfl) rfl rfl
theorem e_M_hours_39 : rn Ls xs d 24 39 [some (.inr u), l1, l2] st H = rn Ls xs d 24 40 [some (.inr u), l1, l2] (.inr u :: st) H := rn_nx rfl rfl
theorem e_M_hours_40 : rn Ls xs d 24 40 [l0, l1, l2] (.inr (.inl (some a)) :: st) (S, I, R) = if h_is S a 9 36 then rn Ls xs d 24 43 [l0, l1, l2] (.inr (R a 0) :: st) (S, I, R) else none := rn_bc rfl rfl
theorem e_M_hours_43 : rn Ls xs d 24 43 [l0, l1, l2]  st H = rn Ls xs d 24 44 [l0, l1, l2] (.inl 4 :: st) H := rn_nx rfl rfl
theorem e_M_hours_44 : rn Ls xs d 24 44 [l0, l1, l2] (.inl i :: .inr (.inl (some a)) :: st) (S, I, R) = if h_ia S a 0 i then rn Ls xs d 24 45 [l0, l1, l2] (.inl (I a i.toNatClampNeg) :: st) (S, I, R) else none := rn_bc rfl rfl
theorem e_M_hours_45 : rn Ls xs d 24 45 [l0, l1, some (.inl x)] st H = rn Ls xs d 24 46 [l0, l1, some (.inl x)] (.inl x :: st) H := rn_nx rfl rfl
theorem e_M_hours_46 : rn Ls xs d 24 46 [l0, l1, l2] (.inl y :: .inl x :: st) H = rn Ls xs d 24 47 [l0, l1, l2] (.inl (x - y) :: st) H := rn_nx rfl rfl
theorem e_M_hours_47 : rn Ls xs d 24 47 [l0, l1, l2] [.inl x] H = some (some (.inl x), H) := rn_done rfl rfl
end EQ
